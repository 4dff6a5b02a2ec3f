set_option maxHeartbeats 2000000 in
set_option maxRecDepth 100000 in
theorem lw_cell {p : Program} {e : Env} {s : State} {m : MethodId} {below : List Frame} {meth : Method} {c : Code} (l : Launch) {b L : Nat} {xs : Nat → Int32} (hL : L ≤ 3073) (C0 : lw_At p s m meth c b L xs) {D : va_G} {t : Nat → ClassId} {sa1 sa2 : Nat} (hC : LC l D t sa1 sa2 s) {ad r bd : Nat → Nat} {qo sz i N cells slots : Nat} {H : Heap} {locs : List Loc} {ls : Array Slot} (hi : i + 6 ≤ L) (hN9 : N ≤ 900) (hI : LI D t s b ad r bd qo sz i N H locs ls) (hc : cells + 6 ≤ room_1.cells) (hs : slots + 80 ≤ room_1.slots)
    (next : ∀ (H : Heap) (locs : List Loc) (ls : Array Slot), LI D t s b ad r bd qo sz i (N + 1) H locs ls → W p l e room_1 s m #[Value.ref b] below meth c H locs (cells + 6) (slots + 80) (lw_Z below #[Value.ref b] s) (F0 m 826 ls [])) : W p l e room_1 s m #[Value.ref b] below meth c H locs cells slots (lw_Z below #[Value.ref b] s) (F0 m 713 ls []) := by
  obtain ⟨hx, hb, hr, hml, hown, hts, hX, hbl, hlk, hgv⟩ := id C0
  have hown : s.vm.findClass RL = some m.cls := hown
  obtain ⟨hl0, hK, hN, hR1, hR2, hU, hV⟩ := id hC
  have hA : ∀ q : Nat, s.heap.size ≤ q → (fun q : Nat => s.heap.size ≤ q) q := fun _ h => h
  have hbA : ¬ (fun q : Nat => s.heap.size ≤ q) b := Nat.not_le.mpr hbl
  obtain ⟨nr, rs, re, rr, ns, sl, sa9, sk, gf, nt, ts, te, stk, cm, dp, nb, B, lc, kc, last, sc, K, tr, th, pd, np, fs, es, ri, ln, al, ki, km, st, oc, tk, ce, pl, tl, kp, ca, cp, su, de, og, hP, hD, hS, hl, hReg, hSec, hPlc, hTak, hFun, hBlk, hnp⟩ := hI
  obtain ⟨g1, g2, g3, g4, g5, g6, g7, g8⟩ := id hReg
  obtain ⟨s1, s2, s3, s4, s5, s6, s7, s8, s9, s10⟩ := id hSec
  obtain ⟨p1, p2, p3, p4, p5, p6, p7, p8, p9, p10, p11, p12⟩ := id hPlc
  obtain ⟨k1, k2, k3⟩ := id hTak
  obtain ⟨f1, f2, f3, f4, f5, f6⟩ := id hFun
  obtain ⟨b1, b2, b3, b4, b5⟩ := id hBlk
  refine lv_aload_n hx hb dL_law_713 rfl (lv_at hl 3 rfl) ?_
  refine lv_aload_n hx hb dL_law_714 rfl (lv_at hl 4 rfl) ?_
  refine lv_iload hx hb dL_law_715 (lv_at hl 0 rfl) ?_
  refine lv_iconst (v := (nI 1)) hx hb dL_law_717 (by decide) ?_
  refine r_iadd (x := i) (y := 1) hx hb dL_law_718 ?_
  refine r_sld hx hb hX hbl hbA hS (by omega) hL dL_law_719 ?_
  refine lv_i2l hx hb dL_law_720 rfl ?_
  refine lv_bipush (v := (nI 32)) hx hb dL_law_721 (by decide) ?_
  refine lv_lshl hx hb dL_law_723 rfl ?_
  refine lv_aload_n hx hb dL_law_724 rfl (lv_at hl 4 rfl) ?_
  refine lv_iload hx hb dL_law_725 (lv_at hl 0 rfl) ?_
  refine lv_iconst (v := (nI 2)) hx hb dL_law_727 (by decide) ?_
  refine r_iadd (x := i) (y := 2) hx hb dL_law_728 ?_
  refine r_sld hx hb hX hbl hbA hS (by omega) hL dL_law_729 ?_
  refine lv_i2l hx hb dL_law_730 rfl ?_
  refine lv_ldc2 (v := (lN 4294967295)) hx hb hown (hts _ wL_7) dL_law_731 ?_
  refine lv_land hx hb dL_law_734 ?_
  refine lv_lor hx hb dL_law_735 ?_
  refine r_topl (y := (lwJ ((xs (i + 1))) ((xs (i + 2))))) rfl ?_
  refine lv_aload_n hx hb dL_law_736 rfl (lv_at hl 1 rfl) ?_
  refine call_Mip (wc := ((qo, .inl (t 2, 1, .inr (.inl og))) :: (WMd t ad sz nr rs re rr ns sl sa9 sk gf nt ts te stk cm dp nb B lc kc last sc r K tr))) (wc' := fun o : Option (Int32 × (Unit)) => wsO (t 2) qo og (WMd t ad sz nr rs re rr ns sl sa9 sk gf nt ts te stk cm dp nb B lc kc last sc r K tr) (fun u : Unit => (WMd t ad sz nr rs re rr ns sl sa9 sk gf nt ts te stk cm dp nb B lc kc last sc r K tr)) o) [] (WRd t bd th sz nr ns pd np nb fs es ri ln al ki km st oc tk ce pl tl kp ca cp su de) (vx_runSW (hh := [(0, 9, 12, 19)]) (As := [.ref (ad 0), .long ((lwJ ((xs (i + 1))) ((xs (i + 2))))), .ref qo]) (rest := []) ⟨hx, hb, hml, hown, hts⟩ (c_L_cell_ l D t sa2 (ad 0) qo (lwJ (xs (i + 1)) (xs (i + 2))) og (WMd t ad sz nr rs re rr ns sl sa9 sk gf nt ts te stk cm dp nb B lc kc last sc r K tr) _ (c_X7_cell l hl0 D t sa2 ad sz nr rs re rr ns sl sa9 sk gf nt ts te stk cm dp nb B lc kc last sc r K tr (lwJ (xs (i + 1)) (xs (i + 2))) g1 (by omega) p5 s2) rfl _) (vx_cwSW 3 hts gL_law_L_cell_ rfl rfl rfl (by decide +kernel) ⟨Nat.le_of_ble_eq_true rfl, Nat.le_of_ble_eq_true rfl⟩) (preSX (wc := ((qo, .inl (t 2, 1, .inr (.inl og))) :: (WMd t ad sz nr rs re rr ns sl sa9 sk gf nt ts te stk cm dp nb B lc kc last sc r K tr))) [] (WRd t bd th sz nr ns pd np nb fs es ri ln al ki km st oc tk ce pl tl kp ca cp su de) hP hD hS hA hK hN hR2 hU hV) rfl rfl hl.1 rfl (lv_room (Nat.le_of_ble_eq_true rfl)) dL_law_737 ⟨(Nat.le_trans (Nat.add_le_add_left (Nat.le_of_ble_eq_true rfl) _) hc), (Nat.le_trans (Nat.add_le_add_left (Nat.le_of_ble_eq_true rfl) _) hs)⟩) hP hD hS hA (fun kk o H locs h7 hP hD hS hz => ?_)
  refine W.widen (k := cells + 6) (n := slots + 80) (Nat.add_le_add_left (Nat.le_of_ble_eq_true rfl) _) (Nat.add_le_add_left (Nat.le_of_ble_eq_true rfl) _) ?_
  rcases h7 with ⟨rfl, hpx, rfl⟩ | ⟨rfl, z, u, h7, rfl⟩
  · have hP : va_P D vwCl ((qo, .inl (t 2, 1, .inr (.inl og))) :: ((WMd t ad sz nr rs re rr ns sl sa9 sk gf nt ts te stk cm dp nb B lc kc last sc r K tr) ++ (WRd t bd th sz nr ns pd np nb fs es ri ln al ki km st oc tk ce pl tl kp ca cp su de))) H := hP
    have hD : va_D (fun q : Nat => s.heap.size ≤ q) ((qo, .inl (t 2, 1, .inr (.inl og))) :: ((WMd t ad sz nr rs re rr ns sl sa9 sk gf nt ts te stk cm dp nb B lc kc last sc r K tr) ++ (WRd t bd th sz nr ns pd np nb fs es ri ln al ki km st oc tk ce pl tl kp ca cp su de))) := hD
    refine lv_istore (lv' := [(5, .int (nI 1)), (4, .int (nI i)), (3, .ref qo), (2, .ref (bd 0)), (1, .ref (ad 0)), (0, .ref b)]) hx hb dL_law_740 hl (by decide) rfl (fun ls hl => ?_)
    refine lv_aload_n hx hb dL_law_742 rfl (lv_at hl 3 rfl) ?_
    refine lv_aload_n hx hb dL_law_743 rfl (lv_at hl 5 rfl) ?_
    refine lv_iload hx hb dL_law_744 (lv_at hl 1 rfl) ?_
    refine lv_iconst (v := (nI 1)) hx hb dL_law_746 (by decide) ?_
    refine r_iadd (x := i) (y := 1) hx hb dL_law_747 ?_
    refine r_sld hx hb hX hbl hbA hS (by omega) hL dL_law_748 ?_
    refine lv_i2l hx hb dL_law_749 rfl ?_
    refine lv_bipush (v := (nI 32)) hx hb dL_law_750 (by decide) ?_
    refine lv_lshl hx hb dL_law_752 rfl ?_
    refine lv_aload_n hx hb dL_law_753 rfl (lv_at hl 5 rfl) ?_
    refine lv_iload hx hb dL_law_754 (lv_at hl 1 rfl) ?_
    refine lv_iconst (v := (nI 2)) hx hb dL_law_756 (by decide) ?_
    refine r_iadd (x := i) (y := 2) hx hb dL_law_757 ?_
    refine r_sld hx hb hX hbl hbA hS (by omega) hL dL_law_758 ?_
    refine lv_i2l hx hb dL_law_759 rfl ?_
    refine lv_ldc2 (v := (lN 4294967295)) hx hb hown (hts _ wL_7) dL_law_760 ?_
    refine lv_land hx hb dL_law_763 ?_
    refine lv_lor hx hb dL_law_764 ?_
    refine r_topl (y := (lwJ ((xs (i + 1))) ((xs (i + 2))))) rfl ?_
    refine call_Mip (wc := (WRd t bd th sz nr ns pd np nb fs es ri ln al ki km st oc tk ce pl tl kp ca cp su de)) (wc' := fun v : Nat => (WRd t bd v sz nr ns pd np nb fs es ri ln al ki km st oc tk ce pl tl kp ca cp su de)) ((qo, .inl (t 2, 1, .inr (.inl og))) :: (WMd t ad sz nr rs re rr ns sl sa9 sk gf nt ts te stk cm dp nb B lc kc last sc r K tr)) [] (va_runV (As := [.long ((lwJ ((xs (i + 1))) ((xs (i + 2)))))]) (rest := []) ⟨hx, hb, hml, hown, hts⟩ (c_X8_cell l D t bd th sz nr ns pd np nb fs es ri ln al ki km st oc tk ce pl tl kp ca cp su de (lwJ (xs (i + 1)) (xs (i + 2))) g1 p9 _) (cwV 1 hts gL_law_X8_cell rfl rfl rfl (by decide +kernel) ⟨Nat.le_of_ble_eq_true rfl, Nat.le_of_ble_eq_true rfl⟩) (preVp (wc := (WRd t bd th sz nr ns pd np nb fs es ri ln al ki km st oc tk ce pl tl kp ca cp su de)) ((qo, .inl (t 2, 1, .inr (.inl og))) :: (WMd t ad sz nr rs re rr ns sl sa9 sk gf nt ts te stk cm dp nb B lc kc last sc r K tr)) [] (by rw [w8v]; exact hP) (by rw [w8v]; exact hD) hK hN 9 0 rfl rfl rfl) rfl rfl hl.1 rfl (lv_room (Nat.le_of_ble_eq_true rfl)) dL_law_765 ⟨hc, hs⟩) (by rw [w8v]; exact hP) (by rw [w8v]; exact hD) hS hA (fun z' v H locs h8 hP hD hS hz => ?_)
    rw [w8v] at hP hD
    have hP : va_P D vwCl ((qo, .inl (t 2, 1, .inr (.inl og))) :: ((WMd t ad sz nr rs re rr ns sl sa9 sk gf nt ts te stk cm dp nb B lc kc last sc r K tr) ++ (WRd t bd v sz nr ns pd np nb fs es ri ln al ki km st oc tk ce pl tl kp ca cp su de))) H := hP
    have hD : va_D (fun q : Nat => s.heap.size ≤ q) ((qo, .inl (t 2, 1, .inr (.inl og))) :: ((WMd t ad sz nr rs re rr ns sl sa9 sk gf nt ts te stk cm dp nb B lc kc last sc r K tr) ++ (WRd t bd v sz nr ns pd np nb fs es ri ln al ki km st oc tk ce pl tl kp ca cp su de))) := hD
    refine W.widen (k := cells + 6) (n := slots + 80) (Nat.le_refl _) (Nat.le_refl _) ?_
    have e9 := st_cellX hpx h8
    subst e9
    have hP : va_P D vwCl ((qo, .inl (t 2, 1, .inr (.inl og))) :: ((WMd t ad sz nr rs re rr ns sl sa9 sk gf nt ts te stk cm dp nb B lc kc last sc r K tr) ++ (WRd t bd 1 sz nr ns pd np nb fs es ri ln al ki km st oc tk ce pl tl kp ca cp su de))) H := hP
    have hD : va_D (fun q : Nat => s.heap.size ≤ q) ((qo, .inl (t 2, 1, .inr (.inl og))) :: ((WMd t ad sz nr rs re rr ns sl sa9 sk gf nt ts te stk cm dp nb B lc kc last sc r K tr) ++ (WRd t bd 1 sz nr ns pd np nb fs es ri ln al ki km st oc tk ce pl tl kp ca cp su de))) := hD
    refine lv_istore (lv' := [(6, .int z'), (5, .int (nI 1)), (4, .int (nI i)), (3, .ref qo), (2, .ref (bd 0)), (1, .ref (ad 0)), (0, .ref b)]) hx hb dL_law_768 hl (by decide) rfl (fun ls hl => ?_)
    refine lv_aload_n hx hb dL_law_770 rfl (lv_at hl 4 rfl) ?_
    refine vp_callSi (va_Run.run (va_runV (As := []) (rest := []) ⟨hx, hb, hml, hown, hts⟩ (c_X8_thrown l D t bd 1 sz nr ns pd np nb fs es ri ln al ki km st oc tk ce pl tl kp ca cp su de _) (cwV 0 hts gL_law_X8_thrown rfl rfl rfl (by decide +kernel) ⟨Nat.le_of_ble_eq_true rfl, Nat.le_of_ble_eq_true rfl⟩) (preVp (wc := (WRd t bd 1 sz nr ns pd np nb fs es ri ln al ki km st oc tk ce pl tl kp ca cp su de)) ((qo, .inl (t 2, 1, .inr (.inl og))) :: (WMd t ad sz nr rs re rr ns sl sa9 sk gf nt ts te stk cm dp nb B lc kc last sc r K tr)) [] (by rw [w8v]; exact hP) (by rw [w8v]; exact hD) hK hN 9 0 rfl rfl rfl) rfl rfl hl.1 rfl (lv_room (Nat.le_of_ble_eq_true rfl)) dL_law_771 ⟨hc, hs⟩)) (fun r9 hr9 => ?_)
    subst hr9
    refine lv_iload hx hb dL_law_774 (lv_at hl 1 rfl) ?_
    refine lv_icmp_eq (tgt := 781) hx hb dL_law_776 (by decide) (fun _ => ?_) (fun c9 => absurd rfl c9)
    refine lv_iload hx hb dL_law_781 (lv_at hl 1 rfl) ?_
    refine r_if_ne (x := 1) (tgt := 798) hx hb (by omega) dL_law_783 (by decide) (fun _ => ?_) (fun c9 => absurd c9 (by decide))
    refine lv_goto (tgt := 826) hx hb dL_law_798 (by decide) ?_
    exact next _ _ _ ⟨nr, rs, re, rr, ns, sl, sa9, sk, gf, nt, ts, te, stk, cm, dp, nb, B, lc, kc, last, sc, K, tr, 1, pd, np, fs, es, ri, ln, al, ki, km, st, oc, tk, ce, pl, tl, kp, ca, cp, su, de, og, hP, hD, hS, lv_sub hl [2, 3, 4, 5, 6] rfl, hReg, hSec, hPlc, hTak, hFun, hBlk, Nat.le_trans hnp (Nat.le_succ _)⟩
  · have hP : va_P D vwCl ((qo, .inl (t 2, 1, .inr (.inl (vp_updL og 0 z.toInt64)))) :: ((WMd t ad sz nr rs re rr ns sl sa9 sk gf nt ts te stk cm dp nb B lc kc last sc r K tr) ++ (WRd t bd th sz nr ns pd np nb fs es ri ln al ki km st oc tk ce pl tl kp ca cp su de))) H := hP
    have hD : va_D (fun q : Nat => s.heap.size ≤ q) ((qo, .inl (t 2, 1, .inr (.inl (vp_updL og 0 z.toInt64)))) :: ((WMd t ad sz nr rs re rr ns sl sa9 sk gf nt ts te stk cm dp nb B lc kc last sc r K tr) ++ (WRd t bd th sz nr ns pd np nb fs es ri ln al ki km st oc tk ce pl tl kp ca cp su de))) := hD
    refine lv_istore (lv' := [(5, .int (nI 0)), (4, .int (nI i)), (3, .ref qo), (2, .ref (bd 0)), (1, .ref (ad 0)), (0, .ref b)]) hx hb dL_law_740 hl (by decide) rfl (fun ls hl => ?_)
    refine lv_aload_n hx hb dL_law_742 rfl (lv_at hl 3 rfl) ?_
    refine lv_aload_n hx hb dL_law_743 rfl (lv_at hl 5 rfl) ?_
    refine lv_iload hx hb dL_law_744 (lv_at hl 1 rfl) ?_
    refine lv_iconst (v := (nI 1)) hx hb dL_law_746 (by decide) ?_
    refine r_iadd (x := i) (y := 1) hx hb dL_law_747 ?_
    refine r_sld hx hb hX hbl hbA hS (by omega) hL dL_law_748 ?_
    refine lv_i2l hx hb dL_law_749 rfl ?_
    refine lv_bipush (v := (nI 32)) hx hb dL_law_750 (by decide) ?_
    refine lv_lshl hx hb dL_law_752 rfl ?_
    refine lv_aload_n hx hb dL_law_753 rfl (lv_at hl 5 rfl) ?_
    refine lv_iload hx hb dL_law_754 (lv_at hl 1 rfl) ?_
    refine lv_iconst (v := (nI 2)) hx hb dL_law_756 (by decide) ?_
    refine r_iadd (x := i) (y := 2) hx hb dL_law_757 ?_
    refine r_sld hx hb hX hbl hbA hS (by omega) hL dL_law_758 ?_
    refine lv_i2l hx hb dL_law_759 rfl ?_
    refine lv_ldc2 (v := (lN 4294967295)) hx hb hown (hts _ wL_7) dL_law_760 ?_
    refine lv_land hx hb dL_law_763 ?_
    refine lv_lor hx hb dL_law_764 ?_
    refine r_topl (y := (lwJ ((xs (i + 1))) ((xs (i + 2))))) rfl ?_
    refine call_Mip (wc := (WRd t bd th sz nr ns pd np nb fs es ri ln al ki km st oc tk ce pl tl kp ca cp su de)) (wc' := fun v : Nat => (WRd t bd v sz nr ns pd np nb fs es ri ln al ki km st oc tk ce pl tl kp ca cp su de)) ((qo, .inl (t 2, 1, .inr (.inl (vp_updL og 0 z.toInt64)))) :: (WMd t ad sz nr rs re rr ns sl sa9 sk gf nt ts te stk cm dp nb B lc kc last sc r K tr)) [] (va_runV (As := [.long ((lwJ ((xs (i + 1))) ((xs (i + 2)))))]) (rest := []) ⟨hx, hb, hml, hown, hts⟩ (c_X8_cell l D t bd th sz nr ns pd np nb fs es ri ln al ki km st oc tk ce pl tl kp ca cp su de (lwJ (xs (i + 1)) (xs (i + 2))) g1 p9 _) (cwV 1 hts gL_law_X8_cell rfl rfl rfl (by decide +kernel) ⟨Nat.le_of_ble_eq_true rfl, Nat.le_of_ble_eq_true rfl⟩) (preVp (wc := (WRd t bd th sz nr ns pd np nb fs es ri ln al ki km st oc tk ce pl tl kp ca cp su de)) ((qo, .inl (t 2, 1, .inr (.inl (vp_updL og 0 z.toInt64)))) :: (WMd t ad sz nr rs re rr ns sl sa9 sk gf nt ts te stk cm dp nb B lc kc last sc r K tr)) [] (by rw [w8v]; exact hP) (by rw [w8v]; exact hD) hK hN 9 0 rfl rfl rfl) rfl rfl hl.1 rfl (lv_room (Nat.le_of_ble_eq_true rfl)) dL_law_765 ⟨hc, hs⟩) (by rw [w8v]; exact hP) (by rw [w8v]; exact hD) hS hA (fun z' v H locs h8 hP hD hS hz => ?_)
    rw [w8v] at hP hD
    have hP : va_P D vwCl ((qo, .inl (t 2, 1, .inr (.inl (vp_updL og 0 z.toInt64)))) :: ((WMd t ad sz nr rs re rr ns sl sa9 sk gf nt ts te stk cm dp nb B lc kc last sc r K tr) ++ (WRd t bd v sz nr ns pd np nb fs es ri ln al ki km st oc tk ce pl tl kp ca cp su de))) H := hP
    have hD : va_D (fun q : Nat => s.heap.size ≤ q) ((qo, .inl (t 2, 1, .inr (.inl (vp_updL og 0 z.toInt64)))) :: ((WMd t ad sz nr rs re rr ns sl sa9 sk gf nt ts te stk cm dp nb B lc kc last sc r K tr) ++ (WRd t bd v sz nr ns pd np nb fs es ri ln al ki km st oc tk ce pl tl kp ca cp su de))) := hD
    refine W.widen (k := cells + 6) (n := slots + 80) (Nat.le_refl _) (Nat.le_refl _) ?_
    obtain ⟨hz9, e0⟩ := st_cell (u := u) g1 hPlc h7 h8
    rw [e0] at hP hD
    refine lv_istore (lv' := [(6, .int z'), (5, .int (nI 0)), (4, .int (nI i)), (3, .ref qo), (2, .ref (bd 0)), (1, .ref (ad 0)), (0, .ref b)]) hx hb dL_law_768 hl (by decide) rfl (fun ls hl => ?_)
    refine lv_aload_n hx hb dL_law_770 rfl (lv_at hl 4 rfl) ?_
    refine vp_callSi (va_Run.run (va_runV (As := []) (rest := []) ⟨hx, hb, hml, hown, hts⟩ (c_X8_thrown l D t bd 0 sz nr ns pd np nb fs es ri ln al ki km st oc tk ce pl tl kp ca cp su de _) (cwV 0 hts gL_law_X8_thrown rfl rfl rfl (by decide +kernel) ⟨Nat.le_of_ble_eq_true rfl, Nat.le_of_ble_eq_true rfl⟩) (preVp (wc := (WRd t bd 0 sz nr ns pd np nb fs es ri ln al ki km st oc tk ce pl tl kp ca cp su de)) ((qo, .inl (t 2, 1, .inr (.inl (vp_updL og 0 z.toInt64)))) :: (WMd t ad sz nr rs re rr ns sl sa9 sk gf nt ts te stk cm dp nb B lc kc last sc r K tr)) [] (by rw [w8v]; exact hP) (by rw [w8v]; exact hD) hK hN 9 0 rfl rfl rfl) rfl rfl hl.1 rfl (lv_room (Nat.le_of_ble_eq_true rfl)) dL_law_771 ⟨hc, hs⟩)) (fun r9 hr9 => ?_)
    subst hr9
    refine lv_iload hx hb dL_law_774 (lv_at hl 1 rfl) ?_
    refine lv_icmp_eq (tgt := 781) hx hb dL_law_776 (by decide) (fun _ => ?_) (fun c9 => absurd rfl c9)
    refine lv_iload hx hb dL_law_781 (lv_at hl 1 rfl) ?_
    refine r_if_ne (x := 0) (tgt := 798) hx hb (by omega) dL_law_783 (by decide) (fun c9 => absurd c9 (by decide)) (fun _ => ?_)
    refine lv_aload_n hx hb dL_law_786 rfl (lv_at hl 3 rfl) ?_
    refine lv_iconst (v := (nI 0)) hx hb dL_law_787 (by decide) ?_
    refine r_laldI (n := 1) hx hb hK hP 0 2 rfl rfl (Nat.lt_succ_self 0) (by decide) dL_law_788 ?_
    refine r_topl (y := z.toInt64) (if_pos rfl) ?_
    refine lv_iload hx hb dL_law_789 (lv_at hl 0 rfl) ?_
    refine lv_i2l hx hb dL_law_791 rfl ?_
    refine r_l_eq (tgt := 798) hx hb dL_law_792 dL_law_793 (by decide) (fun _ => ?_) (fun c9 => absurd (by rw [hz9]) c9)
    refine lv_goto (tgt := 826) hx hb dL_law_798 (by decide) ?_
    exact next _ _ _ ⟨nr, rs, re, rr, ns, sl, sa9, sk, gf, nt, ts, te, stk, cm, dp, nb, B, lc, kc, last, sc, K, tr, 0, pd, np, fs, es, ri, ln, al, ki, km, st, oc, tk, ce, pl, tl, kp, ca, cp, su, de, (vp_updL og 0 z.toInt64), hP, hD, hS, lv_sub hl [2, 3, 4, 5, 6] rfl, hReg, hSec, hPlc, hTak, hFun, hBlk, Nat.le_trans hnp (Nat.le_succ _)⟩
