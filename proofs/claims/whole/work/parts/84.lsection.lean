set_option maxHeartbeats 2000000 in
set_option maxRecDepth 100000 in
theorem lw_section {p : Program} {e : Env} {s : State} {m : MethodId} {below : List Frame} {meth : Method} {c : Code} (l : Launch) {b L : Nat} {xs : Nat → Int32} (hL : L ≤ 3073) (C0 : lw_At p s m meth c b L xs) {D : va_G} {t : Nat → ClassId} {sa1 sa2 : Nat} (hC : LC l D t sa1 sa2 s) {ad r bd : Nat → Nat} {qo sz i N cells slots : Nat} {H : Heap} {locs : List Loc} {ls : Array Slot} (hi : i + 6 ≤ L) (hN9 : N ≤ 900) (hI : LI D t s b ad r bd qo sz i N H locs ls) (hc : cells + 6 ≤ room_1.cells) (hs : slots + 80 ≤ room_1.slots)
    (next : ∀ (H : Heap) (locs : List Loc) (ls : Array Slot), LI D t s b ad r bd qo sz i (N + 1) H locs ls → W p l e room_1 s m #[Value.ref b] below meth c H locs (cells + 6) (slots + 80) (lw_Z below #[Value.ref b] s) (F0 m 826 ls [])) : W p l e room_1 s m #[Value.ref b] below meth c H locs cells slots (lw_Z below #[Value.ref b] s) (F0 m 229 ls []) := by
  obtain ⟨hx, hb, hr, hml, hown, hts, hX, hbl, hlk, hgv⟩ := id C0
  have hown : s.vm.findClass RL = some m.cls := hown
  obtain ⟨hl0, hK, hN, hR1, hR2, hU, hV⟩ := id hC
  have hA : ∀ q : Nat, s.heap.size ≤ q → (fun q : Nat => s.heap.size ≤ q) q := fun _ h => h
  have hbA : ¬ (fun q : Nat => s.heap.size ≤ q) b := Nat.not_le.mpr hbl
  obtain ⟨nr, rs, re, rr, ns, sl, sa9, sk, gf, nt, ts, te, stk, cm, dp, nb, B, lc, kc, last, sc, K, tr, th, pd, np, fs, es, ri, ln, al, ki, km, st, oc, tk, ce, pl, tl, kp, ca, cp, su, de, og, hP, hD, hS, hl, hReg, hSec, hPlc, hTak, hFun, hBlk, hnp⟩ := hI
  obtain ⟨g1, g2, g3, g4, g5, g6, g7, g8⟩ := id hReg
  obtain ⟨s1, s2, s3, s4, s5, s6, s7, s8, s9, s10⟩ := id hSec
  obtain ⟨p1, p2, p3, p4, p5, p6, p7, p8, p9, p10, p11, p12⟩ := id hPlc
  obtain ⟨k1, k2, k3⟩ := id hTak
  obtain ⟨f1, f2, f3, f4, f5, f6⟩ := id hFun
  obtain ⟨b1, b2, b3, b4, b5⟩ := id hBlk
  refine lv_aload_n hx hb dL_law_229 rfl (lv_at hl 3 rfl) ?_
  refine lv_aload_n hx hb dL_law_230 rfl (lv_at hl 4 rfl) ?_
  refine lv_iload hx hb dL_law_231 (lv_at hl 0 rfl) ?_
  refine lv_iconst (v := (nI 1)) hx hb dL_law_233 (by decide) ?_
  refine r_iadd (x := i) (y := 1) hx hb dL_law_234 ?_
  refine r_sld hx hb hX hbl hbA hS (by omega) hL dL_law_235 ?_
  refine lv_i2l hx hb dL_law_236 rfl ?_
  refine lv_bipush (v := (nI 32)) hx hb dL_law_237 (by decide) ?_
  refine lv_lshl hx hb dL_law_239 rfl ?_
  refine lv_aload_n hx hb dL_law_240 rfl (lv_at hl 4 rfl) ?_
  refine lv_iload hx hb dL_law_241 (lv_at hl 0 rfl) ?_
  refine lv_iconst (v := (nI 2)) hx hb dL_law_243 (by decide) ?_
  refine r_iadd (x := i) (y := 2) hx hb dL_law_244 ?_
  refine r_sld hx hb hX hbl hbA hS (by omega) hL dL_law_245 ?_
  refine lv_i2l hx hb dL_law_246 rfl ?_
  refine lv_ldc2 (v := (lN 4294967295)) hx hb hown (hts _ wL_7) dL_law_247 ?_
  refine lv_land hx hb dL_law_250 ?_
  refine lv_lor hx hb dL_law_251 ?_
  refine r_topl (y := (lwJ ((xs (i + 1))) ((xs (i + 2))))) rfl ?_
  refine lv_aload_n hx hb dL_law_252 rfl (lv_at hl 4 rfl) ?_
  refine lv_iload hx hb dL_law_253 (lv_at hl 0 rfl) ?_
  refine lv_iconst (v := (nI 3)) hx hb dL_law_255 (by decide) ?_
  refine r_iadd (x := i) (y := 3) hx hb dL_law_256 ?_
  refine r_sld hx hb hX hbl hbA hS (by omega) hL dL_law_257 ?_
  refine lv_i2l hx hb dL_law_258 rfl ?_
  refine lv_bipush (v := (nI 32)) hx hb dL_law_259 (by decide) ?_
  refine lv_lshl hx hb dL_law_261 rfl ?_
  refine lv_aload_n hx hb dL_law_262 rfl (lv_at hl 4 rfl) ?_
  refine lv_iload hx hb dL_law_263 (lv_at hl 0 rfl) ?_
  refine lv_iconst (v := (nI 4)) hx hb dL_law_265 (by decide) ?_
  refine r_iadd (x := i) (y := 4) hx hb dL_law_266 ?_
  refine r_sld hx hb hX hbl hbA hS (by omega) hL dL_law_267 ?_
  refine lv_i2l hx hb dL_law_268 rfl ?_
  refine lv_ldc2 (v := (lN 4294967295)) hx hb hown (hts _ wL_7) dL_law_269 ?_
  refine lv_land hx hb dL_law_272 ?_
  refine lv_lor hx hb dL_law_273 ?_
  refine r_topl (y := (lwJ ((xs (i + 3))) ((xs (i + 4))))) rfl ?_
  refine lv_aload_n hx hb dL_law_274 rfl (lv_at hl 4 rfl) ?_
  refine lv_iload hx hb dL_law_275 (lv_at hl 0 rfl) ?_
  refine lv_iconst (v := (nI 5)) hx hb dL_law_277 (by decide) ?_
  refine r_iadd (x := i) (y := 5) hx hb dL_law_278 ?_
  refine r_sld hx hb hX hbl hbA hS (by omega) hL dL_law_279 ?_
  refine lv_aload_n hx hb dL_law_280 rfl (lv_at hl 1 rfl) ?_
  refine call_Mip (wc := ((qo, .inl (t 2, 1, .inr (.inl og))) :: (WMd t ad sz nr rs re rr ns sl sa9 sk gf nt ts te stk cm dp nb B lc kc last sc r K tr))) (wc' := fun o : Option (Int32 × (Nat × (Nat → Nat) × (Nat → Nat) × (Nat → Nat) × (Nat → Nat))) => wsO (t 2) qo og (WMd t ad sz nr rs re rr ns sl sa9 sk gf nt ts te stk cm dp nb B lc kc last sc r K tr) (fun u : Nat × (Nat → Nat) × (Nat → Nat) × (Nat → Nat) × (Nat → Nat) => (WMd t ad sz nr rs re rr (u.1) (u.2.1) (u.2.2.1) (u.2.2.2.1) (u.2.2.2.2) nt ts te stk cm dp nb B lc kc last sc r K tr)) o) [] (WRd t bd th sz nr ns pd np nb fs es ri ln al ki km st oc tk ce pl tl kp ca cp su de) (vx_runSW (hh := [(0, 13, 16, 13)]) (As := [.ref (ad 0), .long ((lwJ ((xs (i + 1))) ((xs (i + 2))))), .long ((lwJ ((xs (i + 3))) ((xs (i + 4))))), .int ((xs (i + 5))), .ref qo]) (rest := []) ⟨hx, hb, hml, hown, hts⟩ (c_L_section l D t sa1 (ad 0) qo (lwJ (xs (i + 1)) (xs (i + 2))) (lwJ (xs (i + 3)) (xs (i + 4))) (xs (i + 5)) og (WMd t ad sz nr rs re rr ns sl sa9 sk gf nt ts te stk cm dp nb B lc kc last sc r K tr) _ (c_X7_section l hl0 D t sa1 ad sz nr rs re rr ns sl sa9 sk gf nt ts te stk cm dp nb B lc kc last sc r K tr (lwJ (xs (i + 1)) (xs (i + 2))) (lwJ (xs (i + 3)) (xs (i + 4))) (xs (i + 5)) s1 s2 s10.1) rfl _) (vx_cwSW 5 hts gL_law_L_section rfl rfl rfl (by decide +kernel) ⟨Nat.le_of_ble_eq_true rfl, Nat.le_of_ble_eq_true rfl⟩) (preSX (wc := ((qo, .inl (t 2, 1, .inr (.inl og))) :: (WMd t ad sz nr rs re rr ns sl sa9 sk gf nt ts te stk cm dp nb B lc kc last sc r K tr))) [] (WRd t bd th sz nr ns pd np nb fs es ri ln al ki km st oc tk ce pl tl kp ca cp su de) hP hD hS hA hK hN hR1 hU hV) rfl rfl hl.1 rfl (lv_room (Nat.le_of_ble_eq_true rfl)) dL_law_281 ⟨(Nat.le_trans (Nat.add_le_add_left (Nat.le_of_ble_eq_true rfl) _) hc), (Nat.le_trans (Nat.add_le_add_left (Nat.le_of_ble_eq_true rfl) _) hs)⟩) hP hD hS hA (fun kk o H locs h7 hP hD hS hz => ?_)
  refine W.widen (k := cells + 6) (n := slots + 80) (Nat.add_le_add_left (Nat.le_of_ble_eq_true rfl) _) (Nat.add_le_add_left (Nat.le_of_ble_eq_true rfl) _) ?_
  rcases h7 with ⟨rfl, hpx, rfl⟩ | ⟨rfl, z, u, h7, rfl⟩
  · have hP : va_P D vwCl ((qo, .inl (t 2, 1, .inr (.inl og))) :: ((WMd t ad sz nr rs re rr ns sl sa9 sk gf nt ts te stk cm dp nb B lc kc last sc r K tr) ++ (WRd t bd th sz nr ns pd np nb fs es ri ln al ki km st oc tk ce pl tl kp ca cp su de))) H := hP
    have hD : va_D (fun q : Nat => s.heap.size ≤ q) ((qo, .inl (t 2, 1, .inr (.inl og))) :: ((WMd t ad sz nr rs re rr ns sl sa9 sk gf nt ts te stk cm dp nb B lc kc last sc r K tr) ++ (WRd t bd th sz nr ns pd np nb fs es ri ln al ki km st oc tk ce pl tl kp ca cp su de))) := hD
    refine lv_istore (lv' := [(5, .int (nI 1)), (4, .int (nI i)), (3, .ref qo), (2, .ref (bd 0)), (1, .ref (ad 0)), (0, .ref b)]) hx hb dL_law_284 hl (by decide) rfl (fun ls hl => ?_)
    refine lv_aload_n hx hb dL_law_286 rfl (lv_at hl 3 rfl) ?_
    refine lv_aload_n hx hb dL_law_287 rfl (lv_at hl 5 rfl) ?_
    refine lv_iload hx hb dL_law_288 (lv_at hl 1 rfl) ?_
    refine lv_iconst (v := (nI 1)) hx hb dL_law_290 (by decide) ?_
    refine r_iadd (x := i) (y := 1) hx hb dL_law_291 ?_
    refine r_sld hx hb hX hbl hbA hS (by omega) hL dL_law_292 ?_
    refine lv_i2l hx hb dL_law_293 rfl ?_
    refine lv_bipush (v := (nI 32)) hx hb dL_law_294 (by decide) ?_
    refine lv_lshl hx hb dL_law_296 rfl ?_
    refine lv_aload_n hx hb dL_law_297 rfl (lv_at hl 5 rfl) ?_
    refine lv_iload hx hb dL_law_298 (lv_at hl 1 rfl) ?_
    refine lv_iconst (v := (nI 2)) hx hb dL_law_300 (by decide) ?_
    refine r_iadd (x := i) (y := 2) hx hb dL_law_301 ?_
    refine r_sld hx hb hX hbl hbA hS (by omega) hL dL_law_302 ?_
    refine lv_i2l hx hb dL_law_303 rfl ?_
    refine lv_ldc2 (v := (lN 4294967295)) hx hb hown (hts _ wL_7) dL_law_304 ?_
    refine lv_land hx hb dL_law_307 ?_
    refine lv_lor hx hb dL_law_308 ?_
    refine r_topl (y := (lwJ ((xs (i + 1))) ((xs (i + 2))))) rfl ?_
    refine lv_aload_n hx hb dL_law_309 rfl (lv_at hl 5 rfl) ?_
    refine lv_iload hx hb dL_law_310 (lv_at hl 1 rfl) ?_
    refine lv_iconst (v := (nI 3)) hx hb dL_law_312 (by decide) ?_
    refine r_iadd (x := i) (y := 3) hx hb dL_law_313 ?_
    refine r_sld hx hb hX hbl hbA hS (by omega) hL dL_law_314 ?_
    refine lv_i2l hx hb dL_law_315 rfl ?_
    refine lv_bipush (v := (nI 32)) hx hb dL_law_316 (by decide) ?_
    refine lv_lshl hx hb dL_law_318 rfl ?_
    refine lv_aload_n hx hb dL_law_319 rfl (lv_at hl 5 rfl) ?_
    refine lv_iload hx hb dL_law_320 (lv_at hl 1 rfl) ?_
    refine lv_iconst (v := (nI 4)) hx hb dL_law_322 (by decide) ?_
    refine r_iadd (x := i) (y := 4) hx hb dL_law_323 ?_
    refine r_sld hx hb hX hbl hbA hS (by omega) hL dL_law_324 ?_
    refine lv_i2l hx hb dL_law_325 rfl ?_
    refine lv_ldc2 (v := (lN 4294967295)) hx hb hown (hts _ wL_7) dL_law_326 ?_
    refine lv_land hx hb dL_law_329 ?_
    refine lv_lor hx hb dL_law_330 ?_
    refine r_topl (y := (lwJ ((xs (i + 3))) ((xs (i + 4))))) rfl ?_
    refine lv_aload_n hx hb dL_law_331 rfl (lv_at hl 5 rfl) ?_
    refine lv_iload hx hb dL_law_332 (lv_at hl 1 rfl) ?_
    refine lv_iconst (v := (nI 5)) hx hb dL_law_334 (by decide) ?_
    refine r_iadd (x := i) (y := 5) hx hb dL_law_335 ?_
    refine r_sld hx hb hX hbl hbA hS (by omega) hL dL_law_336 ?_
    refine call_Mip (wc := (WRd t bd th sz nr ns pd np nb fs es ri ln al ki km st oc tk ce pl tl kp ca cp su de)) (wc' := fun v : Nat × Nat × (Nat → Nat) × (Nat → Nat) × (Nat → Nat) => (WRd t bd (v.1) sz nr (v.2.1) pd np nb fs es ri (v.2.2.1) (v.2.2.2.1) (v.2.2.2.2) km st oc tk ce pl tl kp ca cp su de)) ((qo, .inl (t 2, 1, .inr (.inl og))) :: (WMd t ad sz nr rs re rr ns sl sa9 sk gf nt ts te stk cm dp nb B lc kc last sc r K tr)) [] (va_runV (As := [.long ((lwJ ((xs (i + 1))) ((xs (i + 2))))), .long ((lwJ ((xs (i + 3))) ((xs (i + 4))))), .int ((xs (i + 5)))]) (rest := []) ⟨hx, hb, hml, hown, hts⟩ (c_X8_section l D t bd th sz nr ns pd np nb fs es ri ln al ki km st oc tk ce pl tl kp ca cp su de (lwJ (xs (i + 1)) (xs (i + 2))) (lwJ (xs (i + 3)) (xs (i + 4))) (xs (i + 5)) s1 _) (cwV 3 hts gL_law_X8_section rfl rfl rfl (by decide +kernel) ⟨Nat.le_of_ble_eq_true rfl, Nat.le_of_ble_eq_true rfl⟩) (preVp (wc := (WRd t bd th sz nr ns pd np nb fs es ri ln al ki km st oc tk ce pl tl kp ca cp su de)) ((qo, .inl (t 2, 1, .inr (.inl og))) :: (WMd t ad sz nr rs re rr ns sl sa9 sk gf nt ts te stk cm dp nb B lc kc last sc r K tr)) [] (by rw [w8v]; exact hP) (by rw [w8v]; exact hD) hK hN 9 0 rfl rfl rfl) rfl rfl hl.1 rfl (lv_room (Nat.le_of_ble_eq_true rfl)) dL_law_337 ⟨hc, hs⟩) (by rw [w8v]; exact hP) (by rw [w8v]; exact hD) hS hA (fun z' v H locs h8 hP hD hS hz => ?_)
    rw [w8v] at hP hD
    have hP : va_P D vwCl ((qo, .inl (t 2, 1, .inr (.inl og))) :: ((WMd t ad sz nr rs re rr ns sl sa9 sk gf nt ts te stk cm dp nb B lc kc last sc r K tr) ++ (WRd t bd (v.1) sz nr (v.2.1) pd np nb fs es ri (v.2.2.1) (v.2.2.2.1) (v.2.2.2.2) km st oc tk ce pl tl kp ca cp su de))) H := hP
    have hD : va_D (fun q : Nat => s.heap.size ≤ q) ((qo, .inl (t 2, 1, .inr (.inl og))) :: ((WMd t ad sz nr rs re rr ns sl sa9 sk gf nt ts te stk cm dp nb B lc kc last sc r K tr) ++ (WRd t bd (v.1) sz nr (v.2.1) pd np nb fs es ri (v.2.2.1) (v.2.2.2.1) (v.2.2.2.2) km st oc tk ce pl tl kp ca cp su de))) := hD
    refine W.widen (k := cells + 6) (n := slots + 80) (Nat.le_refl _) (Nat.le_refl _) ?_
    have e9 := st_sectionX hpx h8
    subst e9
    have hP : va_P D vwCl ((qo, .inl (t 2, 1, .inr (.inl og))) :: ((WMd t ad sz nr rs re rr ns sl sa9 sk gf nt ts te stk cm dp nb B lc kc last sc r K tr) ++ (WRd t bd 1 sz nr ns pd np nb fs es ri ln al ki km st oc tk ce pl tl kp ca cp su de))) H := hP
    have hD : va_D (fun q : Nat => s.heap.size ≤ q) ((qo, .inl (t 2, 1, .inr (.inl og))) :: ((WMd t ad sz nr rs re rr ns sl sa9 sk gf nt ts te stk cm dp nb B lc kc last sc r K tr) ++ (WRd t bd 1 sz nr ns pd np nb fs es ri ln al ki km st oc tk ce pl tl kp ca cp su de))) := hD
    refine lv_istore (lv' := [(6, .int z'), (5, .int (nI 1)), (4, .int (nI i)), (3, .ref qo), (2, .ref (bd 0)), (1, .ref (ad 0)), (0, .ref b)]) hx hb dL_law_340 hl (by decide) rfl (fun ls hl => ?_)
    refine lv_aload_n hx hb dL_law_342 rfl (lv_at hl 4 rfl) ?_
    refine vp_callSi (va_Run.run (va_runV (As := []) (rest := []) ⟨hx, hb, hml, hown, hts⟩ (c_X8_thrown l D t bd 1 sz nr ns pd np nb fs es ri ln al ki km st oc tk ce pl tl kp ca cp su de _) (cwV 0 hts gL_law_X8_thrown rfl rfl rfl (by decide +kernel) ⟨Nat.le_of_ble_eq_true rfl, Nat.le_of_ble_eq_true rfl⟩) (preVp (wc := (WRd t bd 1 sz nr ns pd np nb fs es ri ln al ki km st oc tk ce pl tl kp ca cp su de)) ((qo, .inl (t 2, 1, .inr (.inl og))) :: (WMd t ad sz nr rs re rr ns sl sa9 sk gf nt ts te stk cm dp nb B lc kc last sc r K tr)) [] (by rw [w8v]; exact hP) (by rw [w8v]; exact hD) hK hN 9 0 rfl rfl rfl) rfl rfl hl.1 rfl (lv_room (Nat.le_of_ble_eq_true rfl)) dL_law_343 ⟨hc, hs⟩)) (fun r9 hr9 => ?_)
    subst hr9
    refine lv_iload hx hb dL_law_346 (lv_at hl 1 rfl) ?_
    refine lv_icmp_eq (tgt := 353) hx hb dL_law_348 (by decide) (fun _ => ?_) (fun c9 => absurd rfl c9)
    refine lv_iload hx hb dL_law_353 (lv_at hl 1 rfl) ?_
    refine r_if_ne (x := 1) (tgt := 370) hx hb (by omega) dL_law_355 (by decide) (fun _ => ?_) (fun c9 => absurd c9 (by decide))
    refine lv_goto (tgt := 826) hx hb dL_law_370 (by decide) ?_
    exact next _ _ _ ⟨nr, rs, re, rr, ns, sl, sa9, sk, gf, nt, ts, te, stk, cm, dp, nb, B, lc, kc, last, sc, K, tr, 1, pd, np, fs, es, ri, ln, al, ki, km, st, oc, tk, ce, pl, tl, kp, ca, cp, su, de, og, hP, hD, hS, lv_sub hl [2, 3, 4, 5, 6] rfl, hReg, hSec, hPlc, hTak, hFun, hBlk, Nat.le_trans hnp (Nat.le_succ _)⟩
  · have hP : va_P D vwCl ((qo, .inl (t 2, 1, .inr (.inl (vp_updL og 0 z.toInt64)))) :: ((WMd t ad sz nr rs re rr (u.1) (u.2.1) (u.2.2.1) (u.2.2.2.1) (u.2.2.2.2) nt ts te stk cm dp nb B lc kc last sc r K tr) ++ (WRd t bd th sz nr ns pd np nb fs es ri ln al ki km st oc tk ce pl tl kp ca cp su de))) H := hP
    have hD : va_D (fun q : Nat => s.heap.size ≤ q) ((qo, .inl (t 2, 1, .inr (.inl (vp_updL og 0 z.toInt64)))) :: ((WMd t ad sz nr rs re rr (u.1) (u.2.1) (u.2.2.1) (u.2.2.2.1) (u.2.2.2.2) nt ts te stk cm dp nb B lc kc last sc r K tr) ++ (WRd t bd th sz nr ns pd np nb fs es ri ln al ki km st oc tk ce pl tl kp ca cp su de))) := hD
    refine lv_istore (lv' := [(5, .int (nI 0)), (4, .int (nI i)), (3, .ref qo), (2, .ref (bd 0)), (1, .ref (ad 0)), (0, .ref b)]) hx hb dL_law_284 hl (by decide) rfl (fun ls hl => ?_)
    refine lv_aload_n hx hb dL_law_286 rfl (lv_at hl 3 rfl) ?_
    refine lv_aload_n hx hb dL_law_287 rfl (lv_at hl 5 rfl) ?_
    refine lv_iload hx hb dL_law_288 (lv_at hl 1 rfl) ?_
    refine lv_iconst (v := (nI 1)) hx hb dL_law_290 (by decide) ?_
    refine r_iadd (x := i) (y := 1) hx hb dL_law_291 ?_
    refine r_sld hx hb hX hbl hbA hS (by omega) hL dL_law_292 ?_
    refine lv_i2l hx hb dL_law_293 rfl ?_
    refine lv_bipush (v := (nI 32)) hx hb dL_law_294 (by decide) ?_
    refine lv_lshl hx hb dL_law_296 rfl ?_
    refine lv_aload_n hx hb dL_law_297 rfl (lv_at hl 5 rfl) ?_
    refine lv_iload hx hb dL_law_298 (lv_at hl 1 rfl) ?_
    refine lv_iconst (v := (nI 2)) hx hb dL_law_300 (by decide) ?_
    refine r_iadd (x := i) (y := 2) hx hb dL_law_301 ?_
    refine r_sld hx hb hX hbl hbA hS (by omega) hL dL_law_302 ?_
    refine lv_i2l hx hb dL_law_303 rfl ?_
    refine lv_ldc2 (v := (lN 4294967295)) hx hb hown (hts _ wL_7) dL_law_304 ?_
    refine lv_land hx hb dL_law_307 ?_
    refine lv_lor hx hb dL_law_308 ?_
    refine r_topl (y := (lwJ ((xs (i + 1))) ((xs (i + 2))))) rfl ?_
    refine lv_aload_n hx hb dL_law_309 rfl (lv_at hl 5 rfl) ?_
    refine lv_iload hx hb dL_law_310 (lv_at hl 1 rfl) ?_
    refine lv_iconst (v := (nI 3)) hx hb dL_law_312 (by decide) ?_
    refine r_iadd (x := i) (y := 3) hx hb dL_law_313 ?_
    refine r_sld hx hb hX hbl hbA hS (by omega) hL dL_law_314 ?_
    refine lv_i2l hx hb dL_law_315 rfl ?_
    refine lv_bipush (v := (nI 32)) hx hb dL_law_316 (by decide) ?_
    refine lv_lshl hx hb dL_law_318 rfl ?_
    refine lv_aload_n hx hb dL_law_319 rfl (lv_at hl 5 rfl) ?_
    refine lv_iload hx hb dL_law_320 (lv_at hl 1 rfl) ?_
    refine lv_iconst (v := (nI 4)) hx hb dL_law_322 (by decide) ?_
    refine r_iadd (x := i) (y := 4) hx hb dL_law_323 ?_
    refine r_sld hx hb hX hbl hbA hS (by omega) hL dL_law_324 ?_
    refine lv_i2l hx hb dL_law_325 rfl ?_
    refine lv_ldc2 (v := (lN 4294967295)) hx hb hown (hts _ wL_7) dL_law_326 ?_
    refine lv_land hx hb dL_law_329 ?_
    refine lv_lor hx hb dL_law_330 ?_
    refine r_topl (y := (lwJ ((xs (i + 3))) ((xs (i + 4))))) rfl ?_
    refine lv_aload_n hx hb dL_law_331 rfl (lv_at hl 5 rfl) ?_
    refine lv_iload hx hb dL_law_332 (lv_at hl 1 rfl) ?_
    refine lv_iconst (v := (nI 5)) hx hb dL_law_334 (by decide) ?_
    refine r_iadd (x := i) (y := 5) hx hb dL_law_335 ?_
    refine r_sld hx hb hX hbl hbA hS (by omega) hL dL_law_336 ?_
    refine call_Mip (wc := (WRd t bd th sz nr ns pd np nb fs es ri ln al ki km st oc tk ce pl tl kp ca cp su de)) (wc' := fun v : Nat × Nat × (Nat → Nat) × (Nat → Nat) × (Nat → Nat) => (WRd t bd (v.1) sz nr (v.2.1) pd np nb fs es ri (v.2.2.1) (v.2.2.2.1) (v.2.2.2.2) km st oc tk ce pl tl kp ca cp su de)) ((qo, .inl (t 2, 1, .inr (.inl (vp_updL og 0 z.toInt64)))) :: (WMd t ad sz nr rs re rr (u.1) (u.2.1) (u.2.2.1) (u.2.2.2.1) (u.2.2.2.2) nt ts te stk cm dp nb B lc kc last sc r K tr)) [] (va_runV (As := [.long ((lwJ ((xs (i + 1))) ((xs (i + 2))))), .long ((lwJ ((xs (i + 3))) ((xs (i + 4))))), .int ((xs (i + 5)))]) (rest := []) ⟨hx, hb, hml, hown, hts⟩ (c_X8_section l D t bd th sz nr ns pd np nb fs es ri ln al ki km st oc tk ce pl tl kp ca cp su de (lwJ (xs (i + 1)) (xs (i + 2))) (lwJ (xs (i + 3)) (xs (i + 4))) (xs (i + 5)) s1 _) (cwV 3 hts gL_law_X8_section rfl rfl rfl (by decide +kernel) ⟨Nat.le_of_ble_eq_true rfl, Nat.le_of_ble_eq_true rfl⟩) (preVp (wc := (WRd t bd th sz nr ns pd np nb fs es ri ln al ki km st oc tk ce pl tl kp ca cp su de)) ((qo, .inl (t 2, 1, .inr (.inl (vp_updL og 0 z.toInt64)))) :: (WMd t ad sz nr rs re rr (u.1) (u.2.1) (u.2.2.1) (u.2.2.2.1) (u.2.2.2.2) nt ts te stk cm dp nb B lc kc last sc r K tr)) [] (by rw [w8v]; exact hP) (by rw [w8v]; exact hD) hK hN 9 0 rfl rfl rfl) rfl rfl hl.1 rfl (lv_room (Nat.le_of_ble_eq_true rfl)) dL_law_337 ⟨hc, hs⟩) (by rw [w8v]; exact hP) (by rw [w8v]; exact hD) hS hA (fun z' v H locs h8 hP hD hS hz => ?_)
    rw [w8v] at hP hD
    have hP : va_P D vwCl ((qo, .inl (t 2, 1, .inr (.inl (vp_updL og 0 z.toInt64)))) :: ((WMd t ad sz nr rs re rr (u.1) (u.2.1) (u.2.2.1) (u.2.2.2.1) (u.2.2.2.2) nt ts te stk cm dp nb B lc kc last sc r K tr) ++ (WRd t bd (v.1) sz nr (v.2.1) pd np nb fs es ri (v.2.2.1) (v.2.2.2.1) (v.2.2.2.2) km st oc tk ce pl tl kp ca cp su de))) H := hP
    have hD : va_D (fun q : Nat => s.heap.size ≤ q) ((qo, .inl (t 2, 1, .inr (.inl (vp_updL og 0 z.toInt64)))) :: ((WMd t ad sz nr rs re rr (u.1) (u.2.1) (u.2.2.1) (u.2.2.2.1) (u.2.2.2.2) nt ts te stk cm dp nb B lc kc last sc r K tr) ++ (WRd t bd (v.1) sz nr (v.2.1) pd np nb fs es ri (v.2.2.1) (v.2.2.2.1) (v.2.2.2.2) km st oc tk ce pl tl kp ca cp su de))) := hD
    refine W.widen (k := cells + 6) (n := slots + 80) (Nat.le_refl _) (Nat.le_refl _) ?_
    obtain ⟨hz9, e0, e1, hSec', hPlc'⟩ := st_section hSec hPlc h7 h8
    rw [e0, e1] at hP hD
    refine lv_istore (lv' := [(6, .int z'), (5, .int (nI 0)), (4, .int (nI i)), (3, .ref qo), (2, .ref (bd 0)), (1, .ref (ad 0)), (0, .ref b)]) hx hb dL_law_340 hl (by decide) rfl (fun ls hl => ?_)
    refine lv_aload_n hx hb dL_law_342 rfl (lv_at hl 4 rfl) ?_
    refine vp_callSi (va_Run.run (va_runV (As := []) (rest := []) ⟨hx, hb, hml, hown, hts⟩ (c_X8_thrown l D t bd 0 sz nr (u.1) pd np nb fs es ri (v.2.2.1) (v.2.2.2.1) (v.2.2.2.2) km st oc tk ce pl tl kp ca cp su de _) (cwV 0 hts gL_law_X8_thrown rfl rfl rfl (by decide +kernel) ⟨Nat.le_of_ble_eq_true rfl, Nat.le_of_ble_eq_true rfl⟩) (preVp (wc := (WRd t bd 0 sz nr (u.1) pd np nb fs es ri (v.2.2.1) (v.2.2.2.1) (v.2.2.2.2) km st oc tk ce pl tl kp ca cp su de)) ((qo, .inl (t 2, 1, .inr (.inl (vp_updL og 0 z.toInt64)))) :: (WMd t ad sz nr rs re rr (u.1) (u.2.1) (u.2.2.1) (u.2.2.2.1) (u.2.2.2.2) nt ts te stk cm dp nb B lc kc last sc r K tr)) [] (by rw [w8v]; exact hP) (by rw [w8v]; exact hD) hK hN 9 0 rfl rfl rfl) rfl rfl hl.1 rfl (lv_room (Nat.le_of_ble_eq_true rfl)) dL_law_343 ⟨hc, hs⟩)) (fun r9 hr9 => ?_)
    subst hr9
    refine lv_iload hx hb dL_law_346 (lv_at hl 1 rfl) ?_
    refine lv_icmp_eq (tgt := 353) hx hb dL_law_348 (by decide) (fun _ => ?_) (fun c9 => absurd rfl c9)
    refine lv_iload hx hb dL_law_353 (lv_at hl 1 rfl) ?_
    refine r_if_ne (x := 0) (tgt := 370) hx hb (by omega) dL_law_355 (by decide) (fun c9 => absurd c9 (by decide)) (fun _ => ?_)
    refine lv_aload_n hx hb dL_law_358 rfl (lv_at hl 3 rfl) ?_
    refine lv_iconst (v := (nI 0)) hx hb dL_law_359 (by decide) ?_
    refine r_laldI (n := 1) hx hb hK hP 0 2 rfl rfl (Nat.lt_succ_self 0) (by decide) dL_law_360 ?_
    refine r_topl (y := z.toInt64) (if_pos rfl) ?_
    refine lv_iload hx hb dL_law_361 (lv_at hl 0 rfl) ?_
    refine lv_i2l hx hb dL_law_363 rfl ?_
    refine r_l_eq (tgt := 370) hx hb dL_law_364 dL_law_365 (by decide) (fun _ => ?_) (fun c9 => absurd (by rw [hz9]) c9)
    refine lv_goto (tgt := 826) hx hb dL_law_370 (by decide) ?_
    exact next _ _ _ ⟨nr, rs, re, rr, (u.1), (u.2.1), (u.2.2.1), (u.2.2.2.1), (u.2.2.2.2), nt, ts, te, stk, cm, dp, nb, B, lc, kc, last, sc, K, tr, 0, pd, np, fs, es, ri, (v.2.2.1), (v.2.2.2.1), (v.2.2.2.2), km, st, oc, tk, ce, pl, tl, kp, ca, cp, su, de, (vp_updL og 0 z.toInt64), hP, hD, hS, lv_sub hl [2, 3, 4, 5, 6] rfl, hReg, hSec', hPlc', hTak, hFun, hBlk, Nat.le_trans hnp (Nat.le_succ _)⟩
