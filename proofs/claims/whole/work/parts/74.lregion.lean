set_option maxHeartbeats 2000000 in
set_option maxRecDepth 100000 in
theorem lw_region {p : Program} {e : Env} {s : State} {m : MethodId} {below : List Frame} {meth : Method} {c : Code} (l : Launch) {b L : Nat} {xs : Nat → Int32} (hL : L ≤ 3073) (C0 : lw_At p s m meth c b L xs) {D : va_G} {t : Nat → ClassId} {sa1 sa2 : Nat} (hC : LC l D t sa1 sa2 s) {ad r bd : Nat → Nat} {qo sz i N cells slots : Nat} {H : Heap} {locs : List Loc} {ls : Array Slot} (hi : i + 6 ≤ L) (hN9 : N ≤ 900) (hI : LI D t s b ad r bd qo sz i N H locs ls) (hc : cells + 6 ≤ room_1.cells) (hs : slots + 80 ≤ room_1.slots)
    (next : ∀ (H : Heap) (locs : List Loc) (ls : Array Slot), LI D t s b ad r bd qo sz i (N + 1) H locs ls → W p l e room_1 s m #[Value.ref b] below meth c H locs (cells + 6) (slots + 80) (lw_Z below #[Value.ref b] s) (F0 m 826 ls [])) : W p l e room_1 s m #[Value.ref b] below meth c H locs cells slots (lw_Z below #[Value.ref b] s) (F0 m 116 ls []) := by
  obtain ⟨hx, hb, hr, hml, hown, hts, hX, hbl, hlk, hgv⟩ := id C0
  have hown : s.vm.findClass RL = some m.cls := hown
  obtain ⟨hl0, hK, hN, hR1, hR2, hU, hV⟩ := id hC
  have hA : ∀ q : Nat, s.heap.size ≤ q → (fun q : Nat => s.heap.size ≤ q) q := fun _ h => h
  have hbA : ¬ (fun q : Nat => s.heap.size ≤ q) b := Nat.not_le.mpr hbl
  obtain ⟨nr, rs, re, rr, ns, sl, sa9, sk, gf, nt, ts, te, stk, cm, dp, nb, B, lc, kc, last, sc, K, tr, th, pd, np, fs, es, ri, ln, al, ki, km, st, oc, tk, ce, pl, tl, kp, ca, cp, su, de, og, hP, hD, hS, hl, hReg, hSec, hPlc, hTak, hFun, hBlk, hnp⟩ := hI
  obtain ⟨g1, g2, g3, g4, g5, g6, g7, g8⟩ := id hReg
  obtain ⟨s1, s2, s3, s4, s5, s6, s7, s8, s9, s10⟩ := id hSec
  obtain ⟨p1, p2, p3, p4, p5, p6, p7, p8, p9, p10, p11, p12⟩ := id hPlc
  obtain ⟨k1, k2, k3⟩ := id hTak
  obtain ⟨f1, f2, f3, f4, f5, f6⟩ := id hFun
  obtain ⟨b1, b2, b3, b4, b5⟩ := id hBlk
  refine lv_aload_n hx hb dL_law_116 rfl (lv_at hl 3 rfl) ?_
  refine lv_aload_n hx hb dL_law_117 rfl (lv_at hl 4 rfl) ?_
  refine lv_iload hx hb dL_law_118 (lv_at hl 0 rfl) ?_
  refine lv_iconst (v := (nI 1)) hx hb dL_law_120 (by decide) ?_
  refine r_iadd (x := i) (y := 1) hx hb dL_law_121 ?_
  refine r_sld hx hb hX hbl hbA hS (by omega) hL dL_law_122 ?_
  refine lv_i2l hx hb dL_law_123 rfl ?_
  refine lv_bipush (v := (nI 32)) hx hb dL_law_124 (by decide) ?_
  refine lv_lshl hx hb dL_law_126 rfl ?_
  refine lv_aload_n hx hb dL_law_127 rfl (lv_at hl 4 rfl) ?_
  refine lv_iload hx hb dL_law_128 (lv_at hl 0 rfl) ?_
  refine lv_iconst (v := (nI 2)) hx hb dL_law_130 (by decide) ?_
  refine r_iadd (x := i) (y := 2) hx hb dL_law_131 ?_
  refine r_sld hx hb hX hbl hbA hS (by omega) hL dL_law_132 ?_
  refine lv_i2l hx hb dL_law_133 rfl ?_
  refine lv_ldc2 (v := (lN 4294967295)) hx hb hown (hts _ wL_7) dL_law_134 ?_
  refine lv_land hx hb dL_law_137 ?_
  refine lv_lor hx hb dL_law_138 ?_
  refine r_topl (y := (lwJ ((xs (i + 1))) ((xs (i + 2))))) rfl ?_
  refine lv_aload_n hx hb dL_law_139 rfl (lv_at hl 4 rfl) ?_
  refine lv_iload hx hb dL_law_140 (lv_at hl 0 rfl) ?_
  refine lv_iconst (v := (nI 3)) hx hb dL_law_142 (by decide) ?_
  refine r_iadd (x := i) (y := 3) hx hb dL_law_143 ?_
  refine r_sld hx hb hX hbl hbA hS (by omega) hL dL_law_144 ?_
  refine lv_i2l hx hb dL_law_145 rfl ?_
  refine lv_bipush (v := (nI 32)) hx hb dL_law_146 (by decide) ?_
  refine lv_lshl hx hb dL_law_148 rfl ?_
  refine lv_aload_n hx hb dL_law_149 rfl (lv_at hl 4 rfl) ?_
  refine lv_iload hx hb dL_law_150 (lv_at hl 0 rfl) ?_
  refine lv_iconst (v := (nI 4)) hx hb dL_law_152 (by decide) ?_
  refine r_iadd (x := i) (y := 4) hx hb dL_law_153 ?_
  refine r_sld hx hb hX hbl hbA hS (by omega) hL dL_law_154 ?_
  refine lv_i2l hx hb dL_law_155 rfl ?_
  refine lv_ldc2 (v := (lN 4294967295)) hx hb hown (hts _ wL_7) dL_law_156 ?_
  refine lv_land hx hb dL_law_159 ?_
  refine lv_lor hx hb dL_law_160 ?_
  refine r_topl (y := (lwJ ((xs (i + 3))) ((xs (i + 4))))) rfl ?_
  refine lv_aload_n hx hb dL_law_161 rfl (lv_at hl 4 rfl) ?_
  refine lv_iload hx hb dL_law_162 (lv_at hl 0 rfl) ?_
  refine lv_iconst (v := (nI 5)) hx hb dL_law_164 (by decide) ?_
  refine r_iadd (x := i) (y := 5) hx hb dL_law_165 ?_
  refine r_sld hx hb hX hbl hbA hS (by omega) hL dL_law_166 ?_
  refine call_Mip (wc := (WMd t ad sz nr rs re rr ns sl sa9 sk gf nt ts te stk cm dp nb B lc kc last sc r K tr)) (wc' := fun u : Nat × (Nat → Nat) × (Nat → Nat) × (Nat → Nat) => (WMd t ad sz (u.1) (u.2.1) (u.2.2.1) (u.2.2.2) ns sl sa9 sk gf nt ts te stk cm dp nb B lc kc last sc r K tr)) [(qo, .inl (t 2, 1, .inr (.inl og)))] (WRd t bd th sz nr ns pd np nb fs es ri ln al ki km st oc tk ce pl tl kp ca cp su de) (va_runV (As := [.long ((lwJ ((xs (i + 1))) ((xs (i + 2))))), .long ((lwJ ((xs (i + 3))) ((xs (i + 4))))), .int ((xs (i + 5)))]) (rest := []) ⟨hx, hb, hml, hown, hts⟩ (c_X7_region l D t ad sz nr rs re rr ns sl sa9 sk gf nt ts te stk cm dp nb B lc kc last sc r K tr (lwJ (xs (i + 1)) (xs (i + 2))) (lwJ (xs (i + 3)) (xs (i + 4))) (xs (i + 5)) g1 g2 g3 g4 _) (cwV 3 hts gL_law_X7_region rfl rfl rfl (by decide +kernel) ⟨Nat.le_of_ble_eq_true rfl, Nat.le_of_ble_eq_true rfl⟩) (preVp (wc := (WMd t ad sz nr rs re rr ns sl sa9 sk gf nt ts te stk cm dp nb B lc kc last sc r K tr)) [(qo, .inl (t 2, 1, .inr (.inl og)))] (WRd t bd th sz nr ns pd np nb fs es ri ln al ki km st oc tk ce pl tl kp ca cp su de) hP hD hK hN 8 0 rfl rfl rfl) rfl rfl hl.1 rfl (lv_room (Nat.le_of_ble_eq_true rfl)) dL_law_167 ⟨(Nat.le_trans (Nat.add_le_add_left (Nat.le_of_ble_eq_true rfl) _) hc), (Nat.le_trans (Nat.add_le_add_left (Nat.le_of_ble_eq_true rfl) _) hs)⟩) hP hD hS hA (fun z u H locs h7 hP hD hS hz => ?_)
  have hP : va_P D vwCl ((qo, .inl (t 2, 1, .inr (.inl og))) :: ((WMd t ad sz (u.1) (u.2.1) (u.2.2.1) (u.2.2.2) ns sl sa9 sk gf nt ts te stk cm dp nb B lc kc last sc r K tr) ++ (WRd t bd th sz nr ns pd np nb fs es ri ln al ki km st oc tk ce pl tl kp ca cp su de))) H := hP
  have hD : va_D (fun q : Nat => s.heap.size ≤ q) ((qo, .inl (t 2, 1, .inr (.inl og))) :: ((WMd t ad sz (u.1) (u.2.1) (u.2.2.1) (u.2.2.2) ns sl sa9 sk gf nt ts te stk cm dp nb B lc kc last sc r K tr) ++ (WRd t bd th sz nr ns pd np nb fs es ri ln al ki km st oc tk ce pl tl kp ca cp su de))) := hD
  refine W.widen (k := cells + 6) (n := slots + 80) (Nat.add_le_add_left (Nat.le_of_ble_eq_true rfl) _) (Nat.add_le_add_left (Nat.le_of_ble_eq_true rfl) _) ?_
  refine lv_aload_n hx hb dL_law_170 rfl (lv_at hl 2 rfl) ?_
  refine lv_aload_n hx hb dL_law_171 rfl (lv_at hl 4 rfl) ?_
  refine lv_iload hx hb dL_law_172 (lv_at hl 0 rfl) ?_
  refine lv_iconst (v := (nI 1)) hx hb dL_law_174 (by decide) ?_
  refine r_iadd (x := i) (y := 1) hx hb dL_law_175 ?_
  refine r_sld hx hb hX hbl hbA hS (by omega) hL dL_law_176 ?_
  refine lv_i2l hx hb dL_law_177 rfl ?_
  refine lv_bipush (v := (nI 32)) hx hb dL_law_178 (by decide) ?_
  refine lv_lshl hx hb dL_law_180 rfl ?_
  refine lv_aload_n hx hb dL_law_181 rfl (lv_at hl 4 rfl) ?_
  refine lv_iload hx hb dL_law_182 (lv_at hl 0 rfl) ?_
  refine lv_iconst (v := (nI 2)) hx hb dL_law_184 (by decide) ?_
  refine r_iadd (x := i) (y := 2) hx hb dL_law_185 ?_
  refine r_sld hx hb hX hbl hbA hS (by omega) hL dL_law_186 ?_
  refine lv_i2l hx hb dL_law_187 rfl ?_
  refine lv_ldc2 (v := (lN 4294967295)) hx hb hown (hts _ wL_7) dL_law_188 ?_
  refine lv_land hx hb dL_law_191 ?_
  refine lv_lor hx hb dL_law_192 ?_
  refine r_topl (y := (lwJ ((xs (i + 1))) ((xs (i + 2))))) rfl ?_
  refine lv_aload_n hx hb dL_law_193 rfl (lv_at hl 4 rfl) ?_
  refine lv_iload hx hb dL_law_194 (lv_at hl 0 rfl) ?_
  refine lv_iconst (v := (nI 3)) hx hb dL_law_196 (by decide) ?_
  refine r_iadd (x := i) (y := 3) hx hb dL_law_197 ?_
  refine r_sld hx hb hX hbl hbA hS (by omega) hL dL_law_198 ?_
  refine lv_i2l hx hb dL_law_199 rfl ?_
  refine lv_bipush (v := (nI 32)) hx hb dL_law_200 (by decide) ?_
  refine lv_lshl hx hb dL_law_202 rfl ?_
  refine lv_aload_n hx hb dL_law_203 rfl (lv_at hl 4 rfl) ?_
  refine lv_iload hx hb dL_law_204 (lv_at hl 0 rfl) ?_
  refine lv_iconst (v := (nI 4)) hx hb dL_law_206 (by decide) ?_
  refine r_iadd (x := i) (y := 4) hx hb dL_law_207 ?_
  refine r_sld hx hb hX hbl hbA hS (by omega) hL dL_law_208 ?_
  refine lv_i2l hx hb dL_law_209 rfl ?_
  refine lv_ldc2 (v := (lN 4294967295)) hx hb hown (hts _ wL_7) dL_law_210 ?_
  refine lv_land hx hb dL_law_213 ?_
  refine lv_lor hx hb dL_law_214 ?_
  refine r_topl (y := (lwJ ((xs (i + 3))) ((xs (i + 4))))) rfl ?_
  refine lv_aload_n hx hb dL_law_215 rfl (lv_at hl 4 rfl) ?_
  refine lv_iload hx hb dL_law_216 (lv_at hl 0 rfl) ?_
  refine lv_iconst (v := (nI 5)) hx hb dL_law_218 (by decide) ?_
  refine r_iadd (x := i) (y := 5) hx hb dL_law_219 ?_
  refine r_sld hx hb hX hbl hbA hS (by omega) hL dL_law_220 ?_
  refine call_Mip (wc := (WRd t bd th sz nr ns pd np nb fs es ri ln al ki km st oc tk ce pl tl kp ca cp su de)) (wc' := fun v : Nat × (Nat → Nat) × (Nat → Nat) × (Nat → Nat) => (WRd t bd 0 sz (v.1) ns pd np nb (v.2.1) (v.2.2.1) (v.2.2.2) ln al ki km st oc tk ce pl tl kp ca cp su de)) ((qo, .inl (t 2, 1, .inr (.inl og))) :: (WMd t ad sz (u.1) (u.2.1) (u.2.2.1) (u.2.2.2) ns sl sa9 sk gf nt ts te stk cm dp nb B lc kc last sc r K tr)) [] (va_runV (As := [.long ((lwJ ((xs (i + 1))) ((xs (i + 2))))), .long ((lwJ ((xs (i + 3))) ((xs (i + 4))))), .int ((xs (i + 5)))]) (rest := [.int z]) ⟨hx, hb, hml, hown, hts⟩ (c_X8_region l D t bd th sz nr ns pd np nb fs es ri ln al ki km st oc tk ce pl tl kp ca cp su de (lwJ (xs (i + 1)) (xs (i + 2))) (lwJ (xs (i + 3)) (xs (i + 4))) (xs (i + 5)) g1 g2 g5 g6 _) (cwV 3 hts gL_law_X8_region rfl rfl rfl (by decide +kernel) ⟨Nat.le_of_ble_eq_true rfl, Nat.le_of_ble_eq_true rfl⟩) (preVp (wc := (WRd t bd th sz nr ns pd np nb fs es ri ln al ki km st oc tk ce pl tl kp ca cp su de)) ((qo, .inl (t 2, 1, .inr (.inl og))) :: (WMd t ad sz (u.1) (u.2.1) (u.2.2.1) (u.2.2.2) ns sl sa9 sk gf nt ts te stk cm dp nb B lc kc last sc r K tr)) [] (by rw [w8v]; exact hP) (by rw [w8v]; exact hD) hK hN 9 0 rfl rfl rfl) rfl rfl hl.1 rfl (lv_room (Nat.le_of_ble_eq_true rfl)) dL_law_221 ⟨hc, hs⟩) (by rw [w8v]; exact hP) (by rw [w8v]; exact hD) hS hA (fun z' v H locs h8 hP hD hS hz => ?_)
  rw [w8v] at hP hD
  have hP : va_P D vwCl ((qo, .inl (t 2, 1, .inr (.inl og))) :: ((WMd t ad sz (u.1) (u.2.1) (u.2.2.1) (u.2.2.2) ns sl sa9 sk gf nt ts te stk cm dp nb B lc kc last sc r K tr) ++ (WRd t bd 0 sz (v.1) ns pd np nb (v.2.1) (v.2.2.1) (v.2.2.2) ln al ki km st oc tk ce pl tl kp ca cp su de))) H := hP
  have hD : va_D (fun q : Nat => s.heap.size ≤ q) ((qo, .inl (t 2, 1, .inr (.inl og))) :: ((WMd t ad sz (u.1) (u.2.1) (u.2.2.1) (u.2.2.2) ns sl sa9 sk gf nt ts te stk cm dp nb B lc kc last sc r K tr) ++ (WRd t bd 0 sz (v.1) ns pd np nb (v.2.1) (v.2.2.1) (v.2.2.2) ln al ki km st oc tk ce pl tl kp ca cp su de))) := hD
  refine W.widen (k := cells + 6) (n := slots + 80) (Nat.le_refl _) (Nat.le_refl _) ?_
  obtain ⟨hz9, e9, hReg'⟩ := st_region hReg h7 h8
  rw [e9] at hP hD
  refine lv_icmp_eq (tgt := 826) hx hb dL_law_224 (by decide) (fun _ => ?_) (fun c9 => absurd (hz9) c9)
  exact next _ _ _ ⟨(u.1), (u.2.1), (u.2.2.1), (u.2.2.2), ns, sl, sa9, sk, gf, nt, ts, te, stk, cm, dp, nb, B, lc, kc, last, sc, K, tr, 0, pd, np, (v.2.1), (v.2.2.1), (v.2.2.2), ln, al, ki, km, st, oc, tk, ce, pl, tl, kp, ca, cp, su, de, og, hP, hD, hS, lv_sub hl [0, 1, 2, 3, 4] rfl, hReg', hSec, hPlc, hTak, hFun, hBlk, Nat.le_trans hnp (Nat.le_succ _)⟩
