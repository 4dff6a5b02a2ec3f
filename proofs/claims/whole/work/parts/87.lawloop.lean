/-! the law's loop -/
theorem cmp6 {L i : Nat} (hL : L ≤ 3073) (hi : i ≤ 4000) : (nI L - nI 6 < nI i) ↔ L < i + 6 := by
  rw [Int32.lt_iff_toInt_lt, nI_toInt (by omega : i < 2 ^ 31)]
  rcases Nat.lt_or_ge L 6 with h | h
  · have e : (nI L - nI 6).toInt = (L : Int) - 6 := by
      rcases (by omega : L = 0 ∨ L = 1 ∨ L = 2 ∨ L = 3 ∨ L = 4 ∨ L = 5) with rfl | rfl | rfl | rfl | rfl | rfl <;> decide
    rw [e]
    omega
  · rw [pk_sub h, nI_toInt (by omega)]
    omega
theorem and15 (x : Int32) : ∃ k, k < 16 ∧ x &&& nI 15 = nI k := by
  refine ⟨(x &&& nI 15).toBitVec.toNat, ?_, ?_⟩
  · have e : (x &&& nI 15).toBitVec = x.toBitVec &&& (nI 15).toBitVec := rfl
    rw [e, BitVec.toNat_and]
    exact Nat.lt_of_le_of_lt Nat.and_le_right (by decide)
  · apply Int32.toBitVec_inj.mp
    show (x &&& nI 15).toBitVec = BitVec.ofNat 32 _
    simp
theorem lw_back {p : Program} {e : Env} {s : State} {m : MethodId} {below : List Frame} {meth : Method} {c : Code} (l : Launch) {b L : Nat} {xs : Nat → Int32} (hL : L ≤ 3073) (C0 : lw_At p s m meth c b L xs) {D : va_G} {t : Nat → ClassId} {sa1 sa2 : Nat} (hC : LC l D t sa1 sa2 s) {ad r bd : Nat → Nat} {qo sz i N cells slots : Nat} {H : Heap} {locs : List Loc} {ls : Array Slot} (hI : LI D t s b ad r bd qo sz i N H locs ls) (k : ∀ ls : Array Slot, LI D t s b ad r bd qo sz (i + 6) N H locs ls → W p l e room_1 s m #[Value.ref b] below meth c H locs cells slots (lw_Z below #[Value.ref b] s) (F0 m 35 ls [])) : W p l e room_1 s m #[Value.ref b] below meth c H locs cells slots (lw_Z below #[Value.ref b] s) (F0 m 826 ls []) := by
  obtain ⟨hx, hb, hr, hml, hown, hts, hX, hbl, hlk, hgv⟩ := id C0
  have hown : s.vm.findClass RL = some m.cls := hown
  obtain ⟨hl0, hK, hN, hR1, hR2, hU, hV⟩ := id hC
  have hA : ∀ q : Nat, s.heap.size ≤ q → (fun q : Nat => s.heap.size ≤ q) q := fun _ h => h
  have hbA : ¬ (fun q : Nat => s.heap.size ≤ q) b := Nat.not_le.mpr hbl
  obtain ⟨nr, rs, re, rr, ns, sl, sa9, sk, gf, nt, ts, te, stk, cm, dp, nb, B, lc, kc, last, sc, K, tr, th, pd, np, fs, es, ri, ln, al, ki, km, st, oc, tk, ce, pl, tl, kp, ca, cp, su, de, og, hP, hD, hS, hl, hReg, hSec, hPlc, hTak, hFun, hBlk, hnp⟩ := hI
  refine lv_iinc (v := nI (i + 6)) (lv' := [(4, .int (nI (i + 6))), (3, .ref qo), (2, .ref (bd 0)), (1, .ref (ad 0)), (0, .ref b)]) hx hb dL_law_826 hl (k := 0) rfl (by rw [show Int32.ofInt 6 = nI 6 from by decide, nI_add]) (by decide) rfl (fun ls hl => ?_)
  refine lv_goto (tgt := 35) hx hb dL_law_829 (by decide) ?_
  exact k _ ⟨nr, rs, re, rr, ns, sl, sa9, sk, gf, nt, ts, te, stk, cm, dp, nb, B, lc, kc, last, sc, K, tr, th, pd, np, fs, es, ri, ln, al, ki, km, st, oc, tk, ce, pl, tl, kp, ca, cp, su, de, og, hP, hD, hS, hl, hReg, hSec, hPlc, hTak, hFun, hBlk, hnp⟩
set_option maxHeartbeats 1000000 in
theorem lw_loop {p : Program} {e : Env} {s : State} {m : MethodId} {below : List Frame} {meth : Method} {c : Code} (l : Launch) {b L : Nat} {xs : Nat → Int32} (hL : L ≤ 3073) (C0 : lw_At p s m meth c b L xs) {D : va_G} {t : Nat → ClassId} {sa1 sa2 : Nat} (hC : LC l D t sa1 sa2 s) {ad r bd : Nat → Nat} {qo sz : Nat} : ∀ (n i N cells slots : Nat) (H : Heap) (locs : List Loc) (ls : Array Slot), L < i + 6 * n → i ≤ 4000 → N + n ≤ 900 → cells + 6 * n ≤ 601024 → slots + 80 * n ≤ 7293000 → LI D t s b ad r bd qo sz i N H locs ls → W p l e room_1 s m #[Value.ref b] below meth c H locs cells slots (lw_Z below #[Value.ref b] s) (F0 m 35 ls []) := by
  intro n
  induction n with
  | zero =>
    intro i N cells slots H locs ls h1 h2 h3 h4 h5 hI
    obtain ⟨hx, hb, hr, hml, hown, hts, hX, hbl, hlk, hgv⟩ := id C0
    have hown : s.vm.findClass RL = some m.cls := hown
    obtain ⟨hl0, hK, hN, hR1, hR2, hU, hV⟩ := id hC
    have hA : ∀ q : Nat, s.heap.size ≤ q → (fun q : Nat => s.heap.size ≤ q) q := fun _ h => h
    have hbA : ¬ (fun q : Nat => s.heap.size ≤ q) b := Nat.not_le.mpr hbl
    obtain ⟨nr, rs, re, rr, ns, sl, sa9, sk, gf, nt, ts, te, stk, cm, dp, nb, B, lc, kc, last, sc, K, tr, th, pd, np, fs, es, ri, ln, al, ki, km, st, oc, tk, ce, pl, tl, kp, ca, cp, su, de, og, hP, hD, hS, hl, hReg, hSec, hPlc, hTak, hFun, hBlk, hnp⟩ := hI
    refine lv_iload hx hb dL_law_35 (lv_at hl 0 rfl) ?_
    refine lv_aload_n hx hb dL_law_37 rfl (lv_at hl 4 rfl) ?_
    refine va_slen hx hb hX hbl hbA hS dL_law_38 ?_
    refine lv_bipush (v := (nI 6)) hx hb dL_law_39 (by decide) ?_
    refine lv_isub hx hb dL_law_41 ?_
    refine lv_icmp_gt (tgt := 832) hx hb dL_law_42 (by decide) (fun c1 => ?_) (fun c1 => absurd ((cmp6 hL h2).mpr (by omega)) c1)
    refine lv_iconst (v := 1) hx hb dL_law_832 (by decide) ?_
    refine va_forget (fun q hq => hS.2.2 q hq) ?_
    refine W.widen (k := 601024) (n := 7293000) (by omega) (by omega) ?_
    exact lw_ret hx hb hr hlk dL_law_833
  | succ n ih =>
    intro i N cells slots H locs ls h1 h2 h3 h4 h5 hI
    have hI0 := hI
    obtain ⟨hx, hb, hr, hml, hown, hts, hX, hbl, hlk, hgv⟩ := id C0
    have hown : s.vm.findClass RL = some m.cls := hown
    obtain ⟨hl0, hK, hN, hR1, hR2, hU, hV⟩ := id hC
    have hA : ∀ q : Nat, s.heap.size ≤ q → (fun q : Nat => s.heap.size ≤ q) q := fun _ h => h
    have hbA : ¬ (fun q : Nat => s.heap.size ≤ q) b := Nat.not_le.mpr hbl
    obtain ⟨nr, rs, re, rr, ns, sl, sa9, sk, gf, nt, ts, te, stk, cm, dp, nb, B, lc, kc, last, sc, K, tr, th, pd, np, fs, es, ri, ln, al, ki, km, st, oc, tk, ce, pl, tl, kp, ca, cp, su, de, og, hP, hD, hS, hl, hReg, hSec, hPlc, hTak, hFun, hBlk, hnp⟩ := hI
    refine lv_iload hx hb dL_law_35 (lv_at hl 0 rfl) ?_
    refine lv_aload_n hx hb dL_law_37 rfl (lv_at hl 4 rfl) ?_
    refine va_slen hx hb hX hbl hbA hS dL_law_38 ?_
    refine lv_bipush (v := (nI 6)) hx hb dL_law_39 (by decide) ?_
    refine lv_isub hx hb dL_law_41 ?_
    refine lv_icmp_gt (tgt := 832) hx hb dL_law_42 (by decide) (fun c1 => ?_) (fun c1 => ?_)
    · refine lv_iconst (v := 1) hx hb dL_law_832 (by decide) ?_
      refine va_forget (fun q hq => hS.2.2 q hq) ?_
      refine W.widen (k := 601024) (n := 7293000) (by omega) (by omega) ?_
      exact lw_ret hx hb hr hlk dL_law_833
    · have hi : i + 6 ≤ L := Nat.le_of_not_lt (fun q => c1 ((cmp6 hL h2).mpr q))
      refine lv_aload_n hx hb dL_law_45 rfl (lv_at hl 4 rfl) ?_
      refine lv_iload hx hb dL_law_46 (lv_at hl 0 rfl) ?_
      refine r_sld hx hb hX hbl hbA hS (by omega) hL dL_law_48 ?_
      refine lv_bipush (v := (nI 15)) hx hb dL_law_49 (by decide) ?_
      refine lv_iand hx hb dL_law_51 ?_
      obtain ⟨k, hk, ek⟩ := and15 (xs i)
      refine r_topi ek ?_
      have hc : cells + 6 ≤ room_1.cells := by show cells + 6 ≤ 601024; omega
      have hs : slots + 80 ≤ room_1.slots := by show slots + 80 ≤ 7293000; omega
      have next : ∀ (H : Heap) (locs : List Loc) (ls : Array Slot), LI D t s b ad r bd qo sz i (N + 1) H locs ls → W p l e room_1 s m #[Value.ref b] below meth c H locs (cells + 6) (slots + 80) (lw_Z below #[Value.ref b] s) (F0 m 826 ls []) := fun H locs ls hI => lw_back l hL C0 hC hI (fun ls hI => ih (i + 6) (N + 1) (cells + 6) (slots + 80) H locs ls (by omega) (by omega) (by omega) (by omega) (by omega) hI)
      rcases (by omega : k = 0 ∨ k = 1 ∨ k = 2 ∨ k = 3 ∨ k = 4 ∨ k = 5 ∨ k = 6 ∨ k = 7 ∨ k = 8 ∨ k = 9 ∨ k = 10 ∨ k = 11 ∨ k = 12 ∨ k = 13 ∨ k = 14 ∨ k = 15) with rfl | rfl | rfl | rfl | rfl | rfl | rfl | rfl | rfl | rfl | rfl | rfl | rfl | rfl | rfl | rfl
      · exact lv_tableIn (off := 64) (tgt := 116) hx hb dL_law_52 (by decide) (by decide) (by decide) (by decide) (lw_region l hL C0 hC hi (by omega) hI0 hc hs next)
      · exact lv_tableIn (off := 177) (tgt := 229) hx hb dL_law_52 (by decide) (by decide) (by decide) (by decide) (lw_section l hL C0 hC hi (by omega) hI0 hc hs next)
      · exact lv_tableIn (off := 321) (tgt := 373) hx hb dL_law_52 (by decide) (by decide) (by decide) (by decide) (lw_place l hL C0 hC hi (by omega) hI0 hc hs next)
      · exact lv_tableIn (off := 334) (tgt := 386) hx hb dL_law_52 (by decide) (by decide) (by decide) (by decide) (lw_at l hL C0 hC hi (by omega) hI0 hc hs next)
      · exact lv_tableIn (off := 360) (tgt := 412) hx hb dL_law_52 (by decide) (by decide) (by decide) (by decide) (lw_call l hL C0 hC hi (by omega) hI0 hc hs next)
      · exact lv_tableIn (off := 441) (tgt := 493) hx hb dL_law_52 (by decide) (by decide) (by decide) (by decide) (lw_depth l hL C0 hC hi (by omega) hI0 hc hs next)
      · exact lv_tableIn (off := 467) (tgt := 519) hx hb dL_law_52 (by decide) (by decide) (by decide) (by decide) (lw_block l hL C0 hC hi (by omega) hI0 hc hs next)
      · exact lv_tableIn (off := 524) (tgt := 576) hx hb dL_law_52 (by decide) (by decide) (by decide) (by decide) (lw_write l hL C0 hC hi (by omega) hI0 hc hs next)
      · exact lv_tableIn (off := 575) (tgt := 627) hx hb dL_law_52 (by decide) (by decide) (by decide) (by decide) (lw_poke l hL C0 hC hi (by omega) hI0 hc hs next)
      · exact lv_tableIn (off := 636) (tgt := 688) hx hb dL_law_52 (by decide) (by decide) (by decide) (by decide) (lw_read l hL C0 hC hi (by omega) hI0 hc hs next)
      · exact lv_tableIn (off := 661) (tgt := 713) hx hb dL_law_52 (by decide) (by decide) (by decide) (by decide) (lw_cell l hL C0 hC hi (by omega) hI0 hc hs next)
      · exact lv_tableIn (off := 749) (tgt := 801) hx hb dL_law_52 (by decide) (by decide) (by decide) (by decide) (lw_moved l hL C0 hC hi (by omega) hI0 hc hs next)
      · refine lv_tableOut (tgt := 826) hx hb dL_law_52 (by decide) (by decide) ?_
        refine W.widen (k := cells + 6) (n := slots + 80) (Nat.le_add_right _ _) (Nat.le_add_right _ _) ?_
        exact next _ _ _ ⟨nr, rs, re, rr, ns, sl, sa9, sk, gf, nt, ts, te, stk, cm, dp, nb, B, lc, kc, last, sc, K, tr, th, pd, np, fs, es, ri, ln, al, ki, km, st, oc, tk, ce, pl, tl, kp, ca, cp, su, de, og, hP, hD, hS, hl, hReg, hSec, hPlc, hTak, hFun, hBlk, Nat.le_trans hnp (Nat.le_succ _)⟩
      · refine lv_tableOut (tgt := 826) hx hb dL_law_52 (by decide) (by decide) ?_
        refine W.widen (k := cells + 6) (n := slots + 80) (Nat.le_add_right _ _) (Nat.le_add_right _ _) ?_
        exact next _ _ _ ⟨nr, rs, re, rr, ns, sl, sa9, sk, gf, nt, ts, te, stk, cm, dp, nb, B, lc, kc, last, sc, K, tr, th, pd, np, fs, es, ri, ln, al, ki, km, st, oc, tk, ce, pl, tl, kp, ca, cp, su, de, og, hP, hD, hS, hl, hReg, hSec, hPlc, hTak, hFun, hBlk, Nat.le_trans hnp (Nat.le_succ _)⟩
      · refine lv_tableOut (tgt := 826) hx hb dL_law_52 (by decide) (by decide) ?_
        refine W.widen (k := cells + 6) (n := slots + 80) (Nat.le_add_right _ _) (Nat.le_add_right _ _) ?_
        exact next _ _ _ ⟨nr, rs, re, rr, ns, sl, sa9, sk, gf, nt, ts, te, stk, cm, dp, nb, B, lc, kc, last, sc, K, tr, th, pd, np, fs, es, ri, ln, al, ki, km, st, oc, tk, ce, pl, tl, kp, ca, cp, su, de, og, hP, hD, hS, hl, hReg, hSec, hPlc, hTak, hFun, hBlk, Nat.le_trans hnp (Nat.le_succ _)⟩
      · refine lv_tableOut (tgt := 826) hx hb dL_law_52 (by decide) (by decide) ?_
        refine W.widen (k := cells + 6) (n := slots + 80) (Nat.le_add_right _ _) (Nat.le_add_right _ _) ?_
        exact next _ _ _ ⟨nr, rs, re, rr, ns, sl, sa9, sk, gf, nt, ts, te, stk, cm, dp, nb, B, lc, kc, last, sc, K, tr, th, pd, np, fs, es, ri, ln, al, ki, km, st, oc, tk, ce, pl, tl, kp, ca, cp, su, de, og, hP, hD, hS, hl, hReg, hSec, hPlc, hTak, hFun, hBlk, Nat.le_trans hnp (Nat.le_succ _)⟩
