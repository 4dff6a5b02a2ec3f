section PW
variable {s : State} {H : Heap} {D : va_G} {A : Nat → Prop} {tys : List (ClassId × FieldType)} {ws : va_W}
theorem preVw {b : Nat} {As : List Value} {C : String} {q : vw_C} {fs : List Value} (hP : va_P D vwCl ws H) (hD : va_D A ws) (hK : va_K D vwCl tys s) (hN : NS s) (ci q0 : Nat) (hc : vwCl[ci]? = some q) (he : ws[q0]? = some (b, .inr (ci, fs))) (hq : q.1 = C) : PreV s H C b (va_Pc (.ref b :: As) (Wd D tys ws H.size)) As := by
  subst hq
  exact ⟨Wd.blind, va_recv hK hP hc he, fun U hU hW => ⟨rfl, by rw [hU], by rw [hU]; exact hP, va_K.moved hW.alike hK, hD.weaken (fun _ _ _ _ => trivial), NS.warm hW hN⟩⟩
end PW
theorem blkQ_at {B : Nat → BT} {n k : Nat} (h : k < n) : va_rf (blkQ B n k) = .ref (B k).1 := by
  unfold blkQ
  rw [if_pos h]
  rfl
theorem blkQ_up {B : Nat → BT} {n k : Nat} {x : BT} (h : x.1 = (B k).1) : blkQ (va_up B k x) n = blkQ B n := by
  funext i
  unfold blkQ va_up
  by_cases e : i = k
  · rw [if_pos e, e, h]
  · rw [if_neg e]
theorem blkQ_new {B : Nat → BT} {n : Nat} {x : BT} : va_up (blkQ B n) n (some x.1) = blkQ (va_up B n x) (n + 1) := by
  funext i
  unfold blkQ va_up
  by_cases e : i = n
  · rw [if_pos e, if_pos (by omega), if_pos e]
  · rw [if_neg e, if_neg e]
    by_cases h : i < n
    · show (if i < n then _ else _) = _
      rw [if_pos h, if_pos (by omega)]
    · show (if i < n then _ else _) = _
      rw [if_neg h, if_neg (by omega)]
theorem blk_new {t : Nat → ClassId} {B : Nat → BT} {n : Nat} {x : BT} : seg (blkF t B) n ++ blkC t x = seg (blkF t (va_up B n x)) (n + 1) := by
  rw [seg_succ]
  unfold blkF
  rw [va_up_self]
  congr 1
  exact seg_congr n (fun i hi => by rw [va_up_ne _ _ (Nat.ne_of_lt hi)])
/-- block k to the front, and back -/
def frZ (t : Nat → ClassId) (X Y : va_W) (B : Nat → BT) (k n : Nat) : va_W := (X ++ (Y ++ seg (blkF t B) k)) ++ seg (fun i => blkF t B (k + 1 + i)) (n - k - 1)
theorem fr_perm {t : Nat → ClassId} {X Y : va_W} {B : Nat → BT} {k n : Nat} (h : k < n) (x : BT) : (X ++ (Y ++ seg (blkF t (va_up B k x)) n)).Perm (blkC t x ++ frZ t X Y B k n) := by
  rw [← blkF_up h, re_assoc]
  exact perm_front [] _ _ _
theorem va_up_id {α : Type} (f : Nat → α) (k : Nat) : va_up f k (f k) = f := by
  funext j
  unfold va_up
  split
  · next e => rw [e]
  · rfl
theorem fr_perm0 {t : Nat → ClassId} {X Y : va_W} {B : Nat → BT} {k n : Nat} (h : k < n) : (X ++ (Y ++ seg (blkF t B) n)).Perm (blkC t (B k) ++ frZ t X Y B k n) := by
  have q := fr_perm (t := t) (X := X) (Y := Y) (B := B) h (B k)
  rw [va_up_id] at q
  exact q
/-- the octet j of both copies -/
def setB (x : BT) (j : Nat) (b : Int32) : BT := (x.1, x.2.1, (x.2.2.1.1, x.2.2.1.2.1, upd x.2.2.1.2.2.1 j (b.toInt8.toInt32), sumF (upd x.2.2.1.2.2.1 j (b.toInt8.toInt32)) x.2.1), (x.2.2.2.1, x.2.2.2.2.1, upd x.2.2.2.2.2.1 j (b.toInt8.toInt32), sumF (upd x.2.2.2.2.2.1 j (b.toInt8.toInt32)) x.2.1))
def pok1 (x : BT) (j : Nat) (m : Int32) : BT := (x.1, x.2.1, (x.2.2.1.1, x.2.2.1.2.1, upd x.2.2.1.2.2.1 j ((x.2.2.1.2.2.1 j ^^^ m).toInt8.toInt32), x.2.2.1.2.2.2), x.2.2.2)
def pok2 (x : BT) (j : Nat) (m : Int32) : BT := (x.1, x.2.1, x.2.2.1, (x.2.2.2.1, x.2.2.2.2.1, upd x.2.2.2.2.2.1 j ((x.2.2.2.2.2.1 j ^^^ m).toInt8.toInt32), x.2.2.2.2.2.2))
def repB (x : BT) (u : (Nat → Int32) × Int32 × (Nat → Int32) × Int32) : BT := (x.1, x.2.1, (x.2.2.1.1, x.2.2.1.2.1, u.1, u.2.1), (x.2.2.2.1, x.2.2.2.2.1, u.2.2.1, u.2.2.2))
/-- a region's numbers as they must be -/
def RegIn (sz : Nat) (fr n : Int64) (f k : Nat) : Prop := fr = lN f ∧ n = lN k ∧ 1 ≤ k ∧ f + k ≤ sz
theorem reg_in {sz : Nat} {fr n : Int64} (hz : sz ≤ 65536) (h1 : ¬ n < lN 1) (h2 : ¬ fr < lN 0) (h3 : ¬ (lN sz - n) < fr) : ∃ f k, RegIn sz fr n f k := by
  rw [Int64.lt_iff_toInt_lt, lN_toInt (by decide)] at h1 h2
  have b1 := Int64.toInt_lt n
  rw [Int64.lt_iff_toInt_lt, Jvm.Kit.i64_sub (by rw [lN_toInt (by omega)]; omega) (by rw [lN_toInt (by omega)]; omega), lN_toInt (by omega)] at h3
  refine ⟨fr.toInt.toNat, n.toInt.toNat, ?_, ?_, by omega, by omega⟩
  · apply Int64.toInt_inj.mp
    rw [lN_toInt (by omega)]
    omega
  · apply Int64.toInt_inj.mp
    rw [lN_toInt (by omega)]
    omega
theorem reg_out {sz : Nat} {fr n : Int64} (hz : sz ≤ 65536) (h : n < lN 1 ∨ fr < lN 0 ∨ (lN sz - n) < fr) : ∀ f k, ¬ RegIn sz fr n f k := by
  rintro f k ⟨rfl, rfl, h1, h2⟩
  rcases h with q | q | q
  · exact absurd ((pk_lLT (by omega) (by decide)).mp q) (by omega)
  · exact absurd ((pk_lLT (by omega) (by decide)).mp q) (by omega)
  · rw [lN_sub (by omega)] at q
    exact absurd ((pk_lLT (by omega) (by omega)).mp q) (by omega)
theorem i_X7_region_X7 : ∀ w ∈ wsX70, w ∈ wsX7_region := by decide +kernel
abbrev rm_X7_region : Room := { frames := 1, cells := 0, slots := 0, locals := 25 }
set_option maxHeartbeats 1000000 in
set_option maxRecDepth 100000 in
theorem c_X7_region (l : Launch) (D : va_G) (t : Nat → ClassId) (ad : Nat → Nat) (sz nr : Nat) (rs re rr : Nat → Nat) (ns : Nat) (sl sa sk gf : Nat → Nat) (nt : Nat) (ts te : Nat → Nat) (stk cm dp : Nat → Nat) (nb : Nat) (B : Nat → BT) (lc kc : Nat) (last sc r : Nat → Nat) (K : Nat → Nat → Nat) (tr : Nat → Nat) (fr n : Int64) (ri : Int32) (hsz : sz ≤ 65536) (hnr : nr ≤ 16) (hrs : ∀ k, rs k ≤ 65536) (hre : ∀ k, re k ≤ 65536) : Mi l yX7_region wsX7_region rm_X7_region D (TY t) [.ref (ad 0), .long fr, .long n, .int ri] ([((ad 0), .inr (8, [.int (nI sz), .ref (ad 1), .ref (ad 5), .ref (ad 10), .ref (ad 13), .ref (ad 19), .ref (ad 14), .ref (ad 18), .int (nI nb)])), ((ad 1), .inr (5, [.ref (ad 2), .ref (ad 3), .ref (ad 4), .int (nI nr)])), ((ad 2), .inl (t 0, 16, .inl (nF rs))), ((ad 3), .inl (t 0, 16, .inl (nF re))), ((ad 4), .inl (t 0, 16, .inl (nF rr))), ((ad 5), .inr (6, [.ref (ad 6), .ref (ad 7), .ref (ad 8), .ref (ad 9), .int (nI ns)])), ((ad 6), .inl (t 0, 40, .inl (nF sl))), ((ad 7), .inl (t 0, 40, .inl (nF sa))), ((ad 8), .inl (t 0, 40, .inl (nF sk))), ((ad 9), .inl (t 0, 40, .inl (nF gf))), ((ad 10), .inr (7, [.ref (ad 11), .ref (ad 12), .int (nI nt)])), ((ad 11), .inl (t 0, 40, .inl (nF ts))), ((ad 12), .inl (t 0, 40, .inl (nF te))), ((ad 14), .inr (3, [.ref (ad 15), .ref (ad 16), .ref (ad 17)])), ((ad 15), .inl (t 0, 31, .inl (nF stk))), ((ad 16), .inl (t 0, 31, .inl (nF cm))), ((ad 17), .inl (t 0, 31, .inl (nF dp))), ((ad 18), .inl (t 4, 20, .inr (.inr (.inr (.inr (blkQ B nb)))))), ((ad 19), .inr (4, [.ref (ad 20), .int (nI lc), .ref (ad 21), .ref (ad 22), .int (nI kc)])), ((ad 20), .inl (t 0, 40, .inl (nF last))), ((ad 21), .inl (t 5, 50, .inr (.inr (.inr (.inr (rowQ r)))))), ((ad 22), .inl (t 0, 50, .inl (nF sc))), ((ad 13), .inl (t 0, 40, .inl (nF tr)))] ++ (seg (rowF t r K) 50 ++ seg (blkF t B) nb)) (S := Nat × (Nat → Nat) × (Nat → Nat) × (Nat → Nat)) (fun z u => (((∀ f k, ¬ RegIn sz fr n f k) ∨ (∀ j, j ≤ 7 → ri ≠ nI j)) ∧ z = (-2) ∧ u = (nr, rs, re, rr)) ∨ ∃ f k j, RegIn sz fr n f k ∧ j ≤ 7 ∧ ri = nI j ∧ (((∃ i, i < nr ∧ f < re i ∧ rs i < f + k) ∧ z = (-3) ∧ u = (nr, rs, re, rr)) ∨ ((∀ i, i < nr → ¬ (f < re i ∧ rs i < f + k)) ∧ ((16 ≤ nr ∧ z = (-4) ∧ u = (nr, rs, re, rr)) ∨ (nr < 16 ∧ z = nI (nr + 1) ∧ u = (nr + 1, va_up rs nr f, va_up re nr (f + k), va_up rr nr j)))))) (fun u => ([((ad 0), .inr (8, [.int (nI sz), .ref (ad 1), .ref (ad 5), .ref (ad 10), .ref (ad 13), .ref (ad 19), .ref (ad 14), .ref (ad 18), .int (nI nb)])), ((ad 1), .inr (5, [.ref (ad 2), .ref (ad 3), .ref (ad 4), .int (nI (u.1))])), ((ad 2), .inl (t 0, 16, .inl (nF u.2.1))), ((ad 3), .inl (t 0, 16, .inl (nF u.2.2.1))), ((ad 4), .inl (t 0, 16, .inl (nF u.2.2.2))), ((ad 5), .inr (6, [.ref (ad 6), .ref (ad 7), .ref (ad 8), .ref (ad 9), .int (nI ns)])), ((ad 6), .inl (t 0, 40, .inl (nF sl))), ((ad 7), .inl (t 0, 40, .inl (nF sa))), ((ad 8), .inl (t 0, 40, .inl (nF sk))), ((ad 9), .inl (t 0, 40, .inl (nF gf))), ((ad 10), .inr (7, [.ref (ad 11), .ref (ad 12), .int (nI nt)])), ((ad 11), .inl (t 0, 40, .inl (nF ts))), ((ad 12), .inl (t 0, 40, .inl (nF te))), ((ad 14), .inr (3, [.ref (ad 15), .ref (ad 16), .ref (ad 17)])), ((ad 15), .inl (t 0, 31, .inl (nF stk))), ((ad 16), .inl (t 0, 31, .inl (nF cm))), ((ad 17), .inl (t 0, 31, .inl (nF dp))), ((ad 18), .inl (t 4, 20, .inr (.inr (.inr (.inr (blkQ B nb)))))), ((ad 19), .inr (4, [.ref (ad 20), .int (nI lc), .ref (ad 21), .ref (ad 22), .int (nI kc)])), ((ad 20), .inl (t 0, 40, .inl (nF last))), ((ad 21), .inl (t 5, 50, .inr (.inr (.inr (.inr (rowQ r)))))), ((ad 22), .inl (t 0, 50, .inl (nF sc))), ((ad 13), .inl (t 0, 40, .inl (nF tr)))] ++ (seg (rowF t r K) 50 ++ seg (blkF t B) nb))) := by
  refine start_Mi cX7_region 9 (some .int) (by decide) rfl (Nat.le_of_ble_eq_true rfl) ?_
  intro p e s m below meth c A ls B hin hP hD hS hA hl
  obtain ⟨hx, hb, hr, hts, hown, hlk, hml, hN, hK⟩ := B
  have hl : lv_has ls 9 [(0, .ref (ad 0)), (1, .long fr), (3, .long n), (5, .int ri)] := hl
  refine lv_lload_n hx hb dX7_region_0 rfl (lv_at hl 2 rfl) ?_
  refine lv_lconst (v := (lN (1))) hx hb dX7_region_1 (by decide) ?_
  refine r_l_lt (tgt := 28) hx hb dX7_region_2 dX7_region_3 (by decide) (fun c1 => ?_) (fun c1 => ?_)
  · refine lv_iconst (v := (nI 0)) hx hb dX7_region_28 (by decide) ?_
    refine lv_istore (lv' := [(6, .int (nI 0)), (0, .ref (ad 0)), (1, .long fr), (3, .long n), (5, .int ri)]) hx hb dX7_region_29 hl (by decide) rfl (fun ls hl => ?_)
    refine lv_iload hx hb dX7_region_31 (lv_at hl 0 rfl) ?_
    refine r_if_eq (x := 0) (tgt := 49) hx hb (by omega) dX7_region_33 (by decide) (fun _ => ?_) (fun c => absurd c (by decide))
    refine lv_bipush (v := ((-2))) hx hb dX7_region_49 (by decide) ?_
    exact ret_Mi hx hb hr hlk ((nr, rs, re, rr)) (Or.inl ⟨Or.inl (reg_out hsz (Or.inl c1)), rfl, rfl⟩) hP hD hS (Nat.le_of_ble_eq_true rfl) (Nat.le_of_ble_eq_true rfl) dX7_region_51
  · refine lv_lload_n hx hb dX7_region_6 rfl (lv_at hl 1 rfl) ?_
    refine lv_lconst (v := (lN (0))) hx hb dX7_region_7 (by decide) ?_
    refine r_l_lt (tgt := 28) hx hb dX7_region_8 dX7_region_9 (by decide) (fun c2 => ?_) (fun c2 => ?_)
    · refine lv_iconst (v := (nI 0)) hx hb dX7_region_28 (by decide) ?_
      refine lv_istore (lv' := [(6, .int (nI 0)), (0, .ref (ad 0)), (1, .long fr), (3, .long n), (5, .int ri)]) hx hb dX7_region_29 hl (by decide) rfl (fun ls hl => ?_)
      refine lv_iload hx hb dX7_region_31 (lv_at hl 0 rfl) ?_
      refine r_if_eq (x := 0) (tgt := 49) hx hb (by omega) dX7_region_33 (by decide) (fun _ => ?_) (fun c => absurd c (by decide))
      refine lv_bipush (v := ((-2))) hx hb dX7_region_49 (by decide) ?_
      exact ret_Mi hx hb hr hlk ((nr, rs, re, rr)) (Or.inl ⟨Or.inl (reg_out hsz (Or.inr (Or.inl c2))), rfl, rfl⟩) hP hD hS (Nat.le_of_ble_eq_true rfl) (Nat.le_of_ble_eq_true rfl) dX7_region_51
    · refine lv_lload_n hx hb dX7_region_12 rfl (lv_at hl 1 rfl) ?_
      refine lv_aload_n hx hb dX7_region_13 rfl (lv_at hl 0 rfl) ?_
      refine va_get (D := D) (ci := 8) (v := .int (nI sz)) (C := RX7) (T := TX7) (N := 9) hx hb hts i_X7_region_X7 hown hK hP 0 rfl rfl 0 (by decide) (hts (.fieldLink RX7 60 "MemoryMap" "size" "I") (List.mem_of_getElem? (i := 1) rfl)) (fun _ h9 => h9) rfl dX7_region_14 ?_
      refine lv_i2l (v := (lN (sz))) hx hb dX7_region_17 (nI_l (by omega)) ?_
      refine lv_lload_n hx hb dX7_region_18 rfl (lv_at hl 2 rfl) ?_
      refine lv_lsub hx hb dX7_region_19 ?_
      refine r_l_gt (tgt := 28) hx hb dX7_region_20 dX7_region_21 (by decide) (fun c3 => ?_) (fun c3 => ?_)
      · refine lv_iconst (v := (nI 0)) hx hb dX7_region_28 (by decide) ?_
        refine lv_istore (lv' := [(6, .int (nI 0)), (0, .ref (ad 0)), (1, .long fr), (3, .long n), (5, .int ri)]) hx hb dX7_region_29 hl (by decide) rfl (fun ls hl => ?_)
        refine lv_iload hx hb dX7_region_31 (lv_at hl 0 rfl) ?_
        refine r_if_eq (x := 0) (tgt := 49) hx hb (by omega) dX7_region_33 (by decide) (fun _ => ?_) (fun c => absurd c (by decide))
        refine lv_bipush (v := ((-2))) hx hb dX7_region_49 (by decide) ?_
        exact ret_Mi hx hb hr hlk ((nr, rs, re, rr)) (Or.inl ⟨Or.inl (reg_out hsz (Or.inr (Or.inr c3))), rfl, rfl⟩) hP hD hS (Nat.le_of_ble_eq_true rfl) (Nat.le_of_ble_eq_true rfl) dX7_region_51
      · refine lv_iconst (v := (nI 1)) hx hb dX7_region_24 (by decide) ?_
        refine lv_goto (tgt := 29) hx hb dX7_region_25 (by decide) ?_
        refine lv_istore (lv' := [(6, .int (nI 1)), (0, .ref (ad 0)), (1, .long fr), (3, .long n), (5, .int ri)]) hx hb dX7_region_29 hl (by decide) rfl (fun ls hl => ?_)
        refine lv_iload hx hb dX7_region_31 (lv_at hl 0 rfl) ?_
        refine r_if_eq (x := 1) (tgt := 49) hx hb (by omega) dX7_region_33 (by decide) (fun c => absurd c (by decide)) (fun _ => ?_)
        refine lv_iload hx hb dX7_region_36 (lv_at hl 4 rfl) ?_
        refine lv_i2l hx hb dX7_region_38 rfl ?_
        refine lv_lconst (v := (lN (0))) hx hb dX7_region_39 (by decide) ?_
        refine lv_ldc2 (v := (lN (7))) hx hb hown (hts (.constantLong RX7 64 (7)) (List.mem_of_getElem? (i := 2) rfl)) dX7_region_40 ?_
        refine vp_callSi (va_Run.run (va_runS (As := [.long ri.toInt64, .long (lN (0)), .long (lN (7))]) (rest := []) ⟨hx, hb, hml, hown, hts⟩ (c_X7_isWithin l D t ri.toInt64 (lN 0) (lN 7) _) (va_cwS 3 hts gX7_region_X7_isWithin rfl rfl rfl (by decide +kernel) ⟨Nat.le_of_ble_eq_true rfl, Nat.le_of_ble_eq_true rfl⟩) (preS hP hD hK hN [] rfl (by decide)) rfl rfl hl.1 rfl (lv_room (Nat.le_of_ble_eq_true rfl)) dX7_region_43 ⟨Nat.le_of_ble_eq_true rfl, Nat.le_of_ble_eq_true rfl⟩)) (fun r hw => ?_)
        rcases hw with ⟨rfl, h1, h2⟩ | ⟨rfl, h1⟩
        · obtain ⟨j, -, q2, rfl⟩ := rngI (by omega) (by omega) h1 h2
          obtain ⟨f, k, hin2⟩ := reg_in hsz c1 c2 c3
          obtain ⟨rfl, rfl, k1, k2⟩ := id hin2
          have hl : lv_has ls 9 [(6, .int (nI 1)), (0, .ref (ad 0)), (1, .long (lN (f))), (3, .long (lN (k))), (5, .int (nI j))] := hl
          refine r_if_ne (x := 1) (tgt := 52) hx hb (by omega) dX7_region_46 (by decide) (fun _ => ?_) (fun c => absurd c (by decide))
          refine lv_lload_n hx hb dX7_region_52 rfl (lv_at hl 2 rfl) ?_
          refine lv_l2i (v := (nI f)) hx hb dX7_region_53 (lN_i _) ?_
          refine lv_istore (lv' := [(7, .int (nI f)), (6, .int (nI 1)), (0, .ref (ad 0)), (1, .long (lN (f))), (3, .long (lN (k))), (5, .int (nI j))]) hx hb dX7_region_54 hl (by decide) rfl (fun ls hl => ?_)
          refine lv_iload hx hb dX7_region_56 (lv_at hl 0 rfl) ?_
          refine lv_lload_n hx hb dX7_region_58 rfl (lv_at hl 4 rfl) ?_
          refine lv_l2i (v := (nI k)) hx hb dX7_region_59 (lN_i _) ?_
          refine r_iadd (x := f) (y := k) hx hb dX7_region_60 ?_
          refine lv_istore (lv' := [(8, .int (nI (f + k))), (7, .int (nI f)), (6, .int (nI 1)), (0, .ref (ad 0)), (1, .long (lN (f))), (3, .long (lN (k))), (5, .int (nI j))]) hx hb dX7_region_61 hl (by decide) rfl (fun ls hl => ?_)
          refine lv_aload_n hx hb dX7_region_63 rfl (lv_at hl 3 rfl) ?_
          refine va_get (D := D) (ci := 8) (v := .ref (ad 1)) (C := RX7) (T := TX7) (N := 9) hx hb hts i_X7_region_X7 hown hK hP 0 rfl rfl 1 (by decide) (hts (.fieldLink RX7 10 "MemoryMap" "regions" "LMemoryMap$Regions;") (List.mem_of_getElem? (i := 3) rfl)) (fun _ h9 => h9) rfl dX7_region_64 ?_
          refine lv_iload hx hb dX7_region_67 (lv_at hl 1 rfl) ?_
          refine lv_iload hx hb dX7_region_69 (lv_at hl 0 rfl) ?_
          refine vp_callSi (va_Run.run (va_runVN (As := [.int (nI f), .int (nI (f + k))]) (rest := []) ⟨hx, hb, hml, hown, hts⟩ (c_X4_overlap l D t (ad 1) (ad 2) (ad 3) (ad 4) nr rs re rr f (f + k) hnr hrs hre (by omega) (by omega) _) (⟨va_cnB 2 hts ggX7_region_X4_overlap rfl rfl rfl (hN.m 5 rfl) (hts (.initialized RX4) (List.mem_of_getElem? (i := 9) rfl)) (by decide +kernel) ⟨Nat.le_of_ble_eq_true rfl, Nat.le_of_ble_eq_true rfl⟩, (hts (.instanceMethod yX4_overlap) (List.mem_of_getElem? (i := 8) rfl)), (hts (.selects RX4 yX4_overlap yX4_overlap) (List.mem_of_getElem? (i := 10) rfl))⟩) (preVp (wc := [((ad 1), .inr (5, [.ref (ad 2), .ref (ad 3), .ref (ad 4), .int (nI nr)])), ((ad 2), .inl (t 0, 16, .inl (nF rs))), ((ad 3), .inl (t 0, 16, .inl (nF re))), ((ad 4), .inl (t 0, 16, .inl (nF rr)))]) [((ad 0), .inr (8, [.int (nI sz), .ref (ad 1), .ref (ad 5), .ref (ad 10), .ref (ad 13), .ref (ad 19), .ref (ad 14), .ref (ad 18), .int (nI nb)]))] ([((ad 5), .inr (6, [.ref (ad 6), .ref (ad 7), .ref (ad 8), .ref (ad 9), .int (nI ns)])), ((ad 6), .inl (t 0, 40, .inl (nF sl))), ((ad 7), .inl (t 0, 40, .inl (nF sa))), ((ad 8), .inl (t 0, 40, .inl (nF sk))), ((ad 9), .inl (t 0, 40, .inl (nF gf))), ((ad 10), .inr (7, [.ref (ad 11), .ref (ad 12), .int (nI nt)])), ((ad 11), .inl (t 0, 40, .inl (nF ts))), ((ad 12), .inl (t 0, 40, .inl (nF te))), ((ad 14), .inr (3, [.ref (ad 15), .ref (ad 16), .ref (ad 17)])), ((ad 15), .inl (t 0, 31, .inl (nF stk))), ((ad 16), .inl (t 0, 31, .inl (nF cm))), ((ad 17), .inl (t 0, 31, .inl (nF dp))), ((ad 18), .inl (t 4, 20, .inr (.inr (.inr (.inr (blkQ B nb)))))), ((ad 19), .inr (4, [.ref (ad 20), .int (nI lc), .ref (ad 21), .ref (ad 22), .int (nI kc)])), ((ad 20), .inl (t 0, 40, .inl (nF last))), ((ad 21), .inl (t 5, 50, .inr (.inr (.inr (.inr (rowQ r)))))), ((ad 22), .inl (t 0, 50, .inl (nF sc))), ((ad 13), .inl (t 0, 40, .inl (nF tr)))] ++ (seg (rowF t r K) 50 ++ seg (blkF t B) nb)) hP hD hK hN 5 0 rfl rfl rfl) rfl rfl hl.1 rfl (lv_room (Nat.le_of_ble_eq_true rfl)) dX7_region_71 ⟨Nat.le_of_ble_eq_true rfl, Nat.le_of_ble_eq_true rfl⟩)) (fun r hw => ?_)
          rcases hw with ⟨rfl, g⟩ | ⟨rfl, g⟩
          · refine r_if_eq (x := 1) (tgt := 80) hx hb (by omega) dX7_region_74 (by decide) (fun c => absurd c (by decide)) (fun _ => ?_)
            refine lv_bipush (v := ((-3))) hx hb dX7_region_77 (by decide) ?_
            exact ret_Mi hx hb hr hlk ((nr, rs, re, rr)) (Or.inr ⟨f, k, j, hin2, q2, rfl, Or.inl ⟨g, rfl, rfl⟩⟩) hP hD hS (Nat.le_of_ble_eq_true rfl) (Nat.le_of_ble_eq_true rfl) dX7_region_79
          · refine r_if_eq (x := 0) (tgt := 80) hx hb (by omega) dX7_region_74 (by decide) (fun _ => ?_) (fun c => absurd c (by decide))
            refine lv_aload_n hx hb dX7_region_80 rfl (lv_at hl 3 rfl) ?_
            refine va_get (D := D) (ci := 8) (v := .ref (ad 1)) (C := RX7) (T := TX7) (N := 9) hx hb hts i_X7_region_X7 hown hK hP 0 rfl rfl 1 (by decide) (hts (.fieldLink RX7 10 "MemoryMap" "regions" "LMemoryMap$Regions;") (List.mem_of_getElem? (i := 3) rfl)) (fun _ h9 => h9) rfl dX7_region_81 ?_
            refine lv_iload hx hb dX7_region_84 (lv_at hl 1 rfl) ?_
            refine lv_iload hx hb dX7_region_86 (lv_at hl 0 rfl) ?_
            refine lv_iload hx hb dX7_region_88 (lv_at hl 6 rfl) ?_
            refine call_Mip (wc := [((ad 1), .inr (5, [.ref (ad 2), .ref (ad 3), .ref (ad 4), .int (nI nr)])), ((ad 2), .inl (t 0, 16, .inl (nF rs))), ((ad 3), .inl (t 0, 16, .inl (nF re))), ((ad 4), .inl (t 0, 16, .inl (nF rr)))]) (wc' := fun v : Nat × (Nat → Nat) × (Nat → Nat) × (Nat → Nat) => [((ad 1), .inr (5, [.ref (ad 2), .ref (ad 3), .ref (ad 4), .int (nI (v.1))])), ((ad 2), .inl (t 0, 16, .inl (nF v.2.1))), ((ad 3), .inl (t 0, 16, .inl (nF v.2.2.1))), ((ad 4), .inl (t 0, 16, .inl (nF v.2.2.2)))]) [((ad 0), .inr (8, [.int (nI sz), .ref (ad 1), .ref (ad 5), .ref (ad 10), .ref (ad 13), .ref (ad 19), .ref (ad 14), .ref (ad 18), .int (nI nb)]))] ([((ad 5), .inr (6, [.ref (ad 6), .ref (ad 7), .ref (ad 8), .ref (ad 9), .int (nI ns)])), ((ad 6), .inl (t 0, 40, .inl (nF sl))), ((ad 7), .inl (t 0, 40, .inl (nF sa))), ((ad 8), .inl (t 0, 40, .inl (nF sk))), ((ad 9), .inl (t 0, 40, .inl (nF gf))), ((ad 10), .inr (7, [.ref (ad 11), .ref (ad 12), .int (nI nt)])), ((ad 11), .inl (t 0, 40, .inl (nF ts))), ((ad 12), .inl (t 0, 40, .inl (nF te))), ((ad 14), .inr (3, [.ref (ad 15), .ref (ad 16), .ref (ad 17)])), ((ad 15), .inl (t 0, 31, .inl (nF stk))), ((ad 16), .inl (t 0, 31, .inl (nF cm))), ((ad 17), .inl (t 0, 31, .inl (nF dp))), ((ad 18), .inl (t 4, 20, .inr (.inr (.inr (.inr (blkQ B nb)))))), ((ad 19), .inr (4, [.ref (ad 20), .int (nI lc), .ref (ad 21), .ref (ad 22), .int (nI kc)])), ((ad 20), .inl (t 0, 40, .inl (nF last))), ((ad 21), .inl (t 5, 50, .inr (.inr (.inr (.inr (rowQ r)))))), ((ad 22), .inl (t 0, 50, .inl (nF sc))), ((ad 13), .inl (t 0, 40, .inl (nF tr)))] ++ (seg (rowF t r K) 50 ++ seg (blkF t B) nb)) (va_runVN (As := [.int (nI f), .int (nI (f + k)), .int (nI j)]) (rest := []) ⟨hx, hb, hml, hown, hts⟩ (c_X4_add l D t (ad 1) (ad 2) (ad 3) (ad 4) nr rs re rr f (f + k) j hnr _) (⟨va_cnB 3 hts ggX7_region_X4_add rfl rfl rfl (hN.m 6 rfl) (hts (.initialized RX4) (List.mem_of_getElem? (i := 9) rfl)) (by decide +kernel) ⟨Nat.le_of_ble_eq_true rfl, Nat.le_of_ble_eq_true rfl⟩, (hts (.instanceMethod yX4_add) (List.mem_of_getElem? (i := 15) rfl)), (hts (.selects RX4 yX4_add yX4_add) (List.mem_of_getElem? (i := 16) rfl))⟩) (preVp (wc := [((ad 1), .inr (5, [.ref (ad 2), .ref (ad 3), .ref (ad 4), .int (nI nr)])), ((ad 2), .inl (t 0, 16, .inl (nF rs))), ((ad 3), .inl (t 0, 16, .inl (nF re))), ((ad 4), .inl (t 0, 16, .inl (nF rr)))]) [((ad 0), .inr (8, [.int (nI sz), .ref (ad 1), .ref (ad 5), .ref (ad 10), .ref (ad 13), .ref (ad 19), .ref (ad 14), .ref (ad 18), .int (nI nb)]))] ([((ad 5), .inr (6, [.ref (ad 6), .ref (ad 7), .ref (ad 8), .ref (ad 9), .int (nI ns)])), ((ad 6), .inl (t 0, 40, .inl (nF sl))), ((ad 7), .inl (t 0, 40, .inl (nF sa))), ((ad 8), .inl (t 0, 40, .inl (nF sk))), ((ad 9), .inl (t 0, 40, .inl (nF gf))), ((ad 10), .inr (7, [.ref (ad 11), .ref (ad 12), .int (nI nt)])), ((ad 11), .inl (t 0, 40, .inl (nF ts))), ((ad 12), .inl (t 0, 40, .inl (nF te))), ((ad 14), .inr (3, [.ref (ad 15), .ref (ad 16), .ref (ad 17)])), ((ad 15), .inl (t 0, 31, .inl (nF stk))), ((ad 16), .inl (t 0, 31, .inl (nF cm))), ((ad 17), .inl (t 0, 31, .inl (nF dp))), ((ad 18), .inl (t 4, 20, .inr (.inr (.inr (.inr (blkQ B nb)))))), ((ad 19), .inr (4, [.ref (ad 20), .int (nI lc), .ref (ad 21), .ref (ad 22), .int (nI kc)])), ((ad 20), .inl (t 0, 40, .inl (nF last))), ((ad 21), .inl (t 5, 50, .inr (.inr (.inr (.inr (rowQ r)))))), ((ad 22), .inl (t 0, 50, .inl (nF sc))), ((ad 13), .inl (t 0, 40, .inl (nF tr)))] ++ (seg (rowF t r K) 50 ++ seg (blkF t B) nb)) hP hD hK hN 5 0 rfl rfl rfl) rfl rfl hl.1 rfl (lv_room (Nat.le_of_ble_eq_true rfl)) dX7_region_90 ⟨Nat.le_of_ble_eq_true rfl, Nat.le_of_ble_eq_true rfl⟩) hP hD hS hA (fun z v H locs hw hP hD hS hz => ?_)
            have hP : va_P D vwCl ([((ad 0), .inr (8, [.int (nI sz), .ref (ad 1), .ref (ad 5), .ref (ad 10), .ref (ad 13), .ref (ad 19), .ref (ad 14), .ref (ad 18), .int (nI nb)])), ((ad 1), .inr (5, [.ref (ad 2), .ref (ad 3), .ref (ad 4), .int (nI (v.1))])), ((ad 2), .inl (t 0, 16, .inl (nF v.2.1))), ((ad 3), .inl (t 0, 16, .inl (nF v.2.2.1))), ((ad 4), .inl (t 0, 16, .inl (nF v.2.2.2))), ((ad 5), .inr (6, [.ref (ad 6), .ref (ad 7), .ref (ad 8), .ref (ad 9), .int (nI ns)])), ((ad 6), .inl (t 0, 40, .inl (nF sl))), ((ad 7), .inl (t 0, 40, .inl (nF sa))), ((ad 8), .inl (t 0, 40, .inl (nF sk))), ((ad 9), .inl (t 0, 40, .inl (nF gf))), ((ad 10), .inr (7, [.ref (ad 11), .ref (ad 12), .int (nI nt)])), ((ad 11), .inl (t 0, 40, .inl (nF ts))), ((ad 12), .inl (t 0, 40, .inl (nF te))), ((ad 14), .inr (3, [.ref (ad 15), .ref (ad 16), .ref (ad 17)])), ((ad 15), .inl (t 0, 31, .inl (nF stk))), ((ad 16), .inl (t 0, 31, .inl (nF cm))), ((ad 17), .inl (t 0, 31, .inl (nF dp))), ((ad 18), .inl (t 4, 20, .inr (.inr (.inr (.inr (blkQ B nb)))))), ((ad 19), .inr (4, [.ref (ad 20), .int (nI lc), .ref (ad 21), .ref (ad 22), .int (nI kc)])), ((ad 20), .inl (t 0, 40, .inl (nF last))), ((ad 21), .inl (t 5, 50, .inr (.inr (.inr (.inr (rowQ r)))))), ((ad 22), .inl (t 0, 50, .inl (nF sc))), ((ad 13), .inl (t 0, 40, .inl (nF tr)))] ++ (seg (rowF t r K) 50 ++ seg (blkF t B) nb)) H := hP
            have hD : va_D A ([((ad 0), .inr (8, [.int (nI sz), .ref (ad 1), .ref (ad 5), .ref (ad 10), .ref (ad 13), .ref (ad 19), .ref (ad 14), .ref (ad 18), .int (nI nb)])), ((ad 1), .inr (5, [.ref (ad 2), .ref (ad 3), .ref (ad 4), .int (nI (v.1))])), ((ad 2), .inl (t 0, 16, .inl (nF v.2.1))), ((ad 3), .inl (t 0, 16, .inl (nF v.2.2.1))), ((ad 4), .inl (t 0, 16, .inl (nF v.2.2.2))), ((ad 5), .inr (6, [.ref (ad 6), .ref (ad 7), .ref (ad 8), .ref (ad 9), .int (nI ns)])), ((ad 6), .inl (t 0, 40, .inl (nF sl))), ((ad 7), .inl (t 0, 40, .inl (nF sa))), ((ad 8), .inl (t 0, 40, .inl (nF sk))), ((ad 9), .inl (t 0, 40, .inl (nF gf))), ((ad 10), .inr (7, [.ref (ad 11), .ref (ad 12), .int (nI nt)])), ((ad 11), .inl (t 0, 40, .inl (nF ts))), ((ad 12), .inl (t 0, 40, .inl (nF te))), ((ad 14), .inr (3, [.ref (ad 15), .ref (ad 16), .ref (ad 17)])), ((ad 15), .inl (t 0, 31, .inl (nF stk))), ((ad 16), .inl (t 0, 31, .inl (nF cm))), ((ad 17), .inl (t 0, 31, .inl (nF dp))), ((ad 18), .inl (t 4, 20, .inr (.inr (.inr (.inr (blkQ B nb)))))), ((ad 19), .inr (4, [.ref (ad 20), .int (nI lc), .ref (ad 21), .ref (ad 22), .int (nI kc)])), ((ad 20), .inl (t 0, 40, .inl (nF last))), ((ad 21), .inl (t 5, 50, .inr (.inr (.inr (.inr (rowQ r)))))), ((ad 22), .inl (t 0, 50, .inl (nF sc))), ((ad 13), .inl (t 0, 40, .inl (nF tr)))] ++ (seg (rowF t r K) 50 ++ seg (blkF t B) nb)) := hD
            exact ret_Mi hx hb hr hlk (v) (Or.inr ⟨f, k, j, hin2, q2, rfl, Or.inr ⟨g, hw⟩⟩) hP hD hS (Nat.le_of_ble_eq_true rfl) (Nat.le_of_ble_eq_true rfl) dX7_region_93
        · refine r_if_ne (x := 0) (tgt := 52) hx hb (by omega) dX7_region_46 (by decide) (fun c => absurd c (by decide)) (fun _ => ?_)
          refine lv_bipush (v := ((-2))) hx hb dX7_region_49 (by decide) ?_
          have h2 := rngI' (by omega) (by omega) h1
          exact ret_Mi hx hb hr hlk ((nr, rs, re, rr)) (Or.inl ⟨Or.inr (fun j hj => h2 j (Nat.zero_le _) hj), rfl, rfl⟩) hP hD hS (Nat.le_of_ble_eq_true rfl) (Nat.le_of_ble_eq_true rfl) dX7_region_51

theorem i_X7_blockNumbered_X7 : ∀ w ∈ wsX70, w ∈ wsX7_blockNumbered := by decide +kernel
abbrev rm_X7_blockNumbered : Room := { frames := 1, cells := 0, slots := 0, locals := 25 }
set_option maxHeartbeats 1000000 in
set_option maxRecDepth 100000 in
theorem c_X7_blockNumbered (l : Launch) (D : va_G) (t : Nat → ClassId) (ad : Nat → Nat) (sz nr : Nat) (rs re rr : Nat → Nat) (ns : Nat) (sl sa sk gf : Nat → Nat) (nt : Nat) (ts te : Nat → Nat) (stk cm dp : Nat → Nat) (nb : Nat) (B : Nat → BT) (lc kc : Nat) (last sc r : Nat → Nat) (K : Nat → Nat → Nat) (tr : Nat → Nat) (x : Int32) (hnb : nb ≤ 20) : Qq l yX7_blockNumbered wsX7_blockNumbered rm_X7_blockNumbered D (TY t) [.ref (ad 0), .int x] ([((ad 0), .inr (8, [.int (nI sz), .ref (ad 1), .ref (ad 5), .ref (ad 10), .ref (ad 13), .ref (ad 19), .ref (ad 14), .ref (ad 18), .int (nI nb)])), ((ad 1), .inr (5, [.ref (ad 2), .ref (ad 3), .ref (ad 4), .int (nI nr)])), ((ad 2), .inl (t 0, 16, .inl (nF rs))), ((ad 3), .inl (t 0, 16, .inl (nF re))), ((ad 4), .inl (t 0, 16, .inl (nF rr))), ((ad 5), .inr (6, [.ref (ad 6), .ref (ad 7), .ref (ad 8), .ref (ad 9), .int (nI ns)])), ((ad 6), .inl (t 0, 40, .inl (nF sl))), ((ad 7), .inl (t 0, 40, .inl (nF sa))), ((ad 8), .inl (t 0, 40, .inl (nF sk))), ((ad 9), .inl (t 0, 40, .inl (nF gf))), ((ad 10), .inr (7, [.ref (ad 11), .ref (ad 12), .int (nI nt)])), ((ad 11), .inl (t 0, 40, .inl (nF ts))), ((ad 12), .inl (t 0, 40, .inl (nF te))), ((ad 14), .inr (3, [.ref (ad 15), .ref (ad 16), .ref (ad 17)])), ((ad 15), .inl (t 0, 31, .inl (nF stk))), ((ad 16), .inl (t 0, 31, .inl (nF cm))), ((ad 17), .inl (t 0, 31, .inl (nF dp))), ((ad 18), .inl (t 4, 20, .inr (.inr (.inr (.inr (blkQ B nb)))))), ((ad 19), .inr (4, [.ref (ad 20), .int (nI lc), .ref (ad 21), .ref (ad 22), .int (nI kc)])), ((ad 20), .inl (t 0, 40, .inl (nF last))), ((ad 21), .inl (t 5, 50, .inr (.inr (.inr (.inr (rowQ r)))))), ((ad 22), .inl (t 0, 50, .inl (nF sc))), ((ad 13), .inl (t 0, 40, .inl (nF tr)))] ++ (seg (rowF t r K) 50 ++ seg (blkF t B) nb)) (fun o => ((∀ k, 1 ≤ k → k ≤ nb → x ≠ nI k) ∧ o = none) ∨ ∃ k, k < nb ∧ x = nI (k + 1) ∧ o = some (B k).1) := by
  refine start_Qq cX7_blockNumbered 2 (some (.object "MemoryMap$Block")) (by decide) rfl (Nat.le_of_ble_eq_true rfl) ?_
  intro p e s m below meth c ls B hP hD hl
  obtain ⟨hx, hb, hr, hts, hown, hlk, hml, hN, hK⟩ := B
  have hl : lv_has ls 2 [(0, .ref (ad 0)), (1, .int x)] := hl
  refine lv_iload_n hx hb dX7_blockNumbered_0 rfl (lv_at hl 1 rfl) ?_
  refine lv_i2l hx hb dX7_blockNumbered_1 rfl ?_
  refine lv_lconst (v := (lN (1))) hx hb dX7_blockNumbered_2 (by decide) ?_
  refine lv_aload_n hx hb dX7_blockNumbered_3 rfl (lv_at hl 0 rfl) ?_
  refine va_get (D := D) (ci := 8) (v := .int (nI nb)) (C := RX7) (T := TX7) (N := 9) hx hb hts i_X7_blockNumbered_X7 hown hK hP 0 rfl rfl 8 (by decide) (hts (.fieldLink RX7 129 "MemoryMap" "blockCount" "I") (List.mem_of_getElem? (i := 1) rfl)) (fun _ h9 => h9) rfl dX7_blockNumbered_4 ?_
  refine lv_i2l (v := (lN (nb))) hx hb dX7_blockNumbered_7 (nI_l (by omega)) ?_
  refine vp_callSi (va_Run.run (va_runS (As := [.long x.toInt64, .long (lN (1)), .long (lN (nb))]) (rest := []) ⟨hx, hb, hml, hown, hts⟩ (c_X7_isWithin l D t x.toInt64 (lN 1) (lN nb) _) (va_cwS 3 hts gX7_blockNumbered_X7_isWithin rfl rfl rfl (by decide +kernel) ⟨Nat.le_of_ble_eq_true rfl, Nat.le_of_ble_eq_true rfl⟩) (preS hP hD hK hN [] rfl (by decide)) rfl rfl hl.1 rfl (lv_room (Nat.le_of_ble_eq_true rfl)) dX7_blockNumbered_8 ⟨Nat.le_of_ble_eq_true rfl, Nat.le_of_ble_eq_true rfl⟩)) (fun r hw => ?_)
  rcases hw with ⟨rfl, h1, h2⟩ | ⟨rfl, h1⟩
  · obtain ⟨k1, q1, q2, rfl⟩ := rngI (by omega) (by omega) h1 h2
    obtain ⟨k, rfl⟩ : ∃ k, k1 = k + 1 := ⟨k1 - 1, by omega⟩
    have hl : lv_has ls 2 [(0, .ref (ad 0)), (1, .int (nI (k + 1)))] := hl
    refine r_if_eq (x := 1) (tgt := 25) hx hb (by omega) dX7_blockNumbered_11 (by decide) (fun c => absurd c (by decide)) (fun _ => ?_)
    refine lv_aload_n hx hb dX7_blockNumbered_14 rfl (lv_at hl 0 rfl) ?_
    refine va_get (D := D) (ci := 8) (v := .ref (ad 18)) (C := RX7) (T := TX7) (N := 9) hx hb hts i_X7_blockNumbered_X7 hown hK hP 0 rfl rfl 7 (by decide) (hts (.fieldLink RX7 50 "MemoryMap" "blocks" "[LMemoryMap$Block;") (List.mem_of_getElem? (i := 2) rfl)) (fun _ h9 => h9) rfl dX7_blockNumbered_15 ?_
    refine lv_iload_n hx hb dX7_blockNumbered_18 rfl (lv_at hl 1 rfl) ?_
    refine lv_iconst (v := (nI 1)) hx hb dX7_blockNumbered_19 (by decide) ?_
    refine r_isub (x := (k + 1)) (y := 1) hx hb (by omega) dX7_blockNumbered_20 ?_
    have e1 : k + 1 - 1 = k := by omega
    rw [e1]
    refine r_aldA hx hb hK hP 17 4 rfl rfl rfl (show k < 20 by omega) (by decide) dX7_blockNumbered_21 ?_
    rw [blkQ_at (show k < nb by omega)]
    refine lv_goto (tgt := 26) hx hb dX7_blockNumbered_22 (by decide) ?_
    exact ret_Qq hx hb hr (Or.inl ⟨_, rfl⟩) hlk (some (B k).1) rfl (Or.inr ⟨k, by omega, rfl, rfl⟩) dX7_blockNumbered_26
  · refine r_if_eq (x := 0) (tgt := 25) hx hb (by omega) dX7_blockNumbered_11 (by decide) (fun _ => ?_) (fun c => absurd c (by decide))
    refine lv_null hx hb dX7_blockNumbered_25 ?_
    have h2 := rngI' (by omega) (by omega) h1
    exact ret_Qq hx hb hr (Or.inl ⟨_, rfl⟩) hlk (none) rfl (Or.inl ⟨h2, rfl⟩) dX7_blockNumbered_26
