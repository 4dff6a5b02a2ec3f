section AA
variable {p : Program} {l : Launch} {e : Env} {R : Room} {s : State} {m : MethodId} {args : Array Value} {below : List Frame} {meth : Method} {c : Code} {H : Heap} {locs : List Loc} {cells slots : Nat} {Q : State → Prop}
variable {cc : ByteArray} {pc : Nat} {ls : Array Slot} {rest : List Value} {D : va_G} {cl : List vw_C} {a : Nat} {tys : List (ClassId × FieldType)} {ws : va_W}
theorem r_aldA (hexec : p.tables.exec = Jvm.exec) (hb : c.code = cc) (hK : va_K D cl tys s) (hP : va_P D cl ws H) (q0 t0 : Nat) {cA : ClassId} {ty : FieldType} {n : Nat} {f : Nat → Option Nat} (ha : ws[q0]? = some (a, .inl (cA, n, .inr (.inr (.inr (.inr f)))))) (ht : tys[t0]? = some (cA, ty)) (hty : ty.isReference = true) {i : Nat} (hi : i < n) (hn : n < 2 ^ 31) (hdg : decode cc pc = .ok (.aaload, 1))
    (kk : W p l e R s m args below meth c H locs cells slots Q (F0 m (pc + 1) ls (va_rf (f i) :: rest))) : W p l e R s m args below meth c H locs cells slots Q (F0 m pc ls (.int (nI i) :: .ref a :: rest)) := by
  refine W.aald (v := va_rf (f i)) (ty := ty) hexec hb (hP q0 _ ha) ((hK.2 t0 _ ht).1 n (fun j => va_rf (f j))) hty (fun q => by cases q) (by show ¬ (nI i < 0 ∨ (arrV _ _ _).slots.size ≤ _); rw [arrV_size]; exact vp_in_nI hi hn) (by show (arrV _ _ _).slots[_]? = _; rw [nI_clamp (Nat.lt_trans hi hn), arrV_read _ _ hi]) rfl rfl hdg kk
end AA
/-- the rows of the kept placements: their addresses r, what they hold K -/
def rowQ (r : Nat → Nat) : Nat → Option Nat := fun i => if i < 50 then some (r i) else none
def rowF (t : Nat → ClassId) (r : Nat → Nat) (K : Nat → Nat → Nat) (i : Nat) : va_W := [(r i, .inl (t 0, 40, .inl (nF (K i))))]
theorem rowQ_at {r : Nat → Nat} {k : Nat} (h : k < 50) : va_rf (rowQ r k) = .ref (r k) := by
  unfold rowQ
  rw [if_pos h]
  rfl
theorem nF_cpy {f g : Nat → Nat} {a b n : Nat} : va_cpy (nF f) (nF g) a b n = nF (va_cpy f g a b n) := by
  funext k
  show (if b ≤ k ∧ k < b + n then nI (f (a + (k - b))) else nI (g k)) = nI (if b ≤ k ∧ k < b + n then f (a + (k - b)) else g k)
  by_cases h : b ≤ k ∧ k < b + n
  · rw [if_pos h, if_pos h]
  · rw [if_neg h, if_neg h]
theorem rowF_up {t : Nat → ClassId} {r : Nat → Nat} {K : Nat → Nat → Nat} {k n : Nat} {f : Nat → Nat} (h : k < n) : seg (rowF t r K) k ++ ([(r k, .inl (t 0, 40, .inl (nF f)))] ++ seg (fun i => rowF t r K (k + 1 + i)) (n - k - 1)) = seg (rowF t r (va_up K k f)) n := by
  rw [seg_up h]
  refine seg_congr n (fun i _ => ?_)
  by_cases e : i = k
  · subst e
    unfold rowF
    rw [va_up_self, va_up_self]
  · rw [va_up_ne _ _ e]
    unfold rowF
    rw [va_up_ne _ _ e]
/-- how many of the first n differ -/
def mvd (f g : Nat → Nat) : Nat → Nat
  | 0 => 0
  | n + 1 => mvd f g n + (if f n = g n then 0 else 1)
theorem mvd_le (f g : Nat → Nat) : ∀ n, mvd f g n ≤ n
  | 0 => Nat.le_refl _
  | n + 1 => by
    have := mvd_le f g n
    unfold mvd
    split <;> omega
theorem i_X3_add_X3 : ∀ w ∈ wsX30, w ∈ wsX3_add := by decide +kernel
abbrev rm_X3_add : Room := { frames := 1, cells := 0, slots := 0, locals := 40 }
set_option maxHeartbeats 1000000 in
set_option maxRecDepth 100000 in
theorem c_X3_add (l : Launch) (D : va_G) (t : Nat → ClassId) (h a0 a1 a2 lc kc : Nat) (last sc : Nat → Nat) (r : Nat → Nat) (K : Nat → Nat → Nat) (ax n : Nat) (tr : Nat → Nat) (hn : n ≤ 40) (hkc : kc ≤ 50) : Mv l yX3_add wsX3_add rm_X3_add D (TY t) [.ref h, .ref ax, .int (nI n)] ([(h, .inr (4, [.ref a0, .int (nI lc), .ref a1, .ref a2, .int (nI kc)])), (a0, .inl (t 0, 40, .inl (nF last))), (a1, .inl (t 5, 50, .inr (.inr (.inr (.inr (rowQ r)))))), (a2, .inl (t 0, 50, .inl (nF sc))), (ax, .inl (t 0, 40, .inl (nF tr)))] ++ seg (rowF t r K) 50) (S := (Nat → Nat) × Nat × (Nat → Nat) × (Nat → Nat → Nat)) (fun u => u = (va_cpy tr last 0 0 n, if kc < 50 then kc + 1 else kc, if kc < 50 then va_up sc kc n else sc, if kc < 50 then va_up K kc (va_cpy tr (K kc) 0 0 n) else K)) (fun u => ([(h, .inr (4, [.ref a0, .int (nI n), .ref a1, .ref a2, .int (nI (u.2.1))])), (a0, .inl (t 0, 40, .inl (nF u.1))), (a1, .inl (t 5, 50, .inr (.inr (.inr (.inr (rowQ r)))))), (a2, .inl (t 0, 50, .inl (nF u.2.2.1))), (ax, .inl (t 0, 40, .inl (nF tr)))] ++ seg (rowF t r u.2.2.2) 50)) := by
  refine start_Mv cX3_add 3 none (by decide) rfl (Nat.le_of_ble_eq_true rfl) ?_
  intro p e s m below meth c A ls B hin hP hD hS hA hl
  obtain ⟨hx, hb, hr, hts, hown, hlk, hml, hN, hK⟩ := B
  have hl : lv_has ls 3 [(0, .ref h), (1, .ref ax), (2, .int (nI n))] := hl
  refine lv_aload_n hx hb dX3_add_0 rfl (lv_at hl 1 rfl) ?_
  refine lv_iconst (v := (nI 0)) hx hb dX3_add_1 (by decide) ?_
  refine lv_aload_n hx hb dX3_add_2 rfl (lv_at hl 0 rfl) ?_
  refine va_get (D := D) (ci := 4) (v := .ref a0) (C := RX3) (T := TX3) (N := 5) hx hb hts i_X3_add_X3 hown hK hP 0 rfl rfl 0 (by decide) (hts (.fieldLink RX3 9 "MemoryMap$Placements" "last" "[I") (List.mem_of_getElem? (i := 1) rfl)) (fun _ h9 => h9) rfl dX3_add_3 ?_
  refine lv_iconst (v := (nI 0)) hx hb dX3_add_6 (by decide) ?_
  refine lv_iload_n hx hb dX3_add_7 rfl (lv_at hl 2 rfl) ?_
  refine va_copyi hx hb (by rw [hml]; exact hl.1.symm) hown (hts (.methodLink RX3 23 arraycopyName) (List.mem_of_getElem? (i := 2) rfl)) (hts (.native arraycopyName) (List.mem_of_getElem? (i := 3) rfl)) (hts (.static arraycopyName) (List.mem_of_getElem? (i := 4) rfl)) (hts (.initialized "java/lang/System") (List.mem_of_getElem? (i := 5) rfl)) hK hP hD hS 4 1 0 0 rfl rfl rfl rfl rfl (nI_pos (by decide)) (nI_pos (by decide)) (nI_pos (by omega)) (by rw [nI_clamp (by decide), nI_clamp (by omega)]; omega) (by rw [nI_clamp (by decide), nI_clamp (by omega)]; omega) (fun i hi => rfl) (Nat.le_of_ble_eq_true rfl) (Nat.le_of_ble_eq_true rfl) dX3_add_8 (fun H locs hP hD hS => ?_)
  rw [nI_clamp (show 0 < 2 ^ 31 by decide), nI_clamp (show n < 2 ^ 31 by omega)] at hP hD
  rw [nF_cpy] at hP hD
  have hP : va_P D vwCl ([(h, .inr (4, [.ref a0, .int (nI lc), .ref a1, .ref a2, .int (nI kc)])), (a0, .inl (t 0, 40, .inl (nF (va_cpy tr last 0 0 n)))), (a1, .inl (t 5, 50, .inr (.inr (.inr (.inr (rowQ r)))))), (a2, .inl (t 0, 50, .inl (nF sc))), (ax, .inl (t 0, 40, .inl (nF tr)))] ++ seg (rowF t r K) 50) H := hP
  have hD : va_D A ([(h, .inr (4, [.ref a0, .int (nI lc), .ref a1, .ref a2, .int (nI kc)])), (a0, .inl (t 0, 40, .inl (nF (va_cpy tr last 0 0 n)))), (a1, .inl (t 5, 50, .inr (.inr (.inr (.inr (rowQ r)))))), (a2, .inl (t 0, 50, .inl (nF sc))), (ax, .inl (t 0, 40, .inl (nF tr)))] ++ seg (rowF t r K) 50) := hD
  refine lv_aload_n hx hb dX3_add_11 rfl (lv_at hl 0 rfl) ?_
  refine lv_iload_n hx hb dX3_add_12 rfl (lv_at hl 2 rfl) ?_
  refine va_put (D := D) (ci := 4) (v := .int (nI n)) (ty := .int) (C := RX3) (T := TX3) (N := 5) hx hb hts i_X3_add_X3 tyX3 tyX3_ok nmX3 hown hK hP hD hS 0 rfl rfl 1 (by decide) (hts (.fieldLink RX3 29 "MemoryMap$Placements" "lastCount" "I") (List.mem_of_getElem? (i := 6) rfl)) (fun _ h9 => h9) rfl (by decide +kernel) rfl rfl (Nat.le_of_ble_eq_true rfl) dX3_add_13 (fun H locs hP hD hS => ?_)
  have hP : va_P D vwCl ([(h, .inr (4, [.ref a0, .int (nI n), .ref a1, .ref a2, .int (nI kc)])), (a0, .inl (t 0, 40, .inl (nF (va_cpy tr last 0 0 n)))), (a1, .inl (t 5, 50, .inr (.inr (.inr (.inr (rowQ r)))))), (a2, .inl (t 0, 50, .inl (nF sc))), (ax, .inl (t 0, 40, .inl (nF tr)))] ++ seg (rowF t r K) 50) H := hP
  have hD : va_D A ([(h, .inr (4, [.ref a0, .int (nI n), .ref a1, .ref a2, .int (nI kc)])), (a0, .inl (t 0, 40, .inl (nF (va_cpy tr last 0 0 n)))), (a1, .inl (t 5, 50, .inr (.inr (.inr (.inr (rowQ r)))))), (a2, .inl (t 0, 50, .inl (nF sc))), (ax, .inl (t 0, 40, .inl (nF tr)))] ++ seg (rowF t r K) 50) := hD
  refine lv_aload_n hx hb dX3_add_16 rfl (lv_at hl 0 rfl) ?_
  refine va_get (D := D) (ci := 4) (v := .int (nI kc)) (C := RX3) (T := TX3) (N := 5) hx hb hts i_X3_add_X3 hown hK hP 0 rfl rfl 4 (by decide) (hts (.fieldLink RX3 33 "MemoryMap$Placements" "keptCount" "I") (List.mem_of_getElem? (i := 7) rfl)) (fun _ h9 => h9) rfl dX3_add_17 ?_
  refine lv_bipush (v := (nI 50)) hx hb dX3_add_20 (by decide) ?_
  refine r_icmp_ge (x := kc) (y := 50) (tgt := 61) hx hb (by omega) (by omega) dX3_add_22 (by decide) (fun c1 => ?_) (fun c1 => ?_)
  · have c2 : ¬ kc < 50 := by omega
    exact ret_Mv hx hb hr hlk ((va_cpy tr last 0 0 n, kc, sc, K)) (by rw [if_neg c2, if_neg c2, if_neg c2]) hP hD hS (Nat.le_of_ble_eq_true rfl) (Nat.le_of_ble_eq_true rfl) dX3_add_61
  · refine lv_aload_n hx hb dX3_add_25 rfl (lv_at hl 1 rfl) ?_
    refine lv_iconst (v := (nI 0)) hx hb dX3_add_26 (by decide) ?_
    refine lv_aload_n hx hb dX3_add_27 rfl (lv_at hl 0 rfl) ?_
    refine va_get (D := D) (ci := 4) (v := .ref a1) (C := RX3) (T := TX3) (N := 5) hx hb hts i_X3_add_X3 hown hK hP 0 rfl rfl 2 (by decide) (hts (.fieldLink RX3 17 "MemoryMap$Placements" "kept" "[[I") (List.mem_of_getElem? (i := 8) rfl)) (fun _ h9 => h9) rfl dX3_add_28 ?_
    refine lv_aload_n hx hb dX3_add_31 rfl (lv_at hl 0 rfl) ?_
    refine va_get (D := D) (ci := 4) (v := .int (nI kc)) (C := RX3) (T := TX3) (N := 5) hx hb hts i_X3_add_X3 hown hK hP 0 rfl rfl 4 (by decide) (hts (.fieldLink RX3 33 "MemoryMap$Placements" "keptCount" "I") (List.mem_of_getElem? (i := 7) rfl)) (fun _ h9 => h9) rfl dX3_add_32 ?_
    refine r_aldA hx hb hK hP 2 5 rfl rfl rfl c1 (by decide) dX3_add_35 ?_
    rw [rowQ_at c1]
    refine lv_iconst (v := (nI 0)) hx hb dX3_add_36 (by decide) ?_
    refine lv_iload_n hx hb dX3_add_37 rfl (lv_at hl 2 rfl) ?_
    rw [seg_split c1] at hP hD
    have hP := P_perm (perm_front [(h, .inr (4, [.ref a0, .int (nI n), .ref a1, .ref a2, .int (nI kc)])), (a0, .inl (t 0, 40, .inl (nF (va_cpy tr last 0 0 n)))), (a1, .inl (t 5, 50, .inr (.inr (.inr (.inr (rowQ r)))))), (a2, .inl (t 0, 50, .inl (nF sc))), (ax, .inl (t 0, 40, .inl (nF tr)))] (seg (rowF t r K) kc) (rowF t r K kc) (seg (fun i => rowF t r K (kc + 1 + i)) (50 - kc - 1))) hP
    have hD := D_perm (perm_front [(h, .inr (4, [.ref a0, .int (nI n), .ref a1, .ref a2, .int (nI kc)])), (a0, .inl (t 0, 40, .inl (nF (va_cpy tr last 0 0 n)))), (a1, .inl (t 5, 50, .inr (.inr (.inr (.inr (rowQ r)))))), (a2, .inl (t 0, 50, .inl (nF sc))), (ax, .inl (t 0, 40, .inl (nF tr)))] (seg (rowF t r K) kc) (rowF t r K kc) (seg (fun i => rowF t r K (kc + 1 + i)) (50 - kc - 1))) hD
    have hP : va_P D vwCl ([((r kc), .inl (t 0, 40, .inl (nF (K kc)))), (h, .inr (4, [.ref a0, .int (nI n), .ref a1, .ref a2, .int (nI kc)])), (a0, .inl (t 0, 40, .inl (nF (va_cpy tr last 0 0 n)))), (a1, .inl (t 5, 50, .inr (.inr (.inr (.inr (rowQ r)))))), (a2, .inl (t 0, 50, .inl (nF sc))), (ax, .inl (t 0, 40, .inl (nF tr)))] ++ (seg (rowF t r K) kc ++ seg (fun i => rowF t r K (kc + 1 + i)) (50 - kc - 1))) H := hP
    have hD : va_D A ([((r kc), .inl (t 0, 40, .inl (nF (K kc)))), (h, .inr (4, [.ref a0, .int (nI n), .ref a1, .ref a2, .int (nI kc)])), (a0, .inl (t 0, 40, .inl (nF (va_cpy tr last 0 0 n)))), (a1, .inl (t 5, 50, .inr (.inr (.inr (.inr (rowQ r)))))), (a2, .inl (t 0, 50, .inl (nF sc))), (ax, .inl (t 0, 40, .inl (nF tr)))] ++ (seg (rowF t r K) kc ++ seg (fun i => rowF t r K (kc + 1 + i)) (50 - kc - 1))) := hD
    refine va_copyi hx hb (by rw [hml]; exact hl.1.symm) hown (hts (.methodLink RX3 23 arraycopyName) (List.mem_of_getElem? (i := 2) rfl)) (hts (.native arraycopyName) (List.mem_of_getElem? (i := 3) rfl)) (hts (.static arraycopyName) (List.mem_of_getElem? (i := 4) rfl)) (hts (.initialized "java/lang/System") (List.mem_of_getElem? (i := 5) rfl)) hK hP hD hS 5 0 0 0 rfl rfl rfl rfl rfl (nI_pos (by decide)) (nI_pos (by decide)) (nI_pos (by omega)) (by rw [nI_clamp (by decide), nI_clamp (by omega)]; omega) (by rw [nI_clamp (by decide), nI_clamp (by omega)]; omega) (fun i hi => rfl) (Nat.le_of_ble_eq_true rfl) (Nat.le_of_ble_eq_true rfl) dX3_add_38 (fun H locs hP hD hS => ?_)
    rw [nI_clamp (show 0 < 2 ^ 31 by decide), nI_clamp (show n < 2 ^ 31 by omega)] at hP hD
    rw [nF_cpy] at hP hD
    have hP : va_P D vwCl ([((r kc), .inl (t 0, 40, .inl (nF (va_cpy tr (K kc) 0 0 n)))), (h, .inr (4, [.ref a0, .int (nI n), .ref a1, .ref a2, .int (nI kc)])), (a0, .inl (t 0, 40, .inl (nF (va_cpy tr last 0 0 n)))), (a1, .inl (t 5, 50, .inr (.inr (.inr (.inr (rowQ r)))))), (a2, .inl (t 0, 50, .inl (nF sc))), (ax, .inl (t 0, 40, .inl (nF tr)))] ++ (seg (rowF t r K) kc ++ seg (fun i => rowF t r K (kc + 1 + i)) (50 - kc - 1))) H := hP
    have hD : va_D A ([((r kc), .inl (t 0, 40, .inl (nF (va_cpy tr (K kc) 0 0 n)))), (h, .inr (4, [.ref a0, .int (nI n), .ref a1, .ref a2, .int (nI kc)])), (a0, .inl (t 0, 40, .inl (nF (va_cpy tr last 0 0 n)))), (a1, .inl (t 5, 50, .inr (.inr (.inr (.inr (rowQ r)))))), (a2, .inl (t 0, 50, .inl (nF sc))), (ax, .inl (t 0, 40, .inl (nF tr)))] ++ (seg (rowF t r K) kc ++ seg (fun i => rowF t r K (kc + 1 + i)) (50 - kc - 1))) := hD
    have hP := P_perm (perm_front [(h, .inr (4, [.ref a0, .int (nI n), .ref a1, .ref a2, .int (nI kc)])), (a0, .inl (t 0, 40, .inl (nF (va_cpy tr last 0 0 n)))), (a1, .inl (t 5, 50, .inr (.inr (.inr (.inr (rowQ r)))))), (a2, .inl (t 0, 50, .inl (nF sc))), (ax, .inl (t 0, 40, .inl (nF tr)))] (seg (rowF t r K) kc) [(r kc, .inl (t 0, 40, .inl (nF (va_cpy tr (K kc) 0 0 n))))] (seg (fun i => rowF t r K (kc + 1 + i)) (50 - kc - 1))).symm hP
    have hD := D_perm (perm_front [(h, .inr (4, [.ref a0, .int (nI n), .ref a1, .ref a2, .int (nI kc)])), (a0, .inl (t 0, 40, .inl (nF (va_cpy tr last 0 0 n)))), (a1, .inl (t 5, 50, .inr (.inr (.inr (.inr (rowQ r)))))), (a2, .inl (t 0, 50, .inl (nF sc))), (ax, .inl (t 0, 40, .inl (nF tr)))] (seg (rowF t r K) kc) [(r kc, .inl (t 0, 40, .inl (nF (va_cpy tr (K kc) 0 0 n))))] (seg (fun i => rowF t r K (kc + 1 + i)) (50 - kc - 1))).symm hD
    rw [rowF_up c1] at hP hD
    have hP : va_P D vwCl ([(h, .inr (4, [.ref a0, .int (nI n), .ref a1, .ref a2, .int (nI kc)])), (a0, .inl (t 0, 40, .inl (nF (va_cpy tr last 0 0 n)))), (a1, .inl (t 5, 50, .inr (.inr (.inr (.inr (rowQ r)))))), (a2, .inl (t 0, 50, .inl (nF sc))), (ax, .inl (t 0, 40, .inl (nF tr)))] ++ seg (rowF t r (va_up K kc (va_cpy tr (K kc) 0 0 n))) 50) H := hP
    have hD : va_D A ([(h, .inr (4, [.ref a0, .int (nI n), .ref a1, .ref a2, .int (nI kc)])), (a0, .inl (t 0, 40, .inl (nF (va_cpy tr last 0 0 n)))), (a1, .inl (t 5, 50, .inr (.inr (.inr (.inr (rowQ r)))))), (a2, .inl (t 0, 50, .inl (nF sc))), (ax, .inl (t 0, 40, .inl (nF tr)))] ++ seg (rowF t r (va_up K kc (va_cpy tr (K kc) 0 0 n))) 50) := hD
    refine lv_aload_n hx hb dX3_add_41 rfl (lv_at hl 0 rfl) ?_
    refine va_get (D := D) (ci := 4) (v := .ref a2) (C := RX3) (T := TX3) (N := 5) hx hb hts i_X3_add_X3 hown hK hP 0 rfl rfl 3 (by decide) (hts (.fieldLink RX3 20 "MemoryMap$Placements" "sectionCounts" "[I") (List.mem_of_getElem? (i := 9) rfl)) (fun _ h9 => h9) rfl dX3_add_42 ?_
    refine lv_aload_n hx hb dX3_add_45 rfl (lv_at hl 0 rfl) ?_
    refine va_get (D := D) (ci := 4) (v := .int (nI kc)) (C := RX3) (T := TX3) (N := 5) hx hb hts i_X3_add_X3 hown hK hP 0 rfl rfl 4 (by decide) (hts (.fieldLink RX3 33 "MemoryMap$Placements" "keptCount" "I") (List.mem_of_getElem? (i := 7) rfl)) (fun _ h9 => h9) rfl dX3_add_46 ?_
    refine lv_iload_n hx hb dX3_add_49 rfl (lv_at hl 2 rfl) ?_
    refine r_iast hx hb hK hP hD hS 3 0 rfl rfl (i := kc) (by omega) (by omega) dX3_add_50 (fun H locs hP hD hS => ?_)
    have hP : va_P D vwCl ([(h, .inr (4, [.ref a0, .int (nI n), .ref a1, .ref a2, .int (nI kc)])), (a0, .inl (t 0, 40, .inl (nF (va_cpy tr last 0 0 n)))), (a1, .inl (t 5, 50, .inr (.inr (.inr (.inr (rowQ r)))))), (a2, .inl (t 0, 50, .inl (nF (va_up sc kc n)))), (ax, .inl (t 0, 40, .inl (nF tr)))] ++ seg (rowF t r (va_up K kc (va_cpy tr (K kc) 0 0 n))) 50) H := hP
    have hD : va_D A ([(h, .inr (4, [.ref a0, .int (nI n), .ref a1, .ref a2, .int (nI kc)])), (a0, .inl (t 0, 40, .inl (nF (va_cpy tr last 0 0 n)))), (a1, .inl (t 5, 50, .inr (.inr (.inr (.inr (rowQ r)))))), (a2, .inl (t 0, 50, .inl (nF (va_up sc kc n)))), (ax, .inl (t 0, 40, .inl (nF tr)))] ++ seg (rowF t r (va_up K kc (va_cpy tr (K kc) 0 0 n))) 50) := hD
    refine lv_aload_n hx hb dX3_add_51 rfl (lv_at hl 0 rfl) ?_
    refine lv_dup hx hb dX3_add_52 rfl ?_
    refine va_get (D := D) (ci := 4) (v := .int (nI kc)) (C := RX3) (T := TX3) (N := 5) hx hb hts i_X3_add_X3 hown hK hP 0 rfl rfl 4 (by decide) (hts (.fieldLink RX3 33 "MemoryMap$Placements" "keptCount" "I") (List.mem_of_getElem? (i := 7) rfl)) (fun _ h9 => h9) rfl dX3_add_53 ?_
    refine lv_iconst (v := (nI 1)) hx hb dX3_add_56 (by decide) ?_
    refine r_iadd (x := kc) (y := 1) hx hb dX3_add_57 ?_
    refine va_put (D := D) (ci := 4) (v := .int (nI (kc + 1))) (ty := .int) (C := RX3) (T := TX3) (N := 5) hx hb hts i_X3_add_X3 tyX3 tyX3_ok nmX3 hown hK hP hD hS 0 rfl rfl 4 (by decide) (hts (.fieldLink RX3 33 "MemoryMap$Placements" "keptCount" "I") (List.mem_of_getElem? (i := 7) rfl)) (fun _ h9 => h9) rfl (by decide +kernel) rfl rfl (Nat.le_of_ble_eq_true rfl) dX3_add_58 (fun H locs hP hD hS => ?_)
    have hP : va_P D vwCl ([(h, .inr (4, [.ref a0, .int (nI n), .ref a1, .ref a2, .int (nI (kc + 1))])), (a0, .inl (t 0, 40, .inl (nF (va_cpy tr last 0 0 n)))), (a1, .inl (t 5, 50, .inr (.inr (.inr (.inr (rowQ r)))))), (a2, .inl (t 0, 50, .inl (nF (va_up sc kc n)))), (ax, .inl (t 0, 40, .inl (nF tr)))] ++ seg (rowF t r (va_up K kc (va_cpy tr (K kc) 0 0 n))) 50) H := hP
    have hD : va_D A ([(h, .inr (4, [.ref a0, .int (nI n), .ref a1, .ref a2, .int (nI (kc + 1))])), (a0, .inl (t 0, 40, .inl (nF (va_cpy tr last 0 0 n)))), (a1, .inl (t 5, 50, .inr (.inr (.inr (.inr (rowQ r)))))), (a2, .inl (t 0, 50, .inl (nF (va_up sc kc n)))), (ax, .inl (t 0, 40, .inl (nF tr)))] ++ seg (rowF t r (va_up K kc (va_cpy tr (K kc) 0 0 n))) 50) := hD
    exact ret_Mv hx hb hr hlk ((va_cpy tr last 0 0 n, kc + 1, va_up sc kc n, va_up K kc (va_cpy tr (K kc) 0 0 n))) (by rw [if_pos c1, if_pos c1, if_pos c1]) hP hD hS (Nat.le_of_ble_eq_true rfl) (Nat.le_of_ble_eq_true rfl) dX3_add_61

theorem i_X3_countMovedSince_X3 : ∀ w ∈ wsX30, w ∈ wsX3_countMovedSince := by decide +kernel
abbrev rm_X3_countMovedSince : Room := { frames := 0, cells := 0, slots := 0, locals := 0 }
set_option maxHeartbeats 1000000 in
set_option maxRecDepth 100000 in
theorem c_X3_countMovedSince (l : Launch) (D : va_G) (t : Nat → ClassId) (h a0 a1 a2 lc kc : Nat) (last sc : Nat → Nat) (r : Nat → Nat) (K : Nat → Nat → Nat) (ax : Nat) (tr : Nat → Nat) (ix : Nat) (hix : ix < 50) (hsc : ∀ i, sc i ≤ 40) (hKb : ∀ i j, K i j ≤ 65536) (hla : ∀ i, last i ≤ 65536) : Qi l yX3_countMovedSince wsX3_countMovedSince rm_X3_countMovedSince D (TY t) [.ref h, .int (nI ix)] ([(h, .inr (4, [.ref a0, .int (nI lc), .ref a1, .ref a2, .int (nI kc)])), (a0, .inl (t 0, 40, .inl (nF last))), (a1, .inl (t 5, 50, .inr (.inr (.inr (.inr (rowQ r)))))), (a2, .inl (t 0, 50, .inl (nF sc))), (ax, .inl (t 0, 40, .inl (nF tr)))] ++ seg (rowF t r K) 50) (fun z => z = nI (mvd (K ix) last (sc ix))) := by
  refine start_Qi cX3_countMovedSince 4 (some .int) (by decide) rfl (Nat.le_of_ble_eq_true rfl) ?_
  intro p e s m below meth c ls B hP hD hl
  obtain ⟨hx, hb, hr, hts, hown, hlk, hml, hN, hK⟩ := B
  have hl : lv_has ls 4 [(0, .ref h), (1, .int (nI ix))] := hl
  rw [seg_split hix] at hP hD
  have hP := P_perm (perm_front [(h, .inr (4, [.ref a0, .int (nI lc), .ref a1, .ref a2, .int (nI kc)])), (a0, .inl (t 0, 40, .inl (nF last))), (a1, .inl (t 5, 50, .inr (.inr (.inr (.inr (rowQ r)))))), (a2, .inl (t 0, 50, .inl (nF sc))), (ax, .inl (t 0, 40, .inl (nF tr)))] (seg (rowF t r K) ix) (rowF t r K ix) (seg (fun i => rowF t r K (ix + 1 + i)) (50 - ix - 1))) hP
  have hD := D_perm (perm_front [(h, .inr (4, [.ref a0, .int (nI lc), .ref a1, .ref a2, .int (nI kc)])), (a0, .inl (t 0, 40, .inl (nF last))), (a1, .inl (t 5, 50, .inr (.inr (.inr (.inr (rowQ r)))))), (a2, .inl (t 0, 50, .inl (nF sc))), (ax, .inl (t 0, 40, .inl (nF tr)))] (seg (rowF t r K) ix) (rowF t r K ix) (seg (fun i => rowF t r K (ix + 1 + i)) (50 - ix - 1))) hD
  have hP : va_P D vwCl ([((r ix), .inl (t 0, 40, .inl (nF (K ix)))), (h, .inr (4, [.ref a0, .int (nI lc), .ref a1, .ref a2, .int (nI kc)])), (a0, .inl (t 0, 40, .inl (nF last))), (a1, .inl (t 5, 50, .inr (.inr (.inr (.inr (rowQ r)))))), (a2, .inl (t 0, 50, .inl (nF sc))), (ax, .inl (t 0, 40, .inl (nF tr)))] ++ (seg (rowF t r K) ix ++ seg (fun i => rowF t r K (ix + 1 + i)) (50 - ix - 1))) s.heap := hP
  refine lv_iconst (v := (nI 0)) hx hb dX3_countMovedSince_0 (by decide) ?_
  refine lv_istore_n (lv' := [(2, .int (nI 0)), (0, .ref h), (1, .int (nI ix))]) hx hb dX3_countMovedSince_1 rfl hl (by decide) rfl (fun ls hl => ?_)
  refine lv_iconst (v := (nI 0)) hx hb dX3_countMovedSince_2 (by decide) ?_
  refine lv_istore_n (lv' := [(3, .int (nI 0)), (2, .int (nI 0)), (0, .ref h), (1, .int (nI ix))]) hx hb dX3_countMovedSince_3 rfl hl (by decide) rfl (fun ls hl => ?_)
  have hs0 := hsc ix
  refine W_loop (σ := Nat) (fun j => sc ix - j) (fun j H locs ls => H = s.heap ∧ locs = [] ∧ j ≤ sc ix ∧ lv_has ls 4 [(3, .int (nI j)), (2, .int (nI (mvd (K ix) last j))), (0, .ref h), (1, .int (nI ix))]) ?_ 0 _ _ _ ⟨rfl, rfl, Nat.zero_le _, hl⟩
  rintro j _ _ ls ⟨rfl, rfl, hj, hl⟩ ih
  have hm := mvd_le (K ix) last j
  refine lv_iload_n hx hb dX3_countMovedSince_4 rfl (lv_at hl 0 rfl) ?_
  refine lv_aload_n hx hb dX3_countMovedSince_5 rfl (lv_at hl 2 rfl) ?_
  refine va_get (D := D) (ci := 4) (v := .ref a2) (C := RX3) (T := TX3) (N := 5) hx hb hts i_X3_countMovedSince_X3 hown hK hP 1 rfl rfl 3 (by decide) (hts (.fieldLink RX3 20 "MemoryMap$Placements" "sectionCounts" "[I") (List.mem_of_getElem? (i := 1) rfl)) (fun _ h9 => h9) rfl dX3_countMovedSince_6 ?_
  refine lv_iload_n hx hb dX3_countMovedSince_9 rfl (lv_at hl 3 rfl) ?_
  refine r_iald hx hb hK hP 4 0 rfl rfl (i := ix) (by omega) (by omega) dX3_countMovedSince_10 ?_
  have hb_0 := hsc ix
  refine r_icmp_ge (x := j) (y := (sc ix)) (tgt := 40) hx hb (by omega) (by omega) dX3_countMovedSince_11 (by decide) (fun c1 => ?_) (fun c1 => ?_)
  · refine lv_iload_n hx hb dX3_countMovedSince_40 rfl (lv_at hl 1 rfl) ?_
    have e : j = sc ix := by omega
    exact ret_Qi hx hb hr hlk (by rw [e]) dX3_countMovedSince_41
  · refine lv_aload_n hx hb dX3_countMovedSince_14 rfl (lv_at hl 2 rfl) ?_
    refine va_get (D := D) (ci := 4) (v := .ref a1) (C := RX3) (T := TX3) (N := 5) hx hb hts i_X3_countMovedSince_X3 hown hK hP 1 rfl rfl 2 (by decide) (hts (.fieldLink RX3 17 "MemoryMap$Placements" "kept" "[[I") (List.mem_of_getElem? (i := 2) rfl)) (fun _ h9 => h9) rfl dX3_countMovedSince_15 ?_
    refine lv_iload_n hx hb dX3_countMovedSince_18 rfl (lv_at hl 3 rfl) ?_
    refine r_aldA hx hb hK hP 3 5 rfl rfl rfl hix (by decide) dX3_countMovedSince_19 ?_
    rw [rowQ_at hix]
    refine lv_iload_n hx hb dX3_countMovedSince_20 rfl (lv_at hl 0 rfl) ?_
    refine r_iald hx hb hK hP 0 0 rfl rfl (i := j) (by omega) (by omega) dX3_countMovedSince_21 ?_
    have hb_1 := hKb ix j
    refine lv_aload_n hx hb dX3_countMovedSince_22 rfl (lv_at hl 2 rfl) ?_
    refine va_get (D := D) (ci := 4) (v := .ref a0) (C := RX3) (T := TX3) (N := 5) hx hb hts i_X3_countMovedSince_X3 hown hK hP 1 rfl rfl 0 (by decide) (hts (.fieldLink RX3 9 "MemoryMap$Placements" "last" "[I") (List.mem_of_getElem? (i := 3) rfl)) (fun _ h9 => h9) rfl dX3_countMovedSince_23 ?_
    refine lv_iload_n hx hb dX3_countMovedSince_26 rfl (lv_at hl 0 rfl) ?_
    refine r_iald hx hb hK hP 2 0 rfl rfl (i := j) (by omega) (by omega) dX3_countMovedSince_27 ?_
    have hb_2 := hla j
    refine r_icmp_eq (x := ((K ix) j)) (y := (last j)) (tgt := 34) hx hb (by omega) (by omega) dX3_countMovedSince_28 (by decide) (fun c2 => ?_) (fun c2 => ?_)
    · refine lv_iinc (v := (nI (j + 1))) (lv' := [(3, .int (nI (j + 1))), (2, .int (nI (mvd (K ix) last j))), (0, .ref h), (1, .int (nI ix))]) hx hb dX3_countMovedSince_34 hl (k := 0) rfl (r_inc1 _) (by decide) rfl (fun ls hl => ?_)
      refine lv_goto (tgt := 4) hx hb dX3_countMovedSince_37 (by decide) ?_
      have e : mvd (K ix) last (j + 1) = mvd (K ix) last j := by show _ + (if _ then _ else _) = _; rw [if_pos c2]; rfl
      exact ih (j + 1) _ _ _ ⟨rfl, rfl, by omega, by rw [e]; exact lv_sub hl [0, 1, 2, 3] rfl⟩ (by omega)
    · refine lv_iinc (v := (nI ((mvd (K ix) last j) + 1))) (lv' := [(2, .int (nI ((mvd (K ix) last j) + 1))), (3, .int (nI j)), (0, .ref h), (1, .int (nI ix))]) hx hb dX3_countMovedSince_31 hl (k := 1) rfl (r_inc1 _) (by decide) rfl (fun ls hl => ?_)
      refine lv_iinc (v := (nI (j + 1))) (lv' := [(3, .int (nI (j + 1))), (2, .int (nI ((mvd (K ix) last j) + 1))), (0, .ref h), (1, .int (nI ix))]) hx hb dX3_countMovedSince_34 hl (k := 1) rfl (r_inc1 _) (by decide) rfl (fun ls hl => ?_)
      refine lv_goto (tgt := 4) hx hb dX3_countMovedSince_37 (by decide) ?_
      have e : mvd (K ix) last (j + 1) = mvd (K ix) last j + 1 := by show _ + (if _ then _ else _) = _; rw [if_neg c2]
      exact ih (j + 1) _ _ _ ⟨rfl, rfl, by omega, by rw [e]; exact lv_sub hl [0, 1, 2, 3] rfl⟩ (by omega)
