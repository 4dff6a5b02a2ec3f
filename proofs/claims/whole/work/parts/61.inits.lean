theorem perm_end (X S c : va_W) : ((X ++ S) ++ c).Perm ((X ++ c) ++ S) := by
  rw [List.append_assoc, List.append_assoc]
  exact List.perm_append_comm.append_left X
theorem re_order {D : va_G} {cl : List vw_C} {X X' S : va_W} {H : Heap} (is : List Nat) (h : is.map (fun i => X[i]?) = X'.map some) (hP : va_P D cl (X ++ S) H) : va_P D cl (X' ++ S) H :=
  P_app.mpr ⟨(P_app.mp hP).1.sub is (fm_of h), (P_app.mp hP).2⟩
theorem re_orderD {A : Nat → Prop} {X X' S : va_W} (is : List Nat) (h : is.map (fun i => X[i]?) = X'.map some) (hn : va_nd is = true) (hD : va_D A (X ++ S)) : va_D A (X' ++ S) := by
  obtain ⟨d1, d2, d3⟩ := D_app.mp hD
  refine D_app.mpr ⟨d1.sub is hn h, d2, fun p hp q hq => d3 p ?_ q hq⟩
  have hm : some p ∈ X'.map some := List.mem_map_of_mem hp
  rw [← h] at hm
  obtain ⟨i, -, hi⟩ := List.mem_map.mp hm
  exact List.mem_of_getElem? hi
theorem seg_one {G : Nat → Nat × va_E} : ∀ n : Nat, seg (fun i => [G i]) n = (List.range n).map G
  | 0 => rfl
  | n + 1 => by rw [seg_succ, seg_one n, List.range_succ, List.map_append]; rfl
theorem mna_seg {t : Nat → ClassId} {r : Nat → Nat} {f : Nat → va_E} : va_pl ([] ++ (List.range 50).map r) (vr_up f ((List.range 50).map r) (.inl (t 0, 40, .inl (nF (fun _ => 0))))) = seg (rowF t r (fun _ _ => 0)) 50 := by
  show _ = seg (fun i => [(r i, .inl (t 0, 40, .inl (nF (fun _ => 0))))]) 50
  rw [seg_one]
  unfold va_pl
  rw [List.nil_append, List.map_map]
  apply List.map_congr_left
  intro i hi
  show (r i, vr_up _ _ _ (r i)) = _
  rw [vr_up_in (List.mem_map_of_mem hi)]
theorem str_II : "[" ++ (FieldType.array .int).toString = "[[I" := by decide +kernel
theorem str_I : (FieldType.array .int).toString = "[I" := by decide +kernel
theorem ra_arr {s : State} {cA : ClassId} (h : va_RA s cA (.array .int)) : s.vm.findClass "[[I" = some cA := by
  have h2 : s.vm.findClass ("[" ++ (FieldType.array .int).toString) = some cA := h
  rw [str_II] at h2
  exact h2
theorem i_X3_init_X3 : ∀ w ∈ wsX30, w ∈ wsX3_init := by decide +kernel
abbrev rm_X3_init : Room := { frames := 1, cells := 53, slots := 2140, locals := 12 }
set_option maxHeartbeats 1000000 in
set_option maxRecDepth 100000 in
theorem c_X3_init (l : Launch) (D : va_G) (t : Nat → ClassId) (h : Nat)  : Mv l yX3_init wsX3_init rm_X3_init D (TY t) [.ref h] [(h, .inr (4, [.null, .int (nI 0), .null, .null, .int (nI 0)]))] (S := Nat × Nat × Nat × (Nat → Nat)) (fun _ : Nat × Nat × Nat × (Nat → Nat) => True) (fun u => ([(h, .inr (4, [.ref u.1, .int (nI 0), .ref u.2.1, .ref u.2.2.1, .int (nI 0)])), (u.1, .inl (t 0, 40, .inl (nF (fun _ => 0)))), (u.2.1, .inl (t 5, 50, .inr (.inr (.inr (.inr (rowQ u.2.2.2)))))), (u.2.2.1, .inl (t 0, 50, .inl (nF (fun _ => 0))))] ++ seg (rowF t u.2.2.2 (fun _ _ => 0)) 50)) := by
  refine start_Mv cX3_init 1 none (by decide) rfl (Nat.le_of_ble_eq_true rfl) ?_
  intro p e s m below meth c A ls B hin hP hD hS hA hl
  obtain ⟨hx, hb, hr, hts, hown, hlk, hml, hN, hK⟩ := B
  have hl : lv_has ls 1 [(0, .ref h)] := hl
  refine lv_aload_n hx hb dX3_init_0 rfl (lv_at hl 0 rfl) ?_
  refine W.objInit hx hb hown (hts (.methodLink RX3 3 objectInit) (List.mem_of_getElem? (i := 1) rfl)) (hts (.instanceMethod objectInit) (List.mem_of_getElem? (i := 2) rfl)) (hts (.code objectInit ⟨#[0xb1]⟩ 1 none) (List.mem_of_getElem? (i := 3) rfl)) rfl (by rw [hml]; exact hl.1) rfl dX3_init_1 (Nat.le_of_ble_eq_true rfl) (Nat.le_of_ble_eq_true rfl) ?_
  refine W.eq (g2 := F0 m 4 ls []) rfl ?_
  refine lv_aload_n hx hb dX3_init_4 rfl (lv_at hl 0 rfl) ?_
  refine lv_bipush (v := (nI 40)) hx hb dX3_init_5 (by decide) ?_
  refine r_newI hx hb (hts (.arrayClass .int) (List.mem_of_getElem? (i := 4) rfl)) hK hP hD hS hA 0 rfl (Nat.le_of_ble_eq_true rfl) (Nat.le_of_ble_eq_true rfl) (Nat.le_of_ble_eq_true rfl) dX3_init_7 (fun q_1 H hP hD hS => ?_)
  have hP : va_P D vwCl [(h, .inr (4, [.null, .int (nI 0), .null, .null, .int (nI 0)])), (q_1, .inl (t 0, 40, .inl (nF (fun _ => 0))))] H := hP
  have hD : va_D A [(h, .inr (4, [.null, .int (nI 0), .null, .null, .int (nI 0)])), (q_1, .inl (t 0, 40, .inl (nF (fun _ => 0))))] := hD
  refine va_putF (D := D) (ci := 4) (v := .ref q_1) (ty := .array .int) (C := RX3) (T := TX3) (N := 5) hx hb hts i_X3_init_X3 tyX3 tyX3_ok nmX3 hown hK hP hD hS 0 rfl rfl 0 (by decide) (hts (.fieldLink RX3 9 "MemoryMap$Placements" "last" "[I") (List.mem_of_getElem? (i := 5) rfl)) (fun _ h9 => h9) rfl hin rfl (by decide +kernel) rfl rfl (Nat.le_of_ble_eq_true rfl) dX3_init_9 (fun H locs hP hD hS => ?_)
  have hP : va_P D vwCl [(h, .inr (4, [.ref q_1, .int (nI 0), .null, .null, .int (nI 0)])), (q_1, .inl (t 0, 40, .inl (nF (fun _ => 0))))] H := hP
  have hD : va_D A [(h, .inr (4, [.ref q_1, .int (nI 0), .null, .null, .int (nI 0)])), (q_1, .inl (t 0, 40, .inl (nF (fun _ => 0))))] := hD
  refine lv_aload_n hx hb dX3_init_12 rfl (lv_at hl 0 rfl) ?_
  refine lv_bipush (v := (nI 50)) hx hb dX3_init_13 (by decide) ?_
  refine lv_bipush (v := (nI 40)) hx hb dX3_init_15 (by decide) ?_
  refine va_mna (X := [(h, .inr (4, [.ref q_1, .int (nI 0), .null, .null, .int (nI 0)])), (q_1, .inl (t 0, 40, .inl (nF (fun _ => 0))))]) (L := []) (f := fun _ => .inr (0, [])) (ty := .int) (cy := t 0) (N' := 50) (K' := 40) (z := (40, .inl (nF (fun _ => 0)))) hx hb hown (by rw [str_II]; exact (hts (.classLink RX3 15 "[[I") (List.mem_of_getElem? (i := 6) rfl))) hN.2.2.2.2.1 (hts (.arrayClass .int) (List.mem_of_getElem? (i := 4) rfl)) (by rw [str_I]; exact va_nm_int (hK.2 0 _ rfl).2) hK hP hD hS hA (nI_pos (by decide)) (nI_pos (by decide)) (nI_clamp (by decide)) (nI_clamp (by decide)) (by decide) (by decide) (by decide) rfl rfl (Nat.le_of_ble_eq_true rfl) (Nat.le_of_ble_eq_true rfl) (fun c => ?_) dX3_init_17 (fun q r cA H hinj hnot hK2 hP hD hS => ?_)
  · rw [vp_cell_i]; exact arrV_new _ _ _
  have e1 := ra_arr (hK2.2 6 (cA, .array .int) rfl).2
  have e2 := ra_arr (hK.2 5 _ rfl).2
  cases Option.some.inj (e1.symm.trans e2)
  rw [mna_seg] at hP hD
  have hP : va_P D vwCl ([(h, .inr (4, [.ref q_1, .int (nI 0), .null, .null, .int (nI 0)])), (q_1, .inl (t 0, 40, .inl (nF (fun _ => 0)))), (q, .inl (t 5, 50, .inr (.inr (.inr (.inr (rowQ r))))))] ++ (seg (rowF t r (fun _ _ => 0)) 50)) H := hP
  have hD : va_D A ([(h, .inr (4, [.ref q_1, .int (nI 0), .null, .null, .int (nI 0)])), (q_1, .inl (t 0, 40, .inl (nF (fun _ => 0)))), (q, .inl (t 5, 50, .inr (.inr (.inr (.inr (rowQ r))))))] ++ (seg (rowF t r (fun _ _ => 0)) 50)) := hD
  refine va_putF (D := D) (ci := 4) (v := .ref q) (ty := .array (.array .int)) (C := RX3) (T := TX3) (N := 5) hx hb hts i_X3_init_X3 tyX3 tyX3_ok nmX3 hown hK hP hD hS 0 rfl rfl 2 (by decide) (hts (.fieldLink RX3 17 "MemoryMap$Placements" "kept" "[[I") (List.mem_of_getElem? (i := 7) rfl)) (fun _ h9 => h9) rfl hin rfl (by decide +kernel) rfl rfl (Nat.le_of_ble_eq_true rfl) dX3_init_21 (fun H locs hP hD hS => ?_)
  have hP : va_P D vwCl ([(h, .inr (4, [.ref q_1, .int (nI 0), .ref q, .null, .int (nI 0)])), (q_1, .inl (t 0, 40, .inl (nF (fun _ => 0)))), (q, .inl (t 5, 50, .inr (.inr (.inr (.inr (rowQ r))))))] ++ (seg (rowF t r (fun _ _ => 0)) 50)) H := hP
  have hD : va_D A ([(h, .inr (4, [.ref q_1, .int (nI 0), .ref q, .null, .int (nI 0)])), (q_1, .inl (t 0, 40, .inl (nF (fun _ => 0)))), (q, .inl (t 5, 50, .inr (.inr (.inr (.inr (rowQ r))))))] ++ (seg (rowF t r (fun _ _ => 0)) 50)) := hD
  refine lv_aload_n hx hb dX3_init_24 rfl (lv_at hl 0 rfl) ?_
  refine lv_bipush (v := (nI 50)) hx hb dX3_init_25 (by decide) ?_
  refine r_newI hx hb (hts (.arrayClass .int) (List.mem_of_getElem? (i := 4) rfl)) hK hP hD hS hA 0 rfl (Nat.le_of_ble_eq_true rfl) (Nat.le_of_ble_eq_true rfl) (Nat.le_of_ble_eq_true rfl) dX3_init_27 (fun q_2 H hP hD hS => ?_)
  have hP := P_perm (perm_end [(h, .inr (4, [.ref q_1, .int (nI 0), .ref q, .null, .int (nI 0)])), (q_1, .inl (t 0, 40, .inl (nF (fun _ => 0)))), (q, .inl (t 5, 50, .inr (.inr (.inr (.inr (rowQ r))))))] (seg (rowF t r (fun _ _ => 0)) 50) [(q_2, .inl (t 0, 50, .inl (nF (fun _ => 0))))]) hP
  have hD := D_perm (perm_end [(h, .inr (4, [.ref q_1, .int (nI 0), .ref q, .null, .int (nI 0)])), (q_1, .inl (t 0, 40, .inl (nF (fun _ => 0)))), (q, .inl (t 5, 50, .inr (.inr (.inr (.inr (rowQ r))))))] (seg (rowF t r (fun _ _ => 0)) 50) [(q_2, .inl (t 0, 50, .inl (nF (fun _ => 0))))]) hD
  have hP : va_P D vwCl ([(h, .inr (4, [.ref q_1, .int (nI 0), .ref q, .null, .int (nI 0)])), (q_1, .inl (t 0, 40, .inl (nF (fun _ => 0)))), (q, .inl (t 5, 50, .inr (.inr (.inr (.inr (rowQ r)))))), (q_2, .inl (t 0, 50, .inl (nF (fun _ => 0))))] ++ (seg (rowF t r (fun _ _ => 0)) 50)) H := hP
  have hD : va_D A ([(h, .inr (4, [.ref q_1, .int (nI 0), .ref q, .null, .int (nI 0)])), (q_1, .inl (t 0, 40, .inl (nF (fun _ => 0)))), (q, .inl (t 5, 50, .inr (.inr (.inr (.inr (rowQ r)))))), (q_2, .inl (t 0, 50, .inl (nF (fun _ => 0))))] ++ (seg (rowF t r (fun _ _ => 0)) 50)) := hD
  refine va_putF (D := D) (ci := 4) (v := .ref q_2) (ty := .array .int) (C := RX3) (T := TX3) (N := 5) hx hb hts i_X3_init_X3 tyX3 tyX3_ok nmX3 hown hK hP hD hS 0 rfl rfl 3 (by decide) (hts (.fieldLink RX3 20 "MemoryMap$Placements" "sectionCounts" "[I") (List.mem_of_getElem? (i := 8) rfl)) (fun _ h9 => h9) rfl hin rfl (by decide +kernel) rfl rfl (Nat.le_of_ble_eq_true rfl) dX3_init_29 (fun H locs hP hD hS => ?_)
  have hP : va_P D vwCl ([(h, .inr (4, [.ref q_1, .int (nI 0), .ref q, .ref q_2, .int (nI 0)])), (q_1, .inl (t 0, 40, .inl (nF (fun _ => 0)))), (q, .inl (t 5, 50, .inr (.inr (.inr (.inr (rowQ r)))))), (q_2, .inl (t 0, 50, .inl (nF (fun _ => 0))))] ++ (seg (rowF t r (fun _ _ => 0)) 50)) H := hP
  have hD : va_D A ([(h, .inr (4, [.ref q_1, .int (nI 0), .ref q, .ref q_2, .int (nI 0)])), (q_1, .inl (t 0, 40, .inl (nF (fun _ => 0)))), (q, .inl (t 5, 50, .inr (.inr (.inr (.inr (rowQ r)))))), (q_2, .inl (t 0, 50, .inl (nF (fun _ => 0))))] ++ (seg (rowF t r (fun _ _ => 0)) 50)) := hD
  exact ret_Mv hx hb hr hlk ((q_1, q, q_2, r)) (trivial) hP hD hS (Nat.le_of_ble_eq_true rfl) (Nat.le_of_ble_eq_true rfl) dX3_init_32
