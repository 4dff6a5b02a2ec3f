/-! the law from its entry -/
theorem preX {s : State} {H H0 : Heap} {locs : List Loc} {A : Nat → Prop} {b L : Nat} {xs : Nat → Int32} {As : List Value} (hX : va_X b L xs s H0) (hbl : b < H0.size) (hbA : ¬ A b) (hS : va_S A H0 H locs) : PreS s H (va_Pc As (fun U => va_X b L xs U U.heap)) As :=
  ⟨fun a U g mk q => ⟨q.1, va_X.moved (u := U) (U := U.calling g mk a) (Vm.Alike.refl U.vm) q.2⟩, fun U hE hW => ⟨rfl, by show va_X b L xs U U.heap; rw [hE]; exact (hX.kept (hS.2.1 b hbl hbA)).moved hW.alike⟩⟩
theorem SzI_u {x : Int64} {a c : Nat} (h : SzI x a) (h2 : SzI x c) : a = c := by
  rcases h with ⟨h1, h2', h3⟩ | ⟨h1, rfl⟩
  · rcases h2 with ⟨g1, g2, g3⟩ | ⟨g1, rfl⟩
    · exact (pk_lEQ (by omega) (by omega)).mp (h3.symm.trans g3)
    · exact absurd h3 (g1 a h1 h2')
  · rcases h2 with ⟨g1, g2, g3⟩ | ⟨-, rfl⟩
    · exact absurd g3 (h1 c g1 g2)
    · rfl
theorem SzI_le {x : Int64} {a : Nat} (h : SzI x a) : a ≤ 65536 := by
  rcases h with ⟨_, h2, _⟩ | ⟨_, rfl⟩
  · exact h2
  · omega
theorem nn_app {a : va_W} : [] ++ (a ++ []) = a := by simp
theorem an_app {a c : va_W} : a ++ (c ++ []) = a ++ c := by simp
theorem Rel_0 {sz : Nat} {ce : Nat → Int32} (hsz : sz ≤ 65536) (h1 : ∀ k, k < 65536 → ce k = (-1)) (h2 : ∀ k, (ce k).toInt8.toInt32 = ce k) : RReg sz 0 (fun _ => 0) (fun _ => 0) (fun _ => 0) (fun _ => 0) (fun _ => 0) (fun _ => 0) ∧ RSec 0 (fun _ => 0) (fun _ => 0) (fun _ => 0) (fun _ => 0) (fun _ => 0) (fun _ => 0) (fun _ => 0) ∧ RPlc sz 0 (fun _ => 0) 0 0 (fun _ => 0) (fun _ => 0) (fun _ _ => 0) 0 0 (fun _ => 0) ce (nF (fun _ => 0)) (nF (fun _ => 0)) ∧ RTak (fun _ => 0) (fun _ => 0) (fun _ => 0) ∧ RFun (fun _ => 0) (fun _ => 0) (fun _ => 0) (fun _ => 0) (fun _ => (0 : Int32)) ∧ RBlk 0 B0 (fun _ => 0) (fun _ => (0 : Int32)) (nF (fun _ => 0)) := by
  have z : ∀ (n : Nat) (k : Nat), (fun _ => 0 : Nat → Nat) k ≤ n := fun n _ => Nat.zero_le n
  refine ⟨⟨hsz, Nat.zero_le _, z _, z _, z _, z _, fun k h => absurd h (Nat.not_lt_zero _), fun k h => absurd h (Nat.not_lt_zero _)⟩, ⟨Nat.zero_le _, z _, z _, z _, z _, z _, z _, fun k h => absurd h (Nat.not_lt_zero _), fun k h => absurd h (Nat.not_lt_zero _), fun k h => absurd h (Nat.not_lt_zero _), fun i j _ h => absurd h (Nat.not_lt_zero _), fun k h => absurd h (Nat.not_lt_zero _)⟩, ⟨Nat.le_refl _, rfl, fun _ => rfl, rfl, z _, z _, fun _ _ => Nat.zero_le _, z _, h2, fun k h => absurd h (Nat.not_lt_zero _), fun k h => absurd h (Nat.not_lt_zero _), fun x hx => Or.inr ⟨fun k h => absurd h (Nat.not_lt_zero _), h1 x (by omega)⟩⟩, ⟨z _, z _, z _⟩, ⟨rfl, fun _ => (by decide : 0 < 2147483648), fun _ => Nat.zero_testBit 0, z _, z _, fun f g _ _ _ _ => ⟨fun _ => Nat.zero_testBit g, fun _ => rfl⟩⟩, ⟨Nat.zero_le _, fun k h => absurd h (Nat.not_lt_zero _), z _, fun _ => (by decide : (0 : Int32).toInt8.toInt32 = 0), fun _ _ _ _ _ _ => rfl⟩⟩
set_option maxHeartbeats 2000000 in
set_option maxRecDepth 100000 in
theorem whole_start {p : Program} {e : Env} {s : State} {m : MethodId} {below : List Frame} {meth : Method} {c : Code} (l : Launch) (hl0 : l.stackTraces = false) {b L : Nat} {xs : Nat → Int32} (hL : L ≤ 3073) (C0 : lw_At p s m meth c b L xs) : W p l e room_1 s m #[Value.ref b] below meth c s.heap [] 0 0 (lw_Z below #[Value.ref b] s) (entryFrame m ([Value.ref b] : List Value).toArray 7) := by
  obtain ⟨D, t, sa1, sa2, hC⟩ := LC_of l hl0 C0.2.2.2.2.2.1 C0.2.2.2.2.2.2.2.2.2
  obtain ⟨hx, hb, hr, hml, hown, hts, hX, hbl, hlk, hgv⟩ := id C0
  have hown : s.vm.findClass RL = some m.cls := hown
  obtain ⟨hl0, hK, hN, hR1, hR2, hU, hV⟩ := id hC
  have hA : ∀ q : Nat, s.heap.size ≤ q → (fun q : Nat => s.heap.size ≤ q) q := fun _ h => h
  have hbA : ¬ (fun q : Nat => s.heap.size ≤ q) b := Nat.not_le.mpr hbl
  have hS : va_S (fun q : Nat => s.heap.size ≤ q) s.heap s.heap [] := va_S.rf
  have hP : va_P D vwCl [] s.heap := fun k q h => by simp at h
  have hD : va_D (fun q : Nat => s.heap.size ≤ q) [] := ⟨fun i j p q h => by simp at h, fun k q h => by simp at h⟩
  have hl := lv_entry ([.ref b]) (n := 7) (Nat.le_of_ble_eq_true rfl)
  rw [lg_entry_eq]
  generalize (lg_sl ([.ref b]) ++ List.replicate (7 - (lg_sl ([.ref b])).length) Slot.unset).toArray = ls at hl ⊢
  have hl : lv_has ls 7 [(0, .ref b)] := hl
  refine va_new (ci := 8) (fs := [.int (nI 0), .null, .null, .null, .null, .null, .null, .null, .int (nI 0)]) (C := RX7) (T := TX7) (N := 9) hx hb hts inX7 tyX7 tyX7_ok hown (hts _ wL_0) (hts _ wL_1) (hts _ wL_2) hK hP hD hS hA rfl (fun j hj => by rcases (show j = 0 ∨ j = 1 ∨ j = 2 ∨ j = 3 ∨ j = 4 ∨ j = 5 ∨ j = 6 ∨ j = 7 ∨ j = 8 by omega) with rfl | rfl | rfl | rfl | rfl | rfl | rfl | rfl | rfl <;> rfl) (Nat.le_of_ble_eq_true rfl) (Nat.le_of_ble_eq_true rfl) dL_law_0 (fun q7 H hP hD hS => ?_)
  have hP : va_P D vwCl [(q7, .inr (8, [.int (nI 0), .null, .null, .null, .null, .null, .null, .null, .int (nI 0)]))] H := hP
  have hD : va_D (fun q : Nat => s.heap.size ≤ q) [(q7, .inr (8, [.int (nI 0), .null, .null, .null, .null, .null, .null, .null, .int (nI 0)]))] := hD
  refine lv_dup hx hb dL_law_3 rfl ?_
  refine lv_aload_n hx hb dL_law_4 rfl (lv_at hl 0 rfl) ?_
  refine lv_iconst (v := (nI 0)) hx hb dL_law_5 (by decide) ?_
  refine vp_callSi (va_Run.run (va_runS (As := [.ref b, .int (nI 0)]) (rest := [.ref q7, .ref q7]) ⟨hx, hb, hml, hown, hts⟩ (c_L_cell l b L xs (by omega)) (va_cwS 2 hts gL_law_L_cell rfl rfl rfl (by decide +kernel) ⟨Nat.le_of_ble_eq_true rfl, Nat.le_of_ble_eq_true rfl⟩) (preX hX hbl hbA hS) rfl rfl hl.1 rfl (lv_room (Nat.le_of_ble_eq_true rfl)) dL_law_6 ⟨Nat.le_of_ble_eq_true rfl, Nat.le_of_ble_eq_true rfl⟩)) (fun r1 hr1 => ?_)
  refine lv_i2l hx hb dL_law_9 rfl ?_
  refine call_Mvp (wc := [(q7, .inr (8, [.int (nI 0), .null, .null, .null, .null, .null, .null, .null, .int (nI 0)]))]) (wc' := fun u : (Nat → Nat) × (Nat → Nat) × Nat => (WMd t (u.1) (u.2.2) 0 (fun _ => 0) (fun _ => 0) (fun _ => 0) 0 (fun _ => 0) (fun _ => 0) (fun _ => 0) (fun _ => 0) 0 (fun _ => 0) (fun _ => 0) (fun _ => 0) (fun _ => 0) (fun _ => 0) 0 B0 0 0 (fun _ => 0) (fun _ => 0) (u.2.1) (fun _ _ => 0) (fun _ => 0))) [] [] (va_runI (As := [.long r1.toInt64]) (rest := [.ref q7]) ⟨hx, hb, hml, hown, hts⟩ (c_X7_init l D t q7 r1.toInt64 _) (cwI 1 hts gL_law_X7_init rfl rfl rfl (hts _ wL_2) (hts _ wL_8) (hts _ wL_9) rfl (by decide +kernel) ⟨Nat.le_of_ble_eq_true rfl, Nat.le_of_ble_eq_true rfl⟩) (preSp (wc := [(q7, .inr (8, [.int (nI 0), .null, .null, .null, .null, .null, .null, .null, .int (nI 0)]))]) [] [] hP hD hK hN) rfl rfl hl.1 rfl (lv_room (Nat.le_of_ble_eq_true rfl)) dL_law_10 ⟨Nat.le_of_ble_eq_true rfl, Nat.le_of_ble_eq_true rfl⟩) hP hD hS hA (fun u H locs hw hP7 hD7 hS hz => ?_)
  rw [nn_app] at hP7 hD7
  obtain ⟨ad, r, sz⟩ := u
  obtain ⟨hq7, hsz7⟩ := hw
  have hq7 : ad 0 = q7 := hq7
  subst hq7
  have hsz7 : SzI r1.toInt64 sz := hsz7
  have hP : va_P D vwCl (WMd t ad sz 0 (fun _ => 0) (fun _ => 0) (fun _ => 0) 0 (fun _ => 0) (fun _ => 0) (fun _ => 0) (fun _ => 0) 0 (fun _ => 0) (fun _ => 0) (fun _ => 0) (fun _ => 0) (fun _ => 0) 0 B0 0 0 (fun _ => 0) (fun _ => 0) r (fun _ _ => 0) (fun _ => 0)) H := hP7
  have hD : va_D (fun q : Nat => s.heap.size ≤ q) (WMd t ad sz 0 (fun _ => 0) (fun _ => 0) (fun _ => 0) 0 (fun _ => 0) (fun _ => 0) (fun _ => 0) (fun _ => 0) 0 (fun _ => 0) (fun _ => 0) (fun _ => 0) (fun _ => 0) (fun _ => 0) 0 B0 0 0 (fun _ => 0) (fun _ => 0) r (fun _ _ => 0) (fun _ => 0)) := hD7
  refine lv_astore_n (lv' := [(1, .ref (ad 0)), (0, .ref b)]) hx hb dL_law_13 rfl hl (by decide) rfl (fun ls hl => ?_)
  refine va_new (ci := 9) (fs := [.int (nI 0), .int (nI 0), .null, .null, .null, .int (nI 0), .null, .null, .null, .int (nI 0), .null, .null, .null, .null, .int (nI 0), .int (nI 0), .null, .null, .null, .null, .null, .null, .null, .null, .int (nI 0)]) (C := RX8) (T := TX8) (N := 25) hx hb hts inX8 tyX8 tyX8_ok hown (hts _ wL_3) (hts _ wL_4) (hts _ wL_5) hK hP hD hS hA rfl (fun j hj => by rcases (show j = 0 ∨ j = 1 ∨ j = 2 ∨ j = 3 ∨ j = 4 ∨ j = 5 ∨ j = 6 ∨ j = 7 ∨ j = 8 ∨ j = 9 ∨ j = 10 ∨ j = 11 ∨ j = 12 ∨ j = 13 ∨ j = 14 ∨ j = 15 ∨ j = 16 ∨ j = 17 ∨ j = 18 ∨ j = 19 ∨ j = 20 ∨ j = 21 ∨ j = 22 ∨ j = 23 ∨ j = 24 by omega) with rfl | rfl | rfl | rfl | rfl | rfl | rfl | rfl | rfl | rfl | rfl | rfl | rfl | rfl | rfl | rfl | rfl | rfl | rfl | rfl | rfl | rfl | rfl | rfl | rfl <;> rfl) (Nat.le_of_ble_eq_true rfl) (Nat.le_of_ble_eq_true rfl) dL_law_14 (fun q8 H hP hD hS => ?_)
  refine lv_dup hx hb dL_law_17 rfl ?_
  refine lv_aload_n hx hb dL_law_18 rfl (lv_at hl 1 rfl) ?_
  refine lv_iconst (v := (nI 0)) hx hb dL_law_19 (by decide) ?_
  refine vp_callSi (va_Run.run (va_runS (As := [.ref b, .int (nI 0)]) (rest := [.ref q8, .ref q8]) ⟨hx, hb, hml, hown, hts⟩ (c_L_cell l b L xs (by omega)) (va_cwS 2 hts gL_law_L_cell rfl rfl rfl (by decide +kernel) ⟨Nat.le_of_ble_eq_true rfl, Nat.le_of_ble_eq_true rfl⟩) (preX hX hbl hbA hS) rfl rfl hl.1 rfl (lv_room (Nat.le_of_ble_eq_true rfl)) dL_law_20 ⟨Nat.le_of_ble_eq_true rfl, Nat.le_of_ble_eq_true rfl⟩)) (fun r2 hr2 => ?_)
  have hr12 : r2 = r1 := hr2.trans hr1.symm
  subst hr12
  refine lv_i2l hx hb dL_law_23 rfl ?_
  have hP9 : va_P D vwCl ((WMd t ad sz 0 (fun _ => 0) (fun _ => 0) (fun _ => 0) 0 (fun _ => 0) (fun _ => 0) (fun _ => 0) (fun _ => 0) 0 (fun _ => 0) (fun _ => 0) (fun _ => 0) (fun _ => 0) (fun _ => 0) 0 B0 0 0 (fun _ => 0) (fun _ => 0) r (fun _ _ => 0) (fun _ => 0)) ++ ([(q8, .inr (9, [.int (nI 0), .int (nI 0), .null, .null, .null, .int (nI 0), .null, .null, .null, .int (nI 0), .null, .null, .null, .null, .int (nI 0), .int (nI 0), .null, .null, .null, .null, .null, .null, .null, .null, .int (nI 0)]))] ++ [])) H := by rw [an_app]; exact hP
  have hD9 : va_D (fun q : Nat => s.heap.size ≤ q) ((WMd t ad sz 0 (fun _ => 0) (fun _ => 0) (fun _ => 0) 0 (fun _ => 0) (fun _ => 0) (fun _ => 0) (fun _ => 0) 0 (fun _ => 0) (fun _ => 0) (fun _ => 0) (fun _ => 0) (fun _ => 0) 0 B0 0 0 (fun _ => 0) (fun _ => 0) r (fun _ _ => 0) (fun _ => 0)) ++ ([(q8, .inr (9, [.int (nI 0), .int (nI 0), .null, .null, .null, .int (nI 0), .null, .null, .null, .int (nI 0), .null, .null, .null, .null, .int (nI 0), .int (nI 0), .null, .null, .null, .null, .null, .null, .null, .null, .int (nI 0)]))] ++ [])) := by rw [an_app]; exact hD
  refine call_Mvp (wc := [(q8, .inr (9, [.int (nI 0), .int (nI 0), .null, .null, .null, .int (nI 0), .null, .null, .null, .int (nI 0), .null, .null, .null, .null, .int (nI 0), .int (nI 0), .null, .null, .null, .null, .null, .null, .null, .null, .int (nI 0)]))]) (wc' := fun v : (Nat → Nat) × Nat × (Nat → Int32) => (WRd t (v.1) 0 (v.2.1) 0 0 0 0 0 (fun _ => 0) (fun _ => 0) (fun _ => 0) (fun _ => 0) (fun _ => 0) (fun _ => 0) (fun _ => 0) (fun _ => 0) (fun _ => 0) (fun _ => (0 : Int32)) (v.2.2) (nF (fun _ => 0)) (nF (fun _ => 0)) (nF (fun _ => 0)) (fun _ => (0 : Int32)) (fun _ => (0 : Int32)) (nF (fun _ => 0)) (lF (fun _ => 0)))) (WMd t ad sz 0 (fun _ => 0) (fun _ => 0) (fun _ => 0) 0 (fun _ => 0) (fun _ => 0) (fun _ => 0) (fun _ => 0) 0 (fun _ => 0) (fun _ => 0) (fun _ => 0) (fun _ => 0) (fun _ => 0) 0 B0 0 0 (fun _ => 0) (fun _ => 0) r (fun _ _ => 0) (fun _ => 0)) [] (va_runI (As := [.long r2.toInt64]) (rest := [.ref q8]) ⟨hx, hb, hml, hown, hts⟩ (c_X8_init l D t q8 r2.toInt64 _) (cwI 1 hts gL_law_X8_init rfl rfl rfl (hts _ wL_5) (hts _ wL_10) (hts _ wL_11) rfl (by decide +kernel) ⟨Nat.le_of_ble_eq_true rfl, Nat.le_of_ble_eq_true rfl⟩) (preSp (wc := [(q8, .inr (9, [.int (nI 0), .int (nI 0), .null, .null, .null, .int (nI 0), .null, .null, .null, .int (nI 0), .null, .null, .null, .null, .int (nI 0), .int (nI 0), .null, .null, .null, .null, .null, .null, .null, .null, .int (nI 0)]))]) (WMd t ad sz 0 (fun _ => 0) (fun _ => 0) (fun _ => 0) 0 (fun _ => 0) (fun _ => 0) (fun _ => 0) (fun _ => 0) 0 (fun _ => 0) (fun _ => 0) (fun _ => 0) (fun _ => 0) (fun _ => 0) 0 B0 0 0 (fun _ => 0) (fun _ => 0) r (fun _ _ => 0) (fun _ => 0)) [] hP9 hD9 hK hN) rfl rfl hl.1 rfl (lv_room (Nat.le_of_ble_eq_true rfl)) dL_law_24 ⟨Nat.le_of_ble_eq_true rfl, Nat.le_of_ble_eq_true rfl⟩) hP9 hD9 hS hA (fun v H locs hw hP8 hD8 hS hz => ?_)
  rw [an_app] at hP8 hD8
  obtain ⟨bd, sz8, ce⟩ := v
  obtain ⟨hq8, hsz8, hce1, hce2⟩ := hw
  have hq8 : bd 0 = q8 := hq8
  subst hq8
  have esz : sz8 = sz := SzI_u hsz8 hsz7
  subst esz
  have hP : va_P D vwCl ((WMd t ad sz8 0 (fun _ => 0) (fun _ => 0) (fun _ => 0) 0 (fun _ => 0) (fun _ => 0) (fun _ => 0) (fun _ => 0) 0 (fun _ => 0) (fun _ => 0) (fun _ => 0) (fun _ => 0) (fun _ => 0) 0 B0 0 0 (fun _ => 0) (fun _ => 0) r (fun _ _ => 0) (fun _ => 0)) ++ (WRd t bd 0 sz8 0 0 0 0 0 (fun _ => 0) (fun _ => 0) (fun _ => 0) (fun _ => 0) (fun _ => 0) (fun _ => 0) (fun _ => 0) (fun _ => 0) (fun _ => 0) (fun _ => (0 : Int32)) ce (nF (fun _ => 0)) (nF (fun _ => 0)) (nF (fun _ => 0)) (fun _ => (0 : Int32)) (fun _ => (0 : Int32)) (nF (fun _ => 0)) (lF (fun _ => 0)))) H := hP8
  have hD : va_D (fun q : Nat => s.heap.size ≤ q) ((WMd t ad sz8 0 (fun _ => 0) (fun _ => 0) (fun _ => 0) 0 (fun _ => 0) (fun _ => 0) (fun _ => 0) (fun _ => 0) 0 (fun _ => 0) (fun _ => 0) (fun _ => 0) (fun _ => 0) (fun _ => 0) 0 B0 0 0 (fun _ => 0) (fun _ => 0) r (fun _ _ => 0) (fun _ => 0)) ++ (WRd t bd 0 sz8 0 0 0 0 0 (fun _ => 0) (fun _ => 0) (fun _ => 0) (fun _ => 0) (fun _ => 0) (fun _ => 0) (fun _ => 0) (fun _ => 0) (fun _ => 0) (fun _ => (0 : Int32)) ce (nF (fun _ => 0)) (nF (fun _ => 0)) (nF (fun _ => 0)) (fun _ => (0 : Int32)) (fun _ => (0 : Int32)) (nF (fun _ => 0)) (lF (fun _ => 0)))) := hD8
  refine lv_astore_n (lv' := [(2, .ref (bd 0)), (1, .ref (ad 0)), (0, .ref b)]) hx hb dL_law_27 rfl hl (by decide) rfl (fun ls hl => ?_)
  refine lv_iconst (v := (nI 1)) hx hb dL_law_28 (by decide) ?_
  refine r_newJ hx hb (hts _ wL_6) hK hP hD hS hA 2 rfl (Nat.le_of_ble_eq_true rfl) (Nat.le_of_ble_eq_true rfl) (Nat.le_of_ble_eq_true rfl) dL_law_29 (fun qo H hP hD hS => ?_)
  have hP := P_perm List.perm_append_comm hP
  have hD := D_perm List.perm_append_comm hD
  refine lv_astore_n (lv' := [(3, .ref qo), (2, .ref (bd 0)), (1, .ref (ad 0)), (0, .ref b)]) hx hb dL_law_31 rfl hl (by decide) rfl (fun ls hl => ?_)
  refine lv_iconst (v := (nI 1)) hx hb dL_law_32 (by decide) ?_
  refine lv_istore (lv' := [(4, .int (nI 1)), (3, .ref qo), (2, .ref (bd 0)), (1, .ref (ad 0)), (0, .ref b)]) hx hb dL_law_33 hl (by decide) rfl (fun ls hl => ?_)
  obtain ⟨z1, z2, z3, z4, z5, z6⟩ := Rel_0 (SzI_le hsz8) hce1 hce2
  exact lw_loop l hL C0 hC (ad := ad) (r := r) (bd := bd) (qo := qo) (sz := sz8) 513 1 0 _ _ H locs ls (by omega) (by omega) (by omega) (Nat.le_of_ble_eq_true rfl) (Nat.le_of_ble_eq_true rfl) ⟨0, (fun _ => 0), (fun _ => 0), (fun _ => 0), 0, (fun _ => 0), (fun _ => 0), (fun _ => 0), (fun _ => 0), 0, (fun _ => 0), (fun _ => 0), (fun _ => 0), (fun _ => 0), (fun _ => 0), 0, B0, 0, 0, (fun _ => 0), (fun _ => 0), (fun _ _ => 0), (fun _ => 0), 0, 0, 0, (fun _ => 0), (fun _ => 0), (fun _ => 0), (fun _ => 0), (fun _ => 0), (fun _ => 0), (fun _ => 0), (fun _ => 0), (fun _ => 0), (fun _ => (0 : Int32)), ce, (nF (fun _ => 0)), (nF (fun _ => 0)), (nF (fun _ => 0)), (fun _ => (0 : Int32)), (fun _ => (0 : Int32)), (nF (fun _ => 0)), (lF (fun _ => 0)), (lF (fun _ => 0)), hP, hD, hS, hl, z1, z2, z3, z4, z5, z6, Nat.le_refl _⟩
