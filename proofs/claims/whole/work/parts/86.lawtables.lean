/-! what the tables give -/
theorem in_ps {big ws : List Cond} (ps : List Nat) (h : ws = ps.filterMap (fun i => big[i]?)) : ∀ w ∈ ws, w ∈ big := by
  intro w hw
  rw [h] at hw
  obtain ⟨i, -, hi⟩ := List.mem_filterMap.mp hw
  exact List.mem_of_getElem? hi
def LSm : List Cond := NSm.map (fun q => Cond.methodLinkNest q.1 q.2.1 q.2.2.1 q.2.2.2)
def LSf : List Cond := NSf.map (fun q => Cond.fieldLinkNest q.1 q.2.1 q.2.2.1 q.2.2.2.1 q.2.2.2.2.1 q.2.2.2.2.2)
def LSo : List Cond := NSd.map (fun q => Cond.declares q) ++ NSc.map (fun q => Cond.castable q.1 q.2)
def LSw : List Cond := [.arrayClass .int, .arrayClass .byte, .arrayClass .long, .arrayClass .boolean, .arrayOver (.object "MemoryMap$Block"), .arrayOver (.array .int), .stringRef RX7 79 "an alignment of 0 divides no address", .stringRef RX7 168 "no such address", .laysStatic Bundle.tN "UNASSIGNED_STACK" Bundle.steD, .laysStatic Bundle.tN "SUPPRESSED_SENTINEL" Bundle.listD, .initialized Bundle.tN, .instantiable RJx00060 6, .instantiable RX0 3, .instantiable RX1 2, .instantiable RX2 3, .instantiable RX3 5, .instantiable RX4 4, .instantiable RX5 5, .instantiable RX6 3, .instantiable RX7 9, .instantiable RX8 25]
theorem iLSm : ∀ w ∈ LSm, w ∈ lw_tbl := in_ps [62, 85, 112, 128, 155, 209, 213, 221, 229, 233, 240, 244, 263, 267, 282, 306, 312, 348, 352, 353, 362, 370, 374, 378, 383, 394, 475] (by decide +kernel)
theorem iLSf : ∀ w ∈ LSf, w ∈ lw_tbl := in_ps [67, 69, 72, 90, 92, 94, 96, 98, 135, 137, 141, 160, 330, 332] (by decide +kernel)
theorem iLSo : ∀ w ∈ LSo, w ∈ lw_tbl := in_ps [415, 495, 413, 417, 411, 493] (by decide +kernel)
theorem iLSw : ∀ w ∈ LSw, w ∈ lw_tbl := in_ps [82, 327, 596, 597, 171, 133, 449, 502, 436, 438, 40, 492, 305, 311, 154, 127, 61, 84, 111, 53, 513] (by decide +kernel)
theorem NS_of {args : Array Value} {s : State} (hts : ∀ w ∈ lw_tbl, w.before args s = true) : NS s :=
  ⟨fun q hq => va_Nw.of rfl (hts _ (iLSm _ (List.mem_map_of_mem (f := fun q : String × Nat × MethodName × String => Cond.methodLinkNest q.1 q.2.1 q.2.2.1 q.2.2.2) hq))), fun q hq => va_Nw.of rfl (hts _ (iLSf _ (List.mem_map_of_mem (f := fun q : String × Nat × String × String × String × String => Cond.fieldLinkNest q.1 q.2.1 q.2.2.1 q.2.2.2.1 q.2.2.2.2.1 q.2.2.2.2.2) hq))), fun q hq => va_Nw.of rfl (hts _ (iLSo _ (List.mem_append_left _ (List.mem_map_of_mem (f := fun q : MethodName => Cond.declares q) hq)))), fun q hq => va_Nw.of rfl (hts _ (iLSo _ (List.mem_append_right _ (List.mem_map_of_mem (f := fun q : String × String => Cond.castable q.1 q.2) hq)))), (hts _ (iLSw _ (List.mem_of_getElem? (i := 5) rfl))), va_AO.of (hts _ (iLSw _ (List.mem_of_getElem? (i := 4) rfl)))⟩
theorem LK_of {args : Array Value} {s : State} (hts : ∀ w ∈ lw_tbl, w.before args s = true) : ∃ (D : va_G) (t : Nat → ClassId), va_K D vwCl (TY t) s := by
  obtain ⟨c0, i0, h0⟩ := u_known (C := RJx00060) (T := TJx00060) (N := 6) (n := 6) hts inJx00060 (hts _ (iLSw _ (List.mem_of_getElem? (i := 11) rfl)))
  obtain ⟨c1, i1, h1⟩ := u_known (C := RX0) (T := TX0) (N := 3) (n := 3) hts inX0 (hts _ (iLSw _ (List.mem_of_getElem? (i := 12) rfl)))
  obtain ⟨c2, i2, h2⟩ := u_known (C := RX1) (T := TX1) (N := 2) (n := 2) hts inX1 (hts _ (iLSw _ (List.mem_of_getElem? (i := 13) rfl)))
  obtain ⟨c3, i3, h3⟩ := u_known (C := RX2) (T := TX2) (N := 3) (n := 3) hts inX2 (hts _ (iLSw _ (List.mem_of_getElem? (i := 14) rfl)))
  obtain ⟨c4, i4, h4⟩ := u_known (C := RX3) (T := TX3) (N := 5) (n := 5) hts inX3 (hts _ (iLSw _ (List.mem_of_getElem? (i := 15) rfl)))
  obtain ⟨c5, i5, h5⟩ := u_known (C := RX4) (T := TX4) (N := 4) (n := 4) hts inX4 (hts _ (iLSw _ (List.mem_of_getElem? (i := 16) rfl)))
  obtain ⟨c6, i6, h6⟩ := u_known (C := RX5) (T := TX5) (N := 5) (n := 5) hts inX5 (hts _ (iLSw _ (List.mem_of_getElem? (i := 17) rfl)))
  obtain ⟨c7, i7, h7⟩ := u_known (C := RX6) (T := TX6) (N := 3) (n := 3) hts inX6 (hts _ (iLSw _ (List.mem_of_getElem? (i := 18) rfl)))
  obtain ⟨c8, i8, h8⟩ := u_known (C := RX7) (T := TX7) (N := 9) (n := 9) hts inX7 (hts _ (iLSw _ (List.mem_of_getElem? (i := 19) rfl)))
  obtain ⟨c9, i9, h9⟩ := u_known (C := RX8) (T := TX8) (N := 25) (n := 25) hts inX8 (hts _ (iLSw _ (List.mem_of_getElem? (i := 20) rfl)))
  obtain ⟨t0, k0, m0, a01, a02, a03⟩ := Cond.arrayClass_spec (hts _ (iLSw _ (List.mem_of_getElem? (i := 0) rfl)))
  obtain ⟨t1, k1, m1, a11, a12, a13⟩ := Cond.arrayClass_spec (hts _ (iLSw _ (List.mem_of_getElem? (i := 1) rfl)))
  obtain ⟨t2, k2, m2, a21, a22, a23⟩ := Cond.arrayClass_spec (hts _ (iLSw _ (List.mem_of_getElem? (i := 2) rfl)))
  obtain ⟨t3, k3, m3, a31, a32, a33⟩ := Cond.arrayClass_spec (hts _ (iLSw _ (List.mem_of_getElem? (i := 3) rfl)))
  obtain ⟨m4, t4, k4, a41, a42, a43, a44, a45⟩ := Cond.arrayOver_spec (hts _ (iLSw _ (List.mem_of_getElem? (i := 4) rfl)))
  obtain ⟨m5, t5, k5, a51, a52, a53, a54, a55⟩ := arrayOverA_spec (hts _ (iLSw _ (List.mem_of_getElem? (i := 5) rfl)))
  refine ⟨(fun k => [c0, c1, c2, c3, c4, c5, c6, c7, c8, c9].getD k c0, fun k => [i0, i1, i2, i3, i4, i5, i6, i7, i8, i9].getD k i0), fun k => [t0, t1, t2, t3, t4, t5].getD k t0, ?_, ?_⟩
  · intro k q hq
    match k, hq with
    | 0, hq => cases hq; exact h0
    | 1, hq => cases hq; exact h1
    | 2, hq => cases hq; exact h2
    | 3, hq => cases hq; exact h3
    | 4, hq => cases hq; exact h4
    | 5, hq => cases hq; exact h5
    | 6, hq => cases hq; exact h6
    | 7, hq => cases hq; exact h7
    | 8, hq => cases hq; exact h8
    | 9, hq => cases hq; exact h9
    | k + 10, hq => simp [vwCl] at hq
  · intro k q hq
    match k, hq with
    | 0, hq => cases hq; exact ⟨fun N z => ⟨(fun k h => by cases h), k0, a02, m0, a03⟩, a01⟩
    | 1, hq => cases hq; exact ⟨fun N z => ⟨(fun k h => by cases h), k1, a12, m1, a13⟩, a11⟩
    | 2, hq => cases hq; exact ⟨fun N z => ⟨(fun k h => by cases h), k2, a22, m2, a23⟩, a21⟩
    | 3, hq => cases hq; exact ⟨fun N z => ⟨(fun k h => by cases h), k3, a32, m3, a33⟩, a31⟩
    | 4, hq => cases hq; exact ⟨fun N z => ⟨(fun k h => by cases h), k4, a43, m4, a44⟩, k4, m4, a43, a44, a41, a45⟩
    | 5, hq => cases hq; exact ⟨fun N z => ⟨(fun k h => by cases h), k5, a53, m5, a54⟩, a55⟩
    | k + 6, hq => simp [TY] at hq
theorem vkR_of {args : Array Value} {s : State} {own tx : String} {k : Nat} (h : (Cond.stringRef own k tx).before args s = true) : ∃ a, vk_R own k tx a s := by
  have hcur : ∃ cur, s.vm.findClass own = some cur := by
    have h1 := h
    simp only [Cond.before, Cond.holds, Cond.value] at h1
    cases hc : s.vm.findClass own with
    | none => simp [hc] at h1
    | some cur => exact ⟨cur, rfl⟩
  obtain ⟨cur, hcur⟩ := hcur
  obtain ⟨-, -, -, a, -, -, -, -, -, hev⟩ := Cond.stringRef_spec hcur h
  exact ⟨a, vk_R.of h hev⟩
theorem LC_of {s : State} {b : Nat} (l : Launch) (hl0 : l.stackTraces = false) (hts : ∀ w ∈ lw_tbl, w.before #[Value.ref b] s = true) (hgv : (Jvm.Cond.and given_1 narrow_1).before #[Value.ref b] s = true) : ∃ (D : va_G) (t : Nat → ClassId) (sa1 sa2 : Nat), LC l D t sa1 sa2 s := by
  obtain ⟨D, t, hK⟩ := LK_of hts
  obtain ⟨sa1, h1⟩ := vkR_of (hts _ (iLSw _ (List.mem_of_getElem? (i := 6) rfl)))
  obtain ⟨sa2, h2⟩ := vkR_of (hts _ (iLSw _ (List.mem_of_getElem? (i := 7) rfl)))
  have hs := flat_of_before _ hgv
  exact ⟨D, t, sa1, sa2, hl0, hK, NS_of hts, h1, h2, vx_Zqof (hts _ (iLSw _ (List.mem_of_getElem? (i := 8) rfl))) (hts _ (iLSw _ (List.mem_of_getElem? (i := 10) rfl))) (hs _ (by decide +kernel)) (fun a ha h => absurd h (Nat.not_le.mpr ha)), vx_Zqof (hts _ (iLSw _ (List.mem_of_getElem? (i := 9) rfl))) (hts _ (iLSw _ (List.mem_of_getElem? (i := 10) rfl))) (hs _ (by decide +kernel)) (fun a ha h => absurd h (Nat.not_le.mpr ha))⟩
