/-! the law's helpers -/
abbrev rm_L_cell : Room := { frames := 0, cells := 0, slots := 0, locals := 0 }
theorem c_L_cell (l : Launch) (b L : Nat) (xs : Nat → Int32) (hL : L < 2 ^ 31) : Met l yL_cell wsL_cell rm_L_cell (va_Pc [.ref b, .int (nI 0)] (fun U => va_X b L xs U U.heap)) (vp_Si (fun r => r = if 0 < L then xs 0 else 0)) 0 0 (fun _ => False) := by
  refine Met.ofW (cc := cL_cell) (maxL := 2) (ret := some .int) (by decide) rfl ?_
  intro p e s m args below meth c s₁ B hml hv
  obtain ⟨rfl, hX⟩ := hv
  rw [lg_entry_eq]
  have hx := B.exec
  have hb := B.bytes
  have hr := B.returns
  have hlk := B.notSynchronized
  have hl := lv_entry ([.ref b, .int (nI 0)]) (n := 2) (Nat.le_of_ble_eq_true rfl)
  generalize (lg_sl ([.ref b, .int (nI 0)]) ++ List.replicate (2 - (lg_sl ([.ref b, .int (nI 0)])).length) Slot.unset).toArray = ls at hl ⊢
  have hl : lv_has ls 2 [(0, .ref b), (1, .int (nI 0))] := hl
  have hS : va_S (fun _ => False) s.heap s.heap [] := va_S.rf
  have hbl : b < s.heap.size := by
    obtain ⟨scr, h1, -⟩ := hX
    exact (Array.getElem?_eq_some_iff.mp h1).1
  refine lv_iload_n hx hb dL_cell_0 rfl (lv_at hl 1 rfl) ?_
  refine lv_aload_n hx hb dL_cell_1 rfl (lv_at hl 0 rfl) ?_
  refine va_slen hx hb hX hbl (fun h => h) hS dL_cell_2 ?_
  refine r_icmp_ge (x := 0) (y := L) (tgt := 12) hx hb (by omega) hL dL_cell_3 (by decide) (fun c1 => ?_) (fun c1 => ?_)
  · refine lv_iconst (v := (nI 0)) hx hb dL_cell_12 (by decide) ?_
    exact ret_Qi hx hb hr hlk (by rw [if_neg (by omega)]; rfl) dL_cell_13
  · refine lv_aload_n hx hb dL_cell_6 rfl (lv_at hl 0 rfl) ?_
    refine lv_iload_n hx hb dL_cell_7 rfl (lv_at hl 1 rfl) ?_
    refine va_sld hx hb hX hbl (fun h => h) hS (vp_in_nI c1 hL) dL_cell_8 ?_
    refine lv_goto (tgt := 13) hx hb dL_cell_9 (by decide) ?_
    exact ret_Qi hx hb hr hlk (by rw [if_pos c1]; rfl) dL_cell_13
def wsO {S : Type} (c2 : ClassId) (qo : Nat) (f : Nat → Int64) (ws : va_W) (ws' : S → va_W) : Option (Int32 × S) → va_W
  | none => (qo, .inl (c2, 1, .inr (.inl f))) :: ws
  | some (z, v) => (qo, .inl (c2, 1, .inr (.inl (vp_updL f 0 z.toInt64)))) :: ws' v
theorem one_app {x : Nat × va_E} {ws : va_W} : [x] ++ (ws ++ []) = x :: ws := by simp
theorem va_A.tl {x : Nat × va_E} {ws : va_W} {sz q : Nat} (h : va_A ws sz q) : va_A (x :: ws) sz q := by
  rcases A_iff.mp h with ⟨y, hy, e⟩ | h
  · exact A_iff.mpr (Or.inl ⟨y, List.mem_cons_of_mem _ hy, e⟩)
  · exact A_iff.mpr (Or.inr h)
theorem preVX {D : va_G} {tys : List (ClassId × FieldType)} {ws : va_W} {is : Nat} {tx : String} {sa : Nat} {s : State} {A : Nat → Prop} {b : Nat} {As : List Value} {fs : List Value} (hP : va_P D vwCl ws s.heap) (hD : va_D A ws) (hK : va_K D vwCl tys s) (hN : NS s) (hR : vk_R RX7 is tx sa s) (hU : vx_Zq Bundle.tN "UNASSIGNED_STACK" Bundle.steD A s s.heap) (hV : vx_Zq Bundle.tN "SUPPRESSED_SENTINEL" Bundle.listD A s s.heap) (hF : ∀ q, va_A ws s.heap.size q → A q) (he : ws[0]? = some (b, .inr (8, fs))) : PreV s s.heap RX7 b (va_Pc (.ref b :: As) (WdX D tys ws is tx sa s.heap.size)) As :=
  ⟨WdX.blind, va_recv (ci := 8) hK hP rfl he, fun U hE hW => ⟨rfl, ⟨by rw [hE], by rw [hE]; exact hP, va_K.moved hW.alike hK, hD.weaken (fun _ _ _ _ => trivial), NS.warm hW hN⟩, vk_R.warm hW hR, by rw [hE]; exact (hU.narrow hF).moved hW.alike, by rw [hE]; exact (hV.narrow hF).moved hW.alike⟩⟩
abbrev rm_L_section : Room := { frames := 7, cells := 1, slots := 6, locals := 124 }
set_option maxHeartbeats 1000000 in
theorem c_L_section (l : Launch) (D : va_G) (t : Nat → ClassId) (sa a0 qo : Nat) (n a : Int64) (x : Int32) (f : Nat → Int64) (ws : va_W) (fs : List Value) {S : Type} {post : Int32 → S → Prop} {ws' : S → va_W} {px : Prop} (hX : Xi l yX7_section wsX7_section rm_X7_section D (TY t) 79 "an alignment of 0 divides no address" sa [.ref a0, .long n, .long a, .int x] ws post ws' px "java/lang/ArithmeticException") (he : ws[0]? = some (a0, .inr (8, fs))) (sz : Nat) :
    Met l yL_section wsL_section rm_L_section (va_Pc [.ref a0, .long n, .long a, .int x, .ref qo] (WdX D (TY t) ((qo, .inl (t 2, 1, .inr (.inl f))) :: ws) 79 "an alignment of 0 divides no address" sa sz)) (va_Qi (S := Option (Int32 × S)) (fun k u => (k = nI 1 ∧ px ∧ u = none) ∨ (k = nI 0 ∧ ∃ z v, post z v ∧ u = some (z, v))) (fun u t9 => We D (va_A ((qo, .inl (t 2, 1, .inr (.inl f))) :: ws) sz) (wsO (t 2) qo f ws ws' u) t9) (va_A ((qo, .inl (t 2, 1, .inr (.inl f))) :: ws) sz)) rm_L_section.cells rm_L_section.slots (va_A ((qo, .inl (t 2, 1, .inr (.inl f))) :: ws) sz) := by
  refine va_MetW (cc := cL_section) (maxL := 8) (ret := some .int) (hh := [(0, 13, 16, 13)]) (by decide) rfl ?_
  intro p e s m args below meth c s₁ B hml hv
  obtain ⟨rfl, ⟨hsz, hP, hK, hD0, hN⟩, hR, hU, hV⟩ := hv
  subst hsz
  have hD := hD0.self (sz := s.heap.size)
  rw [lg_entry_eq]
  have hx := B.exec
  have hb := B.bytes
  have hr := B.returns
  have hlk := B.notSynchronized
  have hts := atoms_spec (ws := wsL_section) B.pre
  have hown : s.vm.findClass RL = some m.cls := findClass_of_methodNamed B.named
  have htab := vx_table (x := yL_cell) B (hts _ List.mem_cons_self)
  have hl := lv_entry ([.ref a0, .long n, .long a, .int x, .ref qo]) (n := 8) (Nat.le_of_ble_eq_true rfl)
  generalize (lg_sl ([.ref a0, .long n, .long a, .int x, .ref qo]) ++ List.replicate (8 - (lg_sl ([.ref a0, .long n, .long a, .int x, .ref qo])).length) Slot.unset).toArray = ls at hl ⊢
  have hl : lv_has ls 8 [(0, .ref a0), (1, .long n), (3, .long a), (5, .int x), (6, .ref qo)] := hl
  have hA : ∀ q : Nat, s.heap.size ≤ q → va_A ((qo, .inl (t 2, 1, .inr (.inl f))) :: ws) s.heap.size q := fun q h => Or.inr h
  have hS : va_S (va_A ((qo, .inl (t 2, 1, .inr (.inl f))) :: ws) s.heap.size) s.heap s.heap [] := va_S.rf
  have hF : ∀ q, va_A ws s.heap.size q → va_A ((qo, .inl (t 2, 1, .inr (.inl f))) :: ws) s.heap.size q := fun q h => va_A.tl h
  have hPc : va_P D vwCl ws s.heap := (P_app.mp (show va_P D vwCl ([_] ++ ws) s.heap from hP)).2
  have hDc : va_D (va_A ((qo, .inl (t 2, 1, .inr (.inl f))) :: ws) s.heap.size) ws := (D_app.mp (show va_D _ ([_] ++ ws) from hD)).2.1
  have hPj : va_P D vwCl ([(qo, .inl (t 2, 1, .inr (.inl f)))] ++ (ws ++ [])) s.heap := by rw [one_app]; exact hP
  have hDj : va_D (va_A ((qo, .inl (t 2, 1, .inr (.inl f))) :: ws) s.heap.size) ([(qo, .inl (t 2, 1, .inr (.inl f)))] ++ (ws ++ [])) := by rw [one_app]; exact hD
  refine lv_aload hx hb dL_section_0 (lv_at hl 4 rfl) ?_
  refine lv_iconst (v := (nI 0)) hx hb dL_section_2 (by decide) ?_
  refine lv_aload_n hx hb dL_section_3 rfl (lv_at hl 0 rfl) ?_
  refine lv_lload_n hx hb dL_section_4 rfl (lv_at hl 1 rfl) ?_
  refine lv_lload_n hx hb dL_section_5 rfl (lv_at hl 2 rfl) ?_
  refine lv_iload hx hb dL_section_6 (lv_at hl 3 rfl) ?_
  refine vx_calli (vx_runV (As := [.long n, .long a, .int x]) (rest := [.int (nI 0), .ref qo]) ⟨hx, hb, hml, hown, hts⟩ (hX s.heap.size) (cwV 3 hts gL_section_X7_section rfl rfl rfl (by decide +kernel) ⟨Nat.le_of_ble_eq_true rfl, Nat.le_of_ble_eq_true rfl⟩) (preVX (As := [.long n, .long a, .int x]) hPc hDc hK hN hR hU hV hF he) rfl rfl hl.1 rfl (lv_room (Nat.le_of_ble_eq_true rfl)) dL_section_8 ⟨Nat.le_of_ble_eq_true rfl, Nat.le_of_ble_eq_true rfl⟩) hS (fun q _ h => hF q h) hF (fun q _ h => hF q h) (fun E ce q9 u t9 H1 locs1 ht hvm hpx hBX hz1 hk1 hS1 hce hcv hcl => ?_) (fun r u t9 H1 locs1 ht hvm hw hB hz1 hk1 hS1 => ?_)
  · obtain ⟨rfl, hP1, hD1⟩ := hBX
    rw [ht] at hP1
    obtain ⟨hP2, hD2⟩ := mid_join hPj hDj hk1 hF hP1 hD1
    rw [one_app] at hP2 hD2
    refine vx_catch (own := RL) (name := "java/lang/ArithmeticException") hown [] ⟨0, 13, 16, 13⟩ [] htab (fun z h => nomatch h) (by decide) (by decide) (hts (.classLink RL 13 "java/lang/ArithmeticException") (List.mem_of_getElem? (i := 1) rfl)) (va_Nw.use rfl (hN.2.2.2.1 _ (List.mem_of_getElem? (i := 0) rfl))) hce hcv hcl ?_
    refine lv_astore (lv' := [(7, .ref q9), (0, .ref a0), (1, .long n), (3, .long a), (5, .int x), (6, .ref qo)]) hx hb dL_section_16 hl (by decide) rfl (fun ls hl => ?_)
    refine lv_iconst (v := (nI 1)) hx hb dL_section_18 (by decide) ?_
    exact ret_Mi hx hb hr hlk none (Or.inl ⟨rfl, hpx, rfl⟩) hP2 hD2 hS1 (Nat.le_of_ble_eq_true rfl) (Nat.le_of_ble_eq_true rfl) dL_section_19
  · obtain ⟨hP1, hD1⟩ := hB
    rw [ht] at hP1
    obtain ⟨hP2, hD2⟩ := mid_join hPj hDj hk1 hF hP1 hD1
    rw [one_app] at hP2 hD2
    refine lv_i2l hx hb dL_section_11 rfl ?_
    refine r_lastI (n := 1) hx hb hK hP2 hD2 hS1 0 2 rfl rfl (Nat.lt_succ_self 0) (by decide) dL_section_12 (fun H2 locs2 hP3 hD3 hS3 => ?_)
    refine lv_goto (tgt := 20) hx hb dL_section_13 (by decide) ?_
    refine lv_iconst (v := (nI 0)) hx hb dL_section_20 (by decide) ?_
    exact ret_Mi hx hb hr hlk (some (r, u)) (Or.inr ⟨rfl, r, u, hw, rfl⟩) hP3 hD3 hS3 (Nat.le_of_ble_eq_true rfl) (Nat.le_of_ble_eq_true rfl) dL_section_21
abbrev rm_L_cell_ : Room := { frames := 8, cells := 1, slots := 6, locals := 136 }
set_option maxHeartbeats 1000000 in
theorem c_L_cell_ (l : Launch) (D : va_G) (t : Nat → ClassId) (sa a0 qo : Nat) (x : Int64) (f : Nat → Int64) (ws : va_W) (fs : List Value) {S : Type} {post : Int32 → S → Prop} {ws' : S → va_W} {px : Prop} (hX : Xi l yX7_cell wsX7_cellX rm_X7_cell D (TY t) 168 "no such address" sa [.ref a0, .long x] ws post ws' px "java/lang/ArrayIndexOutOfBoundsException") (he : ws[0]? = some (a0, .inr (8, fs))) (sz : Nat) :
    Met l yL_cell_ wsL_cellX rm_L_cell_ (va_Pc [.ref a0, .long x, .ref qo] (WdX D (TY t) ((qo, .inl (t 2, 1, .inr (.inl f))) :: ws) 168 "no such address" sa sz)) (va_Qi (S := Option (Int32 × S)) (fun k u => (k = nI 1 ∧ px ∧ u = none) ∨ (k = nI 0 ∧ ∃ z v, post z v ∧ u = some (z, v))) (fun u t9 => We D (va_A ((qo, .inl (t 2, 1, .inr (.inl f))) :: ws) sz) (wsO (t 2) qo f ws ws' u) t9) (va_A ((qo, .inl (t 2, 1, .inr (.inl f))) :: ws) sz)) rm_L_cell_.cells rm_L_cell_.slots (va_A ((qo, .inl (t 2, 1, .inr (.inl f))) :: ws) sz) := by
  refine va_MetW (cc := cL_cell_) (maxL := 5) (ret := some .int) (hh := [(0, 9, 12, 19)]) (by decide) rfl ?_
  intro p e s m args below meth c s₁ B hml hv
  obtain ⟨rfl, ⟨hsz, hP, hK, hD0, hN⟩, hR, hU, hV⟩ := hv
  subst hsz
  have hD := hD0.self (sz := s.heap.size)
  rw [lg_entry_eq]
  have hx := B.exec
  have hb := B.bytes
  have hr := B.returns
  have hlk := B.notSynchronized
  have hts := atoms_spec (ws := wsL_cellX) B.pre
  have hown : s.vm.findClass RL = some m.cls := findClass_of_methodNamed B.named
  have htab := vx_table (x := yL_cell) B (hts _ List.mem_cons_self)
  have hl := lv_entry ([.ref a0, .long x, .ref qo]) (n := 5) (Nat.le_of_ble_eq_true rfl)
  generalize (lg_sl ([.ref a0, .long x, .ref qo]) ++ List.replicate (5 - (lg_sl ([.ref a0, .long x, .ref qo])).length) Slot.unset).toArray = ls at hl ⊢
  have hl : lv_has ls 5 [(0, .ref a0), (1, .long x), (3, .ref qo)] := hl
  have hA : ∀ q : Nat, s.heap.size ≤ q → va_A ((qo, .inl (t 2, 1, .inr (.inl f))) :: ws) s.heap.size q := fun q h => Or.inr h
  have hS : va_S (va_A ((qo, .inl (t 2, 1, .inr (.inl f))) :: ws) s.heap.size) s.heap s.heap [] := va_S.rf
  have hF : ∀ q, va_A ws s.heap.size q → va_A ((qo, .inl (t 2, 1, .inr (.inl f))) :: ws) s.heap.size q := fun q h => va_A.tl h
  have hPc : va_P D vwCl ws s.heap := (P_app.mp (show va_P D vwCl ([_] ++ ws) s.heap from hP)).2
  have hDc : va_D (va_A ((qo, .inl (t 2, 1, .inr (.inl f))) :: ws) s.heap.size) ws := (D_app.mp (show va_D _ ([_] ++ ws) from hD)).2.1
  have hPj : va_P D vwCl ([(qo, .inl (t 2, 1, .inr (.inl f)))] ++ (ws ++ [])) s.heap := by rw [one_app]; exact hP
  have hDj : va_D (va_A ((qo, .inl (t 2, 1, .inr (.inl f))) :: ws) s.heap.size) ([(qo, .inl (t 2, 1, .inr (.inl f)))] ++ (ws ++ [])) := by rw [one_app]; exact hD
  refine lv_aload_n hx hb dL_cell__0 rfl (lv_at hl 2 rfl) ?_
  refine lv_iconst (v := (nI 0)) hx hb dL_cell__1 (by decide) ?_
  refine lv_aload_n hx hb dL_cell__2 rfl (lv_at hl 0 rfl) ?_
  refine lv_lload_n hx hb dL_cell__3 rfl (lv_at hl 1 rfl) ?_
  refine vx_calli (vx_runV (As := [.long x]) (rest := [.int (nI 0), .ref qo]) ⟨hx, hb, hml, hown, hts⟩ (hX s.heap.size) (cwV 1 hts gL_cell__X7_cell rfl rfl rfl (by decide +kernel) ⟨Nat.le_of_ble_eq_true rfl, Nat.le_of_ble_eq_true rfl⟩) (preVX (As := [.long x]) hPc hDc hK hN hR hU hV hF he) rfl rfl hl.1 rfl (lv_room (Nat.le_of_ble_eq_true rfl)) dL_cell__4 ⟨Nat.le_of_ble_eq_true rfl, Nat.le_of_ble_eq_true rfl⟩) hS (fun q _ h => hF q h) hF (fun q _ h => hF q h) (fun E ce q9 u t9 H1 locs1 ht hvm hpx hBX hz1 hk1 hS1 hce hcv hcl => ?_) (fun r u t9 H1 locs1 ht hvm hw hB hz1 hk1 hS1 => ?_)
  · obtain ⟨rfl, hP1, hD1⟩ := hBX
    rw [ht] at hP1
    obtain ⟨hP2, hD2⟩ := mid_join hPj hDj hk1 hF hP1 hD1
    rw [one_app] at hP2 hD2
    refine vx_catch (own := RL) (name := "java/lang/ArrayIndexOutOfBoundsException") hown [] ⟨0, 9, 12, 19⟩ [] htab (fun z h => nomatch h) (by decide) (by decide) (hts (.classLink RL 19 "java/lang/ArrayIndexOutOfBoundsException") (List.mem_of_getElem? (i := 1) rfl)) (va_Nw.use rfl (hN.2.2.2.1 _ (List.mem_of_getElem? (i := 1) rfl))) hce hcv hcl ?_
    refine lv_astore (lv' := [(4, .ref q9), (0, .ref a0), (1, .long x), (3, .ref qo)]) hx hb dL_cell__12 hl (by decide) rfl (fun ls hl => ?_)
    refine lv_iconst (v := (nI 1)) hx hb dL_cell__14 (by decide) ?_
    exact ret_Mi hx hb hr hlk none (Or.inl ⟨rfl, hpx, rfl⟩) hP2 hD2 hS1 (Nat.le_of_ble_eq_true rfl) (Nat.le_of_ble_eq_true rfl) dL_cell__15
  · obtain ⟨hP1, hD1⟩ := hB
    rw [ht] at hP1
    obtain ⟨hP2, hD2⟩ := mid_join hPj hDj hk1 hF hP1 hD1
    rw [one_app] at hP2 hD2
    refine lv_i2l hx hb dL_cell__7 rfl ?_
    refine r_lastI (n := 1) hx hb hK hP2 hD2 hS1 0 2 rfl rfl (Nat.lt_succ_self 0) (by decide) dL_cell__8 (fun H2 locs2 hP3 hD3 hS3 => ?_)
    refine lv_goto (tgt := 16) hx hb dL_cell__9 (by decide) ?_
    refine lv_iconst (v := (nI 0)) hx hb dL_cell__16 (by decide) ?_
    exact ret_Mi hx hb hr hlk (some (r, u)) (Or.inr ⟨rfl, r, u, hw, rfl⟩) hP3 hD3 hS3 (Nat.le_of_ble_eq_true rfl) (Nat.le_of_ble_eq_true rfl) dL_cell__17
