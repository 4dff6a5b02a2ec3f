/-! worlds by their members: cells in the middle of a list, stretches of cells -/
theorem P_mem {D : va_G} {cl : List vw_C} {ws : va_W} {H : Heap} : va_P D cl ws H ↔ ∀ q ∈ ws, va_at D cl q H := by
  constructor
  · intro h q hq
    obtain ⟨k, hk⟩ := List.mem_iff_getElem?.mp hq
    exact h k q hk
  · intro h k q hk
    exact h q (List.mem_of_getElem? hk)
theorem D_mem {A : Nat → Prop} {ws : va_W} : va_D A ws ↔ (ws.map (·.1)).Nodup ∧ ∀ q ∈ ws, A q.1 := by
  constructor
  · intro h
    refine ⟨?_, fun q hq => ?_⟩
    · rw [List.nodup_iff_pairwise_ne, List.pairwise_iff_getElem]
      intro i j hi hj hij he
      rw [List.length_map] at hi hj
      rw [List.getElem_map, List.getElem_map] at he
      have e := h.1 i j _ _ (List.getElem?_eq_getElem hi) (List.getElem?_eq_getElem hj) he
      omega
    · obtain ⟨k, hk⟩ := List.mem_iff_getElem?.mp hq
      exact h.2 k q hk
  · intro h
    refine ⟨fun i j p q hp hq e => ?_, fun k q hk => h.2 q (List.mem_of_getElem? hk)⟩
    have hi := (List.getElem?_eq_some_iff.mp hp).1
    refine (List.getElem?_inj (l := ws.map (·.1)) (by rw [List.length_map]; exact hi) h.1).mp ?_
    rw [List.getElem?_map, List.getElem?_map, hp, hq]
    exact congrArg some e
theorem P_perm {D : va_G} {cl : List vw_C} {ws ws' : va_W} {H : Heap} (h : ws.Perm ws') (hP : va_P D cl ws H) : va_P D cl ws' H := P_mem.mpr fun q hq => P_mem.mp hP q (h.mem_iff.mpr hq)
theorem D_perm {A : Nat → Prop} {ws ws' : va_W} (h : ws.Perm ws') (hD : va_D A ws) : va_D A ws' := by
  have k := D_mem.mp hD
  exact D_mem.mpr ⟨((h.map (·.1)).nodup_iff).mp k.1, fun q hq => k.2 q (h.mem_iff.mpr hq)⟩
/-- cells from the middle to the front -/
theorem perm_front (a b c d : va_W) : (a ++ (b ++ (c ++ d))).Perm (c ++ (a ++ (b ++ d))) := by
  have h1 : (b ++ (c ++ d)).Perm (c ++ (b ++ d)) := by
    rw [← List.append_assoc, ← List.append_assoc]
    exact List.perm_append_comm.append_right d
  refine (h1.append_left a).trans ?_
  rw [← List.append_assoc, ← List.append_assoc c a]
  exact List.perm_append_comm.append_right _
theorem P_app {D : va_G} {cl : List vw_C} {a b : va_W} {H : Heap} : va_P D cl (a ++ b) H ↔ va_P D cl a H ∧ va_P D cl b H := by
  rw [P_mem, P_mem, P_mem]
  constructor
  · exact fun h => ⟨fun q hq => h q (List.mem_append_left _ hq), fun q hq => h q (List.mem_append_right _ hq)⟩
  · exact fun h q hq => (List.mem_append.mp hq).elim (h.1 q) (h.2 q)
theorem D_app {A : Nat → Prop} {a b : va_W} : va_D A (a ++ b) ↔ va_D A a ∧ va_D A b ∧ ∀ p ∈ a, ∀ q ∈ b, p.1 ≠ q.1 := by
  rw [D_mem, D_mem, D_mem, List.map_append, List.nodup_append]
  constructor
  · rintro ⟨⟨h1, h2, h3⟩, h4⟩
    exact ⟨⟨h1, fun q hq => h4 q (List.mem_append_left _ hq)⟩, ⟨h2, fun q hq => h4 q (List.mem_append_right _ hq)⟩, fun p hp q hq => h3 p.1 (List.mem_map_of_mem hp) q.1 (List.mem_map_of_mem hq)⟩
  · rintro ⟨⟨h1, h4⟩, ⟨h2, h5⟩, h3⟩
    refine ⟨⟨h1, h2, fun x hx y hy => ?_⟩, fun q hq => (List.mem_append.mp hq).elim (h4 q) (h5 q)⟩
    obtain ⟨p, hp, rfl⟩ := List.mem_map.mp hx
    obtain ⟨q, hq, rfl⟩ := List.mem_map.mp hy
    exact h3 p hp q hq
theorem A_iff {ws : va_W} {sz q : Nat} : va_A ws sz q ↔ (∃ x ∈ ws, x.1 = q) ∨ sz ≤ q := by
  unfold va_A
  constructor
  · rintro (⟨k, e, h⟩ | h)
    · exact Or.inl ⟨_, List.mem_of_getElem? h, rfl⟩
    · exact Or.inr h
  · rintro (⟨x, hx, rfl⟩ | h)
    · obtain ⟨k, hk⟩ := List.mem_iff_getElem?.mp hx
      exact Or.inl ⟨k, x.2, hk⟩
    · exact Or.inr h
/-- the frame: wc in the middle of a world becomes w1 -/
theorem mid_join {D : va_G} {cl : List vw_C} {A : Nat → Prop} {pre wc w1 post : va_W} {H H1 : Heap} (hP : va_P D cl (pre ++ (wc ++ post)) H) (hD : va_D A (pre ++ (wc ++ post)))
    (hk : ∀ q : Nat, q < H.size → ¬ va_A wc H.size q → H1[q]? = H[q]?) (hF : ∀ q, va_A wc H.size q → A q) (hP1 : va_P D cl w1 H1) (hD1 : va_D (va_A wc H.size) w1) : va_P D cl (pre ++ (w1 ++ post)) H1 ∧ va_D A (pre ++ (w1 ++ post)) := by
  obtain ⟨p1, p23⟩ := P_app.mp hP
  obtain ⟨p2, p3⟩ := P_app.mp p23
  obtain ⟨d1, d23, d4⟩ := D_app.mp hD
  obtain ⟨d2, d3, d5⟩ := D_app.mp d23
  have out : ∀ (z : va_W), va_P D cl z H → (∀ x ∈ z, ∀ y ∈ wc, y.1 ≠ x.1) → ∀ x ∈ z, x.1 < H.size ∧ ¬ va_A wc H.size x.1 := by
    intro z hz hne x hx
    have hl := (P_mem.mp hz x hx).lt
    refine ⟨hl, fun h => ?_⟩
    rcases A_iff.mp h with ⟨y, hy, e⟩ | h
    · exact hne x hx y hy e
    · omega
  have o1 := out pre p1 (fun x hx y hy e => d4 x hx y (List.mem_append_left _ hy) e.symm)
  have o3 := out post p3 (fun x hx y hy e => d5 y hy x hx e)
  have k1 : va_P D cl pre H1 := P_mem.mpr fun x hx => (P_mem.mp p1 x hx).kept (hk _ (o1 x hx).1 (o1 x hx).2)
  have k3 : va_P D cl post H1 := P_mem.mpr fun x hx => (P_mem.mp p3 x hx).kept (hk _ (o3 x hx).1 (o3 x hx).2)
  have in1 : ∀ y ∈ w1, va_A wc H.size y.1 := (D_mem.mp hD1).2
  have dw : va_D A w1 := D_mem.mpr ⟨(D_mem.mp hD1).1, fun y hy => hF _ (in1 y hy)⟩
  refine ⟨P_app.mpr ⟨k1, P_app.mpr ⟨hP1, k3⟩⟩, D_app.mpr ⟨d1, D_app.mpr ⟨dw, d3, fun y hy x hx e => (o3 x hx).2 (e ▸ in1 y hy)⟩, fun x hx y hy e => ?_⟩⟩
  rcases List.mem_append.mp hy with hy | hy
  · exact (o1 x hx).2 (e ▸ in1 y hy)
  · exact d4 x hx y (List.mem_append_right _ hy) e
theorem mid_free {A : Nat → Prop} {pre wc post : va_W} {H0 H : Heap} {locs : List Loc} (hD : va_D A (pre ++ (wc ++ post))) (hS : va_S A H0 H locs) (hA : ∀ q, H0.size ≤ q → A q) : ∀ q, va_A wc H.size q → A q := by
  intro q h
  rcases A_iff.mp h with ⟨y, hy, rfl⟩ | h
  · exact (D_mem.mp hD).2 y (List.mem_append_right _ (List.mem_append_left _ hy))
  · exact hA q (Nat.le_trans hS.1 h)
section CM
variable {p : Program} {l : Launch} {e : Env} {R : Room} {s : State} {m : MethodId} {args : Array Value} {below : List Frame} {meth : Method} {c : Code} {H : Heap} {locs : List Loc} {cells slots mc ms : Nat} {Q : State → Prop}
variable {cc : ByteArray} {pc : Nat} {ls : Array Slot} {rest st0 : List Value} {D : va_G} {A A0 : Nat → Prop} {a : Array Value} {tys : List (ClassId × FieldType)} {wc : va_W} {H0 : Heap} {S : Type}
theorem preVp (pre post : va_W) {b : Nat} {As : List Value} {C : String} {q : vw_C} {fs : List Value} (hP : va_P D vwCl (pre ++ (wc ++ post)) H) (hD : va_D A (pre ++ (wc ++ post))) (hK : va_K D vwCl tys s) (hN : NS s) (ci q0 : Nat) (hc : vwCl[ci]? = some q) (he : wc[q0]? = some (b, .inr (ci, fs))) (hq : q.1 = C) : PreV s H C b (va_Pc (.ref b :: As) (Wd D tys wc H.size)) As := by
  subst hq
  have p2 := (P_app.mp (P_app.mp hP).2).1
  have d2 := (D_app.mp (D_app.mp hD).2.1).1
  exact ⟨Wd.blind, va_recv hK p2 hc he, fun U hU hW => ⟨rfl, by rw [hU], by rw [hU]; exact p2, va_K.moved hW.alike hK, d2.weaken (fun _ _ _ _ => trivial), NS.warm hW hN⟩⟩
theorem preSp (pre post : va_W) {As : List Value} (hP : va_P D vwCl (pre ++ (wc ++ post)) H) (hD : va_D A (pre ++ (wc ++ post))) (hK : va_K D vwCl tys s) (hN : NS s) : PreS s H (va_Pc As (Wd D tys wc H.size)) As := by
  have p2 := (P_app.mp (P_app.mp hP).2).1
  have d2 := (D_app.mp (D_app.mp hD).2.1).1
  exact ⟨Wd.blind, fun U hU hW => ⟨rfl, by rw [hU], by rw [hU]; exact p2, va_K.moved hW.alike hK, d2.weaken (fun _ _ _ _ => trivial), NS.warm hW hN⟩⟩
theorem call_Mip (pre post : va_W) {pst : Int32 → S → Prop} {wc' : S → va_W} (hr : va_Run p l e R s m args below meth c H locs cells slots mc ms (F0 m pc ls st0) rest (va_Qi pst (fun u t => We D (va_A wc H.size) (wc' u) t) (va_A wc H.size) a) (va_A wc H.size))
    (hP : va_P D vwCl (pre ++ (wc ++ post)) H) (hD : va_D A0 (pre ++ (wc ++ post))) (hS : va_S A0 H0 H locs) (hA : ∀ q, H0.size ≤ q → A0 q)
    (kk : ∀ (r : Int32) (u : S) (H1 : Heap) (locs1 : List Loc), pst r u → va_P D vwCl (pre ++ (wc' u ++ post)) H1 → va_D A0 (pre ++ (wc' u ++ post)) → va_S A0 H0 H1 locs1 → H.size ≤ H1.size → W p l e R s m args below meth c H1 locs1 (cells + mc) (slots + ms) Q (F0 m (pc + 3) ls (.int r :: rest))) : W p l e R s m args below meth c H locs cells slots Q (F0 m pc ls st0) := by
  have hF := mid_free hD hS hA
  refine va_calli hr hS (fun q _ h => hF q h) hF (fun r u t H1 locs1 ht hvm hw hB hz1 hk1 hS1 => ?_)
  obtain ⟨hP1, hD1⟩ := hB
  rw [ht] at hP1
  obtain ⟨hP2, hD2⟩ := mid_join hP hD hk1 hF hP1 hD1
  exact kk r u H1 locs1 hw hP2 hD2 hS1 hz1
theorem call_Mlp (pre post : va_W) {pst : Int64 → S → Prop} {wc' : S → va_W} (hr : va_Run p l e R s m args below meth c H locs cells slots mc ms (F0 m pc ls st0) rest (va_Ql pst (fun u t => We D (va_A wc H.size) (wc' u) t) (va_A wc H.size) a) (va_A wc H.size))
    (hP : va_P D vwCl (pre ++ (wc ++ post)) H) (hD : va_D A0 (pre ++ (wc ++ post))) (hS : va_S A0 H0 H locs) (hA : ∀ q, H0.size ≤ q → A0 q)
    (kk : ∀ (r : Int64) (u : S) (H1 : Heap) (locs1 : List Loc), pst r u → va_P D vwCl (pre ++ (wc' u ++ post)) H1 → va_D A0 (pre ++ (wc' u ++ post)) → va_S A0 H0 H1 locs1 → H.size ≤ H1.size → W p l e R s m args below meth c H1 locs1 (cells + mc) (slots + ms) Q (F0 m (pc + 3) ls (.long r :: rest))) : W p l e R s m args below meth c H locs cells slots Q (F0 m pc ls st0) := by
  have hF := mid_free hD hS hA
  refine va_calll hr hS (fun q _ h => hF q h) hF (fun r u t H1 locs1 ht hvm hw hB hz1 hk1 hS1 => ?_)
  obtain ⟨hP1, hD1⟩ := hB
  rw [ht] at hP1
  obtain ⟨hP2, hD2⟩ := mid_join hP hD hk1 hF hP1 hD1
  exact kk r u H1 locs1 hw hP2 hD2 hS1 hz1
theorem call_Mvp (pre post : va_W) {pst : S → Prop} {wc' : S → va_W} (hr : va_Run p l e R s m args below meth c H locs cells slots mc ms (F0 m pc ls st0) rest (va_Qv pst (fun u t => We D (va_A wc H.size) (wc' u) t) (va_A wc H.size) a) (va_A wc H.size))
    (hP : va_P D vwCl (pre ++ (wc ++ post)) H) (hD : va_D A0 (pre ++ (wc ++ post))) (hS : va_S A0 H0 H locs) (hA : ∀ q, H0.size ≤ q → A0 q)
    (kk : ∀ (u : S) (H1 : Heap) (locs1 : List Loc), pst u → va_P D vwCl (pre ++ (wc' u ++ post)) H1 → va_D A0 (pre ++ (wc' u ++ post)) → va_S A0 H0 H1 locs1 → H.size ≤ H1.size → W p l e R s m args below meth c H1 locs1 (cells + mc) (slots + ms) Q (F0 m (pc + 3) ls rest)) : W p l e R s m args below meth c H locs cells slots Q (F0 m pc ls st0) := by
  have hF := mid_free hD hS hA
  refine va_callv hr hS (fun q _ h => hF q h) hF (fun u t H1 locs1 ht hvm hw hB hz1 hk1 hS1 => ?_)
  obtain ⟨hP1, hD1⟩ := hB
  rw [ht] at hP1
  obtain ⟨hP2, hD2⟩ := mid_join hP hD hk1 hF hP1 hD1
  exact kk u H1 locs1 hw hP2 hD2 hS1 hz1
end CM
/-- a stretch of cells, piece by piece -/
def seg (F : Nat → va_W) (n : Nat) : va_W := (List.range n).flatMap F
theorem seg_0 {F : Nat → va_W} : seg F 0 = [] := rfl
theorem seg_succ {F : Nat → va_W} {n : Nat} : seg F (n + 1) = seg F n ++ F n := by
  unfold seg
  rw [List.range_succ, List.flatMap_append]
  simp
theorem seg_congr {F G : Nat → va_W} : ∀ n : Nat, (∀ i, i < n → F i = G i) → seg F n = seg G n
  | 0, _ => rfl
  | n + 1, h => by rw [seg_succ, seg_succ, seg_congr n (fun i hi => h i (by omega)), h n (Nat.lt_succ_self n)]
theorem seg_add {F : Nat → va_W} (k : Nat) : ∀ n : Nat, seg F (k + n) = seg F k ++ seg (fun i => F (k + i)) n
  | 0 => by rw [seg_0, List.append_nil]; rfl
  | n + 1 => by rw [← Nat.add_assoc, seg_succ, seg_add k n, seg_succ, List.append_assoc]
theorem seg_split {F : Nat → va_W} {n k : Nat} (h : k < n) : seg F n = seg F k ++ (F k ++ seg (fun i => F (k + 1 + i)) (n - k - 1)) := by
  have e : n = (k + 1) + (n - k - 1) := by omega
  have h1 := seg_add (F := F) (k + 1) (n - k - 1)
  rw [← e, seg_succ, List.append_assoc] at h1
  exact h1
theorem seg_up {F : Nat → va_W} {n k : Nat} {x : va_W} (h : k < n) : seg F k ++ (x ++ seg (fun i => F (k + 1 + i)) (n - k - 1)) = seg (va_up F k x) n := by
  rw [seg_split (F := va_up F k x) h, va_up_self]
  rw [seg_congr k (fun i hi => (va_up_ne F x (Nat.ne_of_lt hi)).symm)]
  congr 2
  exact seg_congr _ (fun i _ => (va_up_ne F x (by omega)).symm)
