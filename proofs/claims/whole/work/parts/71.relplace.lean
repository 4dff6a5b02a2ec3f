/-! placing is determined -/
theorem FreeO_c {sl gf P P' : Nat → Nat} {i : Nat} (h : ∀ m, m < i → P (gf m) = P' (gf m)) : FreeO sl gf P i = FreeO sl gf P' i := by
  funext a len
  apply propext
  constructor
  · intro q m hm hs
    rw [← h m hm]
    exact q m hm hs
  · intro q m hm hs
    rw [h m hm]
    exact q m hm hs
theorem NoO_c {nr : Nat} {rs re rr sl sa9 sk gf P P' : Nat → Nat} {i q : Nat} (h : ∀ m, m < i → P (gf m) = P' (gf m)) : NoO nr rs re rr sl sa9 sk gf P i q ↔ NoO nr rs re rr sl sa9 sk gf P' i q := by
  unfold NoO
  rw [FreeO_c h]
theorem Ok_bad {nr : Nat} {rs re rr sl sa9 sk gf P P' : Nat → Nat} {i : Nat} (h : ∀ m, m < i → P (gf m) = P' (gf m)) (h1 : OkAt nr rs re rr sl sa9 sk gf P i) (h2 : BadAt nr rs re rr sl sa9 sk gf P' i) : False := by
  obtain ⟨b1, b2⟩ := h2
  rcases h1 with ⟨a1, -⟩ | ⟨-, q, q1, -, q3, l1, l2, l3, l4, -⟩
  · omega
  · rcases (NoO_c h).mpr (b2 q q1) with w | w
    · exact w q3
    · exact w _ l2 l1 l3 l4
theorem Ok_one {nr : Nat} {rs re rr sl sa9 sk gf P P' : Nat → Nat} {i : Nat} (h : ∀ m, m < i → P (gf m) = P' (gf m)) (h1 : OkAt nr rs re rr sl sa9 sk gf P i) (h2 : OkAt nr rs re rr sl sa9 sk gf P' i) : P (gf i) = P' (gf i) := by
  rcases h1 with ⟨a1, a2⟩ | ⟨a1, q, q1, q2, q3, l1, l2, l3, l4, l5⟩
  · rcases h2 with ⟨-, b2⟩ | ⟨b1, -⟩
    · rw [a2, b2]
    · omega
  · rcases h2 with ⟨b1, -⟩ | ⟨-, q', q1', q2', q3', l1', l2', l3', l4', l5'⟩
    · omega
    · have no : ∀ (Z : Nat → Nat) (w : Nat), (∀ m, m < i → Z (gf m) = Z (gf m)) → NoO nr rs re rr sl sa9 sk gf Z i w → rr w &&& sk (gf i) = sk (gf i) → LF (fun b => FreeO sl gf Z i b (sl (gf i))) (rs w) (re w) (sl (gf i)) (sa9 (gf i)) (Z (gf i)) → False := by
        intro Z w _ hn hr hl
        rcases hn with y | y
        · exact y hr
        · exact y _ hl.2.1 hl.1 hl.2.2.1 hl.2.2.2.1
      have eq : q = q' := by
        rcases Nat.lt_trichotomy q q' with e | e | e
        · exact (no P q (fun _ _ => rfl) ((NoO_c h).mpr (q2' q e)) q3 ⟨l1, l2, l3, l4, l5⟩).elim
        · exact e
        · exact (no P' q' (fun _ _ => rfl) ((NoO_c h).mp (q2 q' e)) q3' ⟨l1', l2', l3', l4', l5'⟩).elim
      subst eq
      have hf := FreeO_c (sl := sl) h
      rcases Nat.lt_trichotomy (P (gf i)) (P' (gf i)) with e | e | e
      · exact absurd (by rw [← hf]; exact l4) (l5' _ l2 e l1)
      · exact e
      · exact absurd (by rw [hf]; exact l4') (l5 _ l2' e l1')
theorem Ok_all {nr : Nat} {rs re rr sl sa9 sk gf P P' : Nat → Nat} : ∀ n, (∀ i, i < n → OkAt nr rs re rr sl sa9 sk gf P i) → (∀ i, i < n → OkAt nr rs re rr sl sa9 sk gf P' i) → ∀ i, i < n → P (gf i) = P' (gf i)
  | 0, _, _ => fun i h => absurd h (Nat.not_lt_zero _)
  | n + 1, h1, h2 => by
    have ih := Ok_all n (fun i hi => h1 i (by omega)) (fun i hi => h2 i (by omega))
    intro i hi
    rcases Nat.lt_or_ge i n with q | q
    · exact ih i q
    · have e : i = n := by omega
      subst e
      exact Ok_one ih (h1 i (by omega)) (h2 i (by omega))
theorem cv_1 {k : Nat} (h : k < 40) : cvB (nI (k + 1)) = nI (k + 1) := by
  unfold cvB
  rw [if_neg (nI_ne0 (by omega) (by omega)), b8 (k + 1) (by omega)]
theorem Ce_new {sz ns : Nat} {sl gf P Q : Nat → Nat} {t2 ce : Nat → Int32} (hns : ns ≤ 40) (hO : IsOrd ns sl gf) (hT : TkM t2 sl gf P ns sz) (hc : ∀ x, x < sz → ce x = cvB (t2 x)) (hQ : ∀ m, m < ns → Q m = P m) : CeI sz ns sl Q ce := by
  obtain ⟨o1, o2, o3⟩ := hO
  intro x hx
  by_cases h : ∃ m, m < ns ∧ P (gf m) ≤ x ∧ x < P (gf m) + sl (gf m)
  · obtain ⟨m, m1, m2, m3⟩ := h
    have g := o1 m m1
    have e := hT.1 m m1 x m2 m3
    refine Or.inl ⟨gf m, g, by rw [hQ _ g]; exact m2, by rw [hQ _ g]; exact m3, by rw [hc x hx, e, cv_1 (by omega)], fun j hj a b => ?_⟩
    obtain ⟨i, i1, rfl⟩ := o3 j hj
    rw [hQ _ hj] at a b
    have e2 := hT.1 i i1 x a b
    have e3 := (nI_eq (by omega) (by omega)).mp (e2.symm.trans e)
    omega
  · refine Or.inr ⟨fun j hj q => ?_, ?_⟩
    · obtain ⟨i, i1, rfl⟩ := o3 j hj
      rw [hQ _ hj] at q
      exact h ⟨i, i1, q⟩
    · rw [hc x hx, hT.2 x hx (fun m hm q => h ⟨m, hm, q⟩)]
      decide
theorem cpy_at {f g : Nat → Nat} {n m : Nat} (h : m < n) : va_cpy f g 0 0 n m = f m := by
  unfold va_cpy
  rw [if_pos ⟨Nat.zero_le _, by omega⟩]
  congr 1
  omega
theorem cpy_le {f g : Nat → Nat} {n b : Nat} (h1 : ∀ k, f k ≤ b) (h2 : ∀ k, g k ≤ b) : ∀ k, va_cpy f g 0 0 n k ≤ b := fun k => by
  unfold va_cpy
  split
  · exact h1 _
  · exact h2 _
set_option maxHeartbeats 1000000 in
theorem st_place {sz nr ns lc kc pd np : Nat} {rs re rr sl sa9 sk gf ln al ki last sc km : Nat → Nat} {K : Nat → Nat → Nat} {ce pl kp : Nat → Int32} {z z' : Int32} {u : (Nat × (Nat → Nat) × (Nat → Nat)) × (Nat → Nat) × (Nat × (Nat → Nat) × Nat × (Nat → Nat) × (Nat → Nat → Nat))} {u' : (Nat → Int32) × (Nat → Int32) × (Nat → Int32) × (Nat → Int32) × Nat × Nat × (Nat → Int32) × (Nat → Nat)} (hR : RSec ns sl sa9 sk gf ln al ki) (hQ : RPlc sz ns sl lc kc last sc K pd np km ce pl kp) (h7 : (fun z u => (∀ k, u.1.2.1 k ≤ 65536) ∧ (∀ k, u.1.2.2 k ≤ 65536) ∧ (∀ k, u.2.1 k ≤ 65536) ∧ (((∀ i, i < ns → OkAt nr rs re rr sl sa9 sk gf u.2.1 i) ∧ z = nI 1 ∧ u.2.2 = (ns, va_cpy u.2.1 last 0 0 ns, (if kc < 50 then kc + 1 else kc), (if kc < 50 then va_up sc kc ns else sc), (if kc < 50 then va_up K kc (va_cpy u.2.1 (K kc) 0 0 ns) else K))) ∨ ∃ i, i < ns ∧ (∀ j, j < i → OkAt nr rs re rr sl sa9 sk gf u.2.1 j) ∧ BadAt nr rs re rr sl sa9 sk gf u.2.1 i ∧ z = -(nI (gf i + 1)) ∧ u.2.2 = (lc, last, kc, sc, K))) z u) (h8 : (fun z u => (∀ k, (u.2.1 k).toInt8.toInt32 = u.2.1 k) ∧ ∃ P : Nat → Nat, ((∀ i, i < ns → OkAt nr rs re rr sl sa9 sk gf P i) ∧ z = nI 1 ∧ u.2.2.2.2.1 = ns ∧ u.2.2.2.2.2.1 = np + 1 ∧ (∀ m, m < ns → u.2.2.1 (m + 1) = nI (P m)) ∧ (np + 1 ≤ 50 → (∀ m, m < ns → u.2.2.2.2.2.2.1 (41 * (np + 1) + (m + 1)) = nI (P m)) ∧ (∀ x, (x ≤ 41 * (np + 1) ∨ 41 * (np + 1) + ns < x) → u.2.2.2.2.2.2.1 x = kp x) ∧ u.2.2.2.2.2.2.2 = va_up km (np + 1) ns) ∧ (50 < np + 1 → u.2.2.2.2.2.2.1 = kp ∧ u.2.2.2.2.2.2.2 = km) ∧ ∃ t2, TkM t2 sl gf P ns sz ∧ ∀ x, x < sz → u.2.1 x = cvB (t2 x)) ∨ ∃ i, i < ns ∧ (∀ j, j < i → OkAt nr rs re rr sl sa9 sk gf P j) ∧ BadAt nr rs re rr sl sa9 sk gf P i ∧ z = -(nI (gf i + 1)) ∧ u.2.1 = ce ∧ u.2.2.1 = pl ∧ u.2.2.2.2.1 = pd ∧ u.2.2.2.2.2.1 = np ∧ u.2.2.2.2.2.2.1 = kp ∧ u.2.2.2.2.2.2.2 = km) z' u') : z = z' ∧ u'.2.2.2.2.2.1 ≤ np + 1 ∧ RTak u.1.2.1 u.1.2.2 u.2.1 ∧ RPlc sz ns sl u.2.2.1 u.2.2.2.2.1 u.2.2.2.1 u.2.2.2.2.2.1 u.2.2.2.2.2.2 u'.2.2.2.2.1 u'.2.2.2.2.2.1 u'.2.2.2.2.2.2.2 u'.2.1 u'.2.2.1 u'.2.2.2.2.2.2.1 := by
  obtain ⟨q1, q2, q3, q4, q5, q6, q7, q8, q9, q10⟩ := id hR
  obtain ⟨w1, w2, w3, w4, w5, w6, w7, w8, w9, w10, w11, w12⟩ := id hQ
  obtain ⟨⟨nt', ts', te'⟩, P1, lc', last', kc', sc', K'⟩ := u
  obtain ⟨tk', ce', pl', tl', pd', np', kp', km'⟩ := u'
  obtain ⟨a1, a2, a3, h7⟩ := h7
  obtain ⟨b1, P, h8⟩ := h8
  dsimp only at a1 a2 a3 h7 b1 h8 ⊢
  rcases h7 with ⟨o1, rfl, e7⟩ | ⟨i, i1, i2, i3, rfl, e7⟩
  · rcases h8 with ⟨o2, rfl, f1, f2, p1, p2, p3, t2, p4, p5⟩ | ⟨i, i1, i2, i3, -⟩
    · have hP := Ok_all ns o1 o2
      have hP2 : ∀ m, m < ns → P1 m = P m := fun m hm => by
        obtain ⟨i, i1, rfl⟩ := q10.2.2 m hm
        exact hP i i1
      simp only [Prod.mk.injEq] at e7
      obtain ⟨e1, e2, e3, e4, e5⟩ := e7
      rw [e1, e2, e3, e4, e5, f1, f2]
      refine ⟨rfl, Nat.le_refl _, ⟨a1, a2, a3⟩, Nat.le_refl _, rfl, fun h => by omega, ?_, cpy_le a3 w5, ?_, ?_, ?_, b1, fun m hm => ?_, fun k hk => ?_, ?_⟩
      · by_cases c : kc < 50
        · rw [if_pos c]
          omega
        · rw [if_neg c]
          omega
      · by_cases c : kc < 50
        · rw [if_pos c]
          exact le_up w6 q1
        · rw [if_neg c]
          exact w6
      · by_cases c : kc < 50
        · rw [if_pos c]
          intro i j
          unfold va_up
          split
          · exact cpy_le a3 (fun k => w7 kc k) j
          · exact w7 i j
        · rw [if_neg c]
          exact w7
      · by_cases c : np + 1 ≤ 50
        · rw [(p2 c).2.2]
          exact le_up w8 q1
        · rw [(p3 (by omega)).2]
          exact w8
      · rw [p1 m hm, cpy_at hm, hP2 m hm]
      · by_cases c : kc < 50
        · rw [if_pos c] at hk
          rw [if_pos c, if_pos c]
          obtain ⟨y1, y2, y3⟩ := p2 (by omega)
          have ek : kc = np := by omega
          by_cases e : k = np
          · have e2 : k = kc := by omega
            rw [e2, va_up_self, va_up_self, y3, ek, va_up_self]
            exact ⟨Nat.le_refl _, rfl, fun m hm => by rw [y1 m hm, cpy_at hm, hP2 m hm]⟩
          · have e2 : k ≠ kc := by omega
            rw [va_up_ne _ _ e2, va_up_ne _ _ e2, y3, va_up_ne _ _ (by omega)]
            obtain ⟨v1, v2, v3⟩ := w11 k (by omega)
            refine ⟨by omega, v2, fun m hm => ?_⟩
            rw [y2 _ (Or.inl (by have := w6 k; omega))]
            exact v3 m hm
        · rw [if_neg c] at hk
          rw [if_neg c, if_neg c]
          obtain ⟨y1, y2⟩ := p3 (by omega)
          obtain ⟨v1, v2, v3⟩ := w11 k hk
          rw [y2]
          exact ⟨by omega, v2, fun m hm => by rw [y1]; exact v3 m hm⟩
      · exact Ce_new q1 q10 p4 p5 (fun m hm => by rw [cpy_at hm]; exact hP2 m hm)
    · exact (Ok_bad (Ok_all i (fun j hj => o1 j (by omega)) i2) (o1 i i1) i3).elim
  · rcases h8 with ⟨o2, -⟩ | ⟨i', i1', i2', i3', rfl, rfl, rfl, rfl, rfl, rfl, rfl⟩
    · exact (Ok_bad (Ok_all i (fun j hj => o2 j (by omega)) i2) (o2 i i1) i3).elim
    · have e : i = i' := by
        rcases Nat.lt_trichotomy i i' with e | e | e
        · exact (Ok_bad (Ok_all i (fun j hj => i2' j (by omega)) i2) (i2' i e) i3).elim
        · exact e
        · exact (Ok_bad (Ok_all i' (fun j hj => i2 j (by omega)) i2') (i2 i' e) i3').elim
      subst e
      cases e7
      exact ⟨rfl, by omega, ⟨a1, a2, a3⟩, hQ⟩
