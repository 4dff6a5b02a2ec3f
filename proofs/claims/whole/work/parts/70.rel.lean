/-! class and model, one beside the other -/
def RReg (sz nr : Nat) (rs re rr fs es ri : Nat → Nat) : Prop := sz ≤ 65536 ∧ nr ≤ 16 ∧ (∀ k, rs k ≤ 65536) ∧ (∀ k, re k ≤ 65536) ∧ (∀ k, fs k ≤ 65536) ∧ (∀ k, es k ≤ 65536) ∧ (∀ k, k < nr → fs (k + 1) = rs k ∧ es (k + 1) = re k ∧ ri (k + 1) = rr k) ∧ ∀ k, k < nr → re k ≤ sz
def RSec (ns : Nat) (sl sa9 sk gf ln al ki : Nat → Nat) : Prop := ns ≤ 40 ∧ (∀ k, sl k ≤ 65536) ∧ (∀ k, sa9 k ≤ 65536) ∧ (∀ k, sk k ≤ 7) ∧ (∀ k, ln k ≤ 65536) ∧ (∀ k, al k ≤ 65536) ∧ (∀ k, ki k ≤ 7) ∧ (∀ k, k < ns → 1 ≤ sa9 k) ∧ (∀ k, k < ns → ln (k + 1) = sl k ∧ al (k + 1) = sa9 k ∧ ki (k + 1) = sk k) ∧ IsOrd ns sl gf
def CeI (sz lc : Nat) (sl last : Nat → Nat) (ce : Nat → Int32) : Prop := ∀ x, x < sz → (∃ i, i < lc ∧ last i ≤ x ∧ x < last i + sl i ∧ ce x = nI (i + 1) ∧ ∀ j, j < lc → last j ≤ x → x < last j + sl j → j = i) ∨ ((∀ j, j < lc → ¬ (last j ≤ x ∧ x < last j + sl j)) ∧ ce x = (-1))
def RPlc (sz ns : Nat) (sl : Nat → Nat) (lc kc : Nat) (last sc : Nat → Nat) (K : Nat → Nat → Nat) (pd np : Nat) (km : Nat → Nat) (ce pl kp : Nat → Int32) : Prop := lc ≤ ns ∧ pd = lc ∧ (np = 0 → lc = 0) ∧ kc = min np 50 ∧ (∀ k, last k ≤ 65536) ∧ (∀ k, sc k ≤ 40) ∧ (∀ i j, K i j ≤ 65536) ∧ (∀ k, km k ≤ 40) ∧ (∀ k, (ce k).toInt8.toInt32 = ce k) ∧ (∀ m, m < lc → pl (m + 1) = nI (last m)) ∧ (∀ k, k < kc → sc k ≤ lc ∧ km (k + 1) = sc k ∧ ∀ m, m < sc k → kp (41 * (k + 1) + (m + 1)) = nI (K k m)) ∧ CeI sz lc sl last ce
def RTak (ts te tr : Nat → Nat) : Prop := (∀ k, ts k ≤ 65536) ∧ (∀ k, te k ≤ 65536) ∧ ∀ k, tr k ≤ 65536
def RFun (stk cm dp st : Nat → Nat) (ca : Nat → Int32) : Prop := st = stk ∧ (∀ k, cm k < 2147483648) ∧ (∀ k, (cm k).testBit 0 = false) ∧ (∀ k, dp k ≤ 900000000) ∧ (∀ k, stk k ≤ 1000000) ∧ CaI ca cm
def BkI (b : BT) (k : Nat) (oc : Nat → Nat) (cp su : Nat → Int32) : Prop := 1 ≤ b.2.1 ∧ b.2.1 ≤ 32 ∧ oc (k + 1) = b.2.1 ∧ sb_Fit b.2.2.1.2.2.1 ∧ sb_Fit b.2.2.2.2.2.1 ∧ (∀ j, j < b.2.1 → cp (cel (k + 1) 0 j) = b.2.2.1.2.2.1 j ∧ cp (cel (k + 1) 1 j) = b.2.2.2.2.2.1 j) ∧ su (2 * (k + 1)) = b.2.2.1.2.2.2 ∧ su (2 * (k + 1) + 1) = b.2.2.2.2.2.2
def RBlk (nb : Nat) (B : Nat → BT) (oc : Nat → Nat) (cp su : Nat → Int32) : Prop := nb ≤ 20 ∧ (∀ k, k < nb → BkI (B k) k oc cp su) ∧ (∀ k, oc k ≤ 32) ∧ (∀ i, (cp i).toInt8.toInt32 = cp i) ∧ ∀ k c j, nb < k → c ≤ 1 → j < 32 → cp (cel k c j) = 0
theorem RegIn_u {sz : Nat} (hsz : sz ≤ 65536) {fr n : Int64} {f k f1 k1 : Nat} (h : RegIn sz fr n f k) (h1 : RegIn sz fr n f1 k1) : f = f1 ∧ k = k1 := by
  obtain ⟨a1, a2, a3, a4⟩ := h
  obtain ⟨b1, b2, b3, b4⟩ := h1
  exact ⟨(pk_lEQ (by omega) (by omega)).mp (a1.symm.trans b1), (pk_lEQ (by omega) (by omega)).mp (a2.symm.trans b2)⟩
theorem le_up {f : Nat → Nat} {n k v : Nat} (h : ∀ i, f i ≤ n) (hv : v ≤ n) : ∀ i, va_up f k v i ≤ n := fun i => by
  unfold va_up
  split
  · exact hv
  · exact h i
theorem st_region {sz nr : Nat} {rs re rr fs es ri : Nat → Nat} {fr n : Int64} {x : Int32} {z z' : Int32} {u : Nat × (Nat → Nat) × (Nat → Nat) × (Nat → Nat)} {u' : Nat × (Nat → Nat) × (Nat → Nat) × (Nat → Nat)} (hR : RReg sz nr rs re rr fs es ri) (h7 : (fun z u => (((∀ f k, ¬ RegIn sz fr n f k) ∨ (∀ j, j ≤ 7 → x ≠ nI j)) ∧ z = (-2) ∧ u = (nr, rs, re, rr)) ∨ ∃ f k j, RegIn sz fr n f k ∧ j ≤ 7 ∧ x = nI j ∧ (((∃ i, i < nr ∧ f < re i ∧ rs i < f + k) ∧ z = (-3) ∧ u = (nr, rs, re, rr)) ∨ ((∀ i, i < nr → ¬ (f < re i ∧ rs i < f + k)) ∧ ((16 ≤ nr ∧ z = (-4) ∧ u = (nr, rs, re, rr)) ∨ (nr < 16 ∧ z = nI (nr + 1) ∧ u = (nr + 1, va_up rs nr f, va_up re nr (f + k), va_up rr nr j)))))) z u) (h8 : (fun z u => (((∀ f k, ¬ RegIn sz fr n f k) ∨ (∀ j, j ≤ 7 → x ≠ nI j)) ∧ z = (-2) ∧ u = (nr, fs, es, ri)) ∨ ∃ f k j, RegIn sz fr n f k ∧ j ≤ 7 ∧ x = nI j ∧ (((∃ i, i < nr ∧ f < es (i + 1) ∧ fs (i + 1) < f + k) ∧ z = (-3) ∧ u = (nr, fs, es, ri)) ∨ ((∀ i, i < nr → ¬ (f < es (i + 1) ∧ fs (i + 1) < f + k)) ∧ ((16 ≤ nr ∧ z = (-4) ∧ u = (nr, fs, es, ri)) ∨ (nr < 16 ∧ z = nI (nr + 1) ∧ u = (nr + 1, va_up fs (nr + 1) f, va_up es (nr + 1) (f + k), va_up ri (nr + 1) j)))))) z' u') : z = z' ∧ u'.1 = u.1 ∧ RReg sz u.1 u.2.1 u.2.2.1 u.2.2.2 u'.2.1 u'.2.2.1 u'.2.2.2 := by
  obtain ⟨q1, q2, q3, q4, q5, q6, q7, q8⟩ := id hR
  rcases h7 with ⟨hb, rfl, rfl⟩ | ⟨f, k, j, r1, r2, r3, h7⟩
  · rcases h8 with ⟨-, rfl, rfl⟩ | ⟨f, k, j, r1, r2, r3, h8⟩
    · exact ⟨rfl, rfl, hR⟩
    · rcases hb with hb | hb
      · exact absurd r1 (hb _ _)
      · exact absurd r3 (hb _ r2)
  · rcases h8 with ⟨hb, rfl, rfl⟩ | ⟨f1, k1, j1, r4, r5, r6, h8⟩
    · rcases hb with hb | hb
      · exact absurd r1 (hb _ _)
      · exact absurd r3 (hb _ r2)
    · obtain ⟨rfl, rfl⟩ := RegIn_u q1 r1 r4
      have e : j = j1 := (nI_eq (by omega) (by omega)).mp (r3.symm.trans r6)
      subst e
      obtain ⟨-, -, r7, r8⟩ := r1
      rcases h7 with ⟨⟨i, i1, i2, i3⟩, rfl, rfl⟩ | ⟨ho, h7⟩
      · rcases h8 with ⟨-, rfl, rfl⟩ | ⟨ho, -⟩
        · exact ⟨rfl, rfl, hR⟩
        · exact absurd (by rw [(q7 i i1).1, (q7 i i1).2.1]; exact ⟨i2, i3⟩) (ho i i1)
      · rcases h8 with ⟨⟨i, i1, i2, i3⟩, rfl, rfl⟩ | ⟨-, h8⟩
        · rw [(q7 i i1).2.1] at i2
          rw [(q7 i i1).1] at i3
          exact absurd ⟨i2, i3⟩ (ho i i1)
        · rcases h7 with ⟨g, rfl, rfl⟩ | ⟨g, rfl, rfl⟩
          · rcases h8 with ⟨-, rfl, rfl⟩ | ⟨g1, -, -⟩
            · exact ⟨rfl, rfl, hR⟩
            · omega
          · rcases h8 with ⟨g1, -, -⟩ | ⟨-, rfl, rfl⟩
            · omega
            · refine ⟨rfl, rfl, q1, by show nr + 1 ≤ 16; omega, le_up q3 (by omega), le_up q4 (by omega), le_up q5 (by omega), le_up q6 (by omega), fun i hi => ?_, fun i hi => ?_⟩
              · have hi : i < nr + 1 := hi
                show va_up fs (nr + 1) f (i + 1) = va_up rs nr f i ∧ va_up es (nr + 1) (f + k) (i + 1) = va_up re nr (f + k) i ∧ va_up ri (nr + 1) j (i + 1) = va_up rr nr j i
                by_cases e : i = nr
                · subst e
                  simp only [va_up_self, and_self]
                · rw [va_up_ne _ _ (by omega), va_up_ne _ _ e, va_up_ne _ _ (by omega), va_up_ne _ _ e, va_up_ne _ _ (by omega), va_up_ne _ _ e]
                  exact q7 i (by omega)
              · have hi : i < nr + 1 := hi
                show va_up re nr (f + k) i ≤ sz
                by_cases e : i = nr
                · subst e
                  rw [va_up_self]
                  exact r8
                · rw [va_up_ne _ _ e]
                  exact q8 i (by omega)
theorem Ord_ins {ns k p : Nat} {sl gf g : Nat → Nat} (h : IsOrd ns sl gf) (hi : InsAt gf g ns p ns) (h1 : p = 0 ∨ k ≤ sl (gf (p - 1))) (h2 : ∀ i, p ≤ i → i < ns → sl (gf i) < k) : IsOrd (ns + 1) (va_up sl ns k) g := by
  obtain ⟨a1, a2, a3⟩ := h
  obtain ⟨b1, b2, b3, b4⟩ := hi
  have old : ∀ i, i < ns → va_up sl ns k (gf i) = sl (gf i) := fun i h => va_up_ne _ _ (by have := a1 i h; omega)
  refine ⟨fun i hi => ?_, fun i j hij hj => ?_, fun q hq => ?_⟩
  · rcases Nat.lt_trichotomy i p with e | e | e
    · rw [b2 i e]
      have := a1 i (by omega)
      omega
    · subst e
      rw [b3]
      omega
    · rw [b4 i e (by omega)]
      have := a1 (i - 1) (by omega)
      omega
  · rcases Nat.lt_trichotomy j p with e | e | e
    · rw [b2 i (by omega), b2 j e, old i (by omega), old j (by omega)]
      exact a2 i j hij (by omega)
    · subst e
      rw [b2 i hij, b3, va_up_self, old i (by omega)]
      have hk : k ≤ sl (gf i) := by
        rcases h1 with h1 | h1
        · omega
        · rcases Nat.lt_or_ge i (j - 1) with y | y
          · have := a2 i (j - 1) y (by omega)
            omega
          · have e : i = j - 1 := by omega
            rw [e]
            exact h1
      have := a1 i (by omega)
      omega
    · rw [b4 j e (by omega), old (j - 1) (by omega)]
      rcases Nat.lt_trichotomy i p with y | y | y
      · rw [b2 i y, old i (by omega)]
        exact a2 i (j - 1) (by omega) (by omega)
      · subst y
        rw [b3, va_up_self]
        exact Or.inl (h2 (j - 1) (by omega) (by omega))
      · rw [b4 i y (by omega), old (i - 1) (by omega)]
        exact a2 (i - 1) (j - 1) (by omega) (by omega)
  · rcases Nat.lt_or_ge q ns with y | y
    · obtain ⟨i, i1, i2⟩ := a3 q y
      rcases Nat.lt_or_ge i p with w | w
      · exact ⟨i, by omega, by rw [b2 i w]; exact i2⟩
      · exact ⟨i + 1, by omega, by rw [b4 (i + 1) (by omega) (by omega)]; exact i2⟩
    · exact ⟨p, by omega, by rw [b3]; omega⟩
theorem Ce_up {sz lc ns k : Nat} {sl last : Nat → Nat} {ce : Nat → Int32} (h : CeI sz lc sl last ce) (hl : lc ≤ ns) : CeI sz lc (va_up sl ns k) last ce := by
  have old : ∀ i, i < lc → va_up sl ns k i = sl i := fun i h => va_up_ne _ _ (by omega)
  intro x hx
  rcases h x hx with ⟨i, i1, i2, i3, i4, i5⟩ | ⟨h1, h2⟩
  · exact Or.inl ⟨i, i1, i2, by rw [old i i1]; exact i3, i4, fun j hj a b => i5 j hj a (by rw [old j hj] at b; exact b)⟩
  · exact Or.inr ⟨fun j hj q => h1 j hj (by rw [old j hj] at q; exact q), h2⟩
theorem st_section {sz ns lc kc pd np : Nat} {sl sa9 sk gf ln al ki last sc km : Nat → Nat} {K : Nat → Nat → Nat} {ce pl kp : Nat → Int32} {n a : Int64} {x : Int32} {z z' : Int32} {u : Nat × (Nat → Nat) × (Nat → Nat) × (Nat → Nat) × (Nat → Nat)} {u' : Nat × Nat × (Nat → Nat) × (Nat → Nat) × (Nat → Nat)} (hR : RSec ns sl sa9 sk gf ln al ki) (hQ : RPlc sz ns sl lc kc last sc K pd np km ce pl kp) (h7 : (fun z u => (((∀ k, k ≤ 65536 → n ≠ lN k) ∨ (∀ k, k ≤ 65536 → a ≠ lN k) ∨ (∀ k, k ≤ 7 → x ≠ nI k)) ∧ z = (-2) ∧ u = (ns, sl, sa9, sk, gf)) ∨ ∃ k d j, k ≤ 65536 ∧ n = lN k ∧ d ≤ 65536 ∧ a = lN d ∧ j ≤ 7 ∧ x = nI j ∧ ((40 ≤ ns ∧ z = (-4) ∧ u = (ns, sl, sa9, sk, gf)) ∨ (ns < 40 ∧ 1 ≤ d ∧ z = nI (ns + 1) ∧ ∃ g, u = (ns + 1, va_up sl ns k, va_up sa9 ns d, va_up sk ns j, g) ∧ ∃ p, InsAt gf g ns p ns ∧ (p = 0 ∨ k ≤ sl (gf (p - 1))) ∧ ∀ i, p ≤ i → i < ns → sl (gf i) < k))) z u) (h8 : (fun z u => (((∀ k, k ≤ 65536 → n ≠ lN k) ∨ (∀ k, k ≤ 65536 → a ≠ lN k) ∨ (∀ k, k ≤ 7 → x ≠ nI k)) ∧ z = (-2) ∧ u = (0, ns, ln, al, ki)) ∨ ∃ k d j, k ≤ 65536 ∧ n = lN k ∧ d ≤ 65536 ∧ a = lN d ∧ j ≤ 7 ∧ x = nI j ∧ ((40 ≤ ns ∧ z = (-4) ∧ u = (0, ns, ln, al, ki)) ∨ (ns < 40 ∧ d = 0 ∧ z = nI 0 ∧ u = (1, ns, ln, al, ki)) ∨ (ns < 40 ∧ 1 ≤ d ∧ z = nI (ns + 1) ∧ u = (0, ns + 1, va_up ln (ns + 1) k, va_up al (ns + 1) d, va_up ki (ns + 1) j)))) z' u') : z = z' ∧ u'.1 = 0 ∧ u'.2.1 = u.1 ∧ RSec u.1 u.2.1 u.2.2.1 u.2.2.2.1 u.2.2.2.2 u'.2.2.1 u'.2.2.2.1 u'.2.2.2.2 ∧ RPlc sz u.1 u.2.1 lc kc last sc K pd np km ce pl kp := by
  obtain ⟨q1, q2, q3, q4, q5, q6, q7, q8, q9, q10⟩ := id hR
  rcases h7 with ⟨hb, rfl, rfl⟩ | ⟨k, d, j, r1, r2, r3, r4, r5, r6, h7⟩
  · rcases h8 with ⟨-, rfl, rfl⟩ | ⟨k, d, j, r1, r2, r3, r4, r5, r6, h8⟩
    · exact ⟨rfl, rfl, rfl, hR, hQ⟩
    · rcases hb with hb | hb | hb
      · exact absurd r2 (hb _ r1)
      · exact absurd r4 (hb _ r3)
      · exact absurd r6 (hb _ r5)
  · rcases h8 with ⟨hb, rfl, rfl⟩ | ⟨k1, d1, j1, t1, t2, t3, t4, t5, t6, h8⟩
    · rcases hb with hb | hb | hb
      · exact absurd r2 (hb _ r1)
      · exact absurd r4 (hb _ r3)
      · exact absurd r6 (hb _ r5)
    · have e1 : k = k1 := (pk_lEQ (by omega) (by omega)).mp (r2.symm.trans t2)
      have e2 : d = d1 := (pk_lEQ (by omega) (by omega)).mp (r4.symm.trans t4)
      have e3 : j = j1 := (nI_eq (by omega) (by omega)).mp (r6.symm.trans t6)
      subst e1
      subst e2
      subst e3
      rcases h7 with ⟨g, rfl, rfl⟩ | ⟨g, g1, rfl, gn, rfl, p, p1, p2, p3⟩
      · rcases h8 with ⟨-, rfl, rfl⟩ | ⟨g2, -⟩ | ⟨g2, -⟩
        · exact ⟨rfl, rfl, rfl, hR, hQ⟩
        · omega
        · omega
      · rcases h8 with ⟨g2, -⟩ | ⟨-, g2, -⟩ | ⟨-, -, rfl, rfl⟩
        · omega
        · omega
        · obtain ⟨w1, w2, w3, w4, w5, w6, w7, w8, w9, w10, w11, w12⟩ := hQ
          refine ⟨rfl, rfl, rfl, ⟨by show ns + 1 ≤ 40; omega, le_up q2 r1, le_up q3 r3, le_up q4 r5, le_up q5 r1, le_up q6 r3, le_up q7 r5, fun i hi => ?_, fun i hi => ?_, Ord_ins q10 p1 p2 p3⟩, by show lc ≤ ns + 1; omega, w2, w3, w4, w5, w6, w7, w8, w9, w10, w11, Ce_up w12 w1⟩
          · have hi : i < ns + 1 := hi
            show 1 ≤ va_up sa9 ns d i
            by_cases e : i = ns
            · subst e
              rw [va_up_self]
              exact g1
            · rw [va_up_ne _ _ e]
              exact q8 i (by omega)
          · have hi : i < ns + 1 := hi
            show va_up ln (ns + 1) k (i + 1) = va_up sl ns k i ∧ va_up al (ns + 1) d (i + 1) = va_up sa9 ns d i ∧ va_up ki (ns + 1) j (i + 1) = va_up sk ns j i
            by_cases e : i = ns
            · subst e
              simp only [va_up_self, and_self]
            · rw [va_up_ne _ _ (by omega), va_up_ne _ _ e, va_up_ne _ _ (by omega), va_up_ne _ _ e, va_up_ne _ _ (by omega), va_up_ne _ _ e]
              exact q9 i (by omega)
theorem st_sectionX {ns : Nat} {ln al ki : Nat → Nat} {n a : Int64} {x : Int32} {z' : Int32} {u' : Nat × Nat × (Nat → Nat) × (Nat → Nat) × (Nat → Nat)} (h7 : (∃ k j, ns < 40 ∧ k ≤ 65536 ∧ n = lN k ∧ a = lN 0 ∧ j ≤ 7 ∧ x = nI j)) (h8 : (fun z u => (((∀ k, k ≤ 65536 → n ≠ lN k) ∨ (∀ k, k ≤ 65536 → a ≠ lN k) ∨ (∀ k, k ≤ 7 → x ≠ nI k)) ∧ z = (-2) ∧ u = (0, ns, ln, al, ki)) ∨ ∃ k d j, k ≤ 65536 ∧ n = lN k ∧ d ≤ 65536 ∧ a = lN d ∧ j ≤ 7 ∧ x = nI j ∧ ((40 ≤ ns ∧ z = (-4) ∧ u = (0, ns, ln, al, ki)) ∨ (ns < 40 ∧ d = 0 ∧ z = nI 0 ∧ u = (1, ns, ln, al, ki)) ∨ (ns < 40 ∧ 1 ≤ d ∧ z = nI (ns + 1) ∧ u = (0, ns + 1, va_up ln (ns + 1) k, va_up al (ns + 1) d, va_up ki (ns + 1) j)))) z' u') : u' = (1, ns, ln, al, ki) := by
  obtain ⟨k, j, g, r1, r2, r4, r5, r6⟩ := h7
  rcases h8 with ⟨hb, -, -⟩ | ⟨k1, d1, j1, t1, t2, t3, t4, t5, t6, h8⟩
  · rcases hb with hb | hb | hb
    · exact absurd r2 (hb _ r1)
    · exact absurd r4 (hb _ (by omega))
    · exact absurd r6 (hb _ r5)
  · have e2 : 0 = d1 := (pk_lEQ (by omega) (by omega)).mp (r4.symm.trans t4)
    rcases h8 with ⟨g2, -⟩ | ⟨-, -, -, rfl⟩ | ⟨-, g2, -⟩
    · omega
    · rfl
    · omega
theorem st_at {sz ns lc kc pd np : Nat} {sl last sc km : Nat → Nat} {K : Nat → Nat → Nat} {ce pl kp : Nat → Int32} {x : Int32} {z z' : Int64} {u' : Unit} (hns : ns ≤ 40) (hQ : RPlc sz ns sl lc kc last sc K pd np km ce pl kp) (h7 : (fun z => ((∀ k, 1 ≤ k → k ≤ ns → x ≠ nI k) ∧ z = (-1)) ∨ ∃ k, k < ns ∧ x = nI (k + 1) ∧ ((lc ≤ k ∧ z = (-3)) ∨ (k < lc ∧ z = lN (last k)))) z) (h8 : (fun z _ => ((∀ k, 1 ≤ k → k ≤ ns → x ≠ nI k) ∧ z = (-1)) ∨ ∃ k, k < ns ∧ x = nI (k + 1) ∧ (((np = 0 ∨ pd ≤ k) ∧ z = (-3)) ∨ (0 < np ∧ k < pd ∧ z = (pl (k + 1)).toInt64))) z' u') : z = z' := by
  obtain ⟨w1, w2, w3, w4, w5, w6, w7, w8, w9, w10, w11, w12⟩ := hQ
  rcases h7 with ⟨hb, rfl⟩ | ⟨k, r1, r2, h7⟩
  · rcases h8 with ⟨-, rfl⟩ | ⟨k, r1, r2, -⟩
    · rfl
    · exact absurd r2 (hb _ (by omega) (by omega))
  · rcases h8 with ⟨hb, -⟩ | ⟨k1, t1, t2, h8⟩
    · exact absurd r2 (hb _ (by omega) (by omega))
    · have e : k + 1 = k1 + 1 := (nI_eq (by omega) (by omega)).mp (r2.symm.trans t2)
      have e : k = k1 := by omega
      subst e
      rcases h7 with ⟨g, rfl⟩ | ⟨g, rfl⟩
      · rcases h8 with ⟨-, rfl⟩ | ⟨g1, g2, -⟩
        · rfl
        · omega
      · rcases h8 with ⟨g1, -⟩ | ⟨-, -, rfl⟩
        · rcases g1 with g1 | g1
          · have := w3 g1
            omega
          · omega
        · rw [w10 k g, nI_l (by have := w5 k; omega)]
theorem mv_eq {f g : Nat → Int32} {F G : Nat → Nat} : ∀ n, (∀ m, m < n → f m = nI (F m) ∧ g m = nI (G m) ∧ F m < 2 ^ 31 ∧ G m < 2 ^ 31) → mvI f g n = mvd F G n
  | 0, _ => rfl
  | n + 1, h => by
    obtain ⟨a, b, c, d⟩ := h n (Nat.lt_succ_self n)
    show mvI f g n + _ = mvd F G n + _
    rw [mv_eq n (fun m hm => h m (by omega)), a, b]
    by_cases e : F n = G n
    · rw [if_pos (by rw [e]), if_pos e]
    · rw [if_neg (fun q => e ((nI_eq c d).mp q)), if_neg e]
theorem st_moved {sz ns lc kc pd np : Nat} {sl last sc km : Nat → Nat} {K : Nat → Nat → Nat} {ce pl kp : Nat → Int32} {x : Int32} {z z' : Int32} {u' : Unit} (hQ : RPlc sz ns sl lc kc last sc K pd np km ce pl kp) (h7 : (fun z => ((∀ k, 1 ≤ k → k ≤ kc → x ≠ nI k) ∧ z = (-1)) ∨ ∃ k, k < kc ∧ x = nI (k + 1) ∧ z = nI (mvd (K k) last (sc k))) z) (h8 : (fun z _ => ((∀ k, 1 ≤ k → k ≤ np → k ≤ 50 → x ≠ nI k) ∧ z = (-1)) ∨ ∃ k, k < np ∧ k < 50 ∧ x = nI (k + 1) ∧ z = nI (mvI (fun m => kp (41 * (k + 1) + (m + 1))) (fun m => pl (m + 1)) (km (k + 1)))) z' u') : z = z' := by
  obtain ⟨w1, w2, w3, w4, w5, w6, w7, w8, w9, w10, w11, w12⟩ := hQ
  rcases h7 with ⟨hb, rfl⟩ | ⟨k, r1, r2, rfl⟩
  · rcases h8 with ⟨-, rfl⟩ | ⟨k, r1, r3, r2, -⟩
    · rfl
    · exact absurd r2 (hb _ (by omega) (by omega))
  · rcases h8 with ⟨hb, -⟩ | ⟨k1, t1, t3, t2, rfl⟩
    · exact absurd r2 (hb _ (by omega) (by omega) (by omega))
    · have e : k + 1 = k1 + 1 := (nI_eq (by omega) (by omega)).mp (r2.symm.trans t2)
      have e : k = k1 := by omega
      subst e
      obtain ⟨v1, v2, v3⟩ := w11 k r1
      rw [v2, mv_eq (F := K k) (G := last) (sc k) (fun m hm => ⟨v3 m hm, w10 m (by omega), by have := w7 k m; omega, by have := w5 m; omega⟩)]
theorem st_cell {sz ns lc kc pd np : Nat} {sl last sc km : Nat → Nat} {K : Nat → Nat → Nat} {ce pl kp : Nat → Int32} {x : Int64} {z z' : Int32} {u : Unit} {u' : Nat} (hsz : sz ≤ 65536) (hQ : RPlc sz ns sl lc kc last sc K pd np km ce pl kp) (h7 : (fun z (_ : Unit) => ∃ k, k < sz ∧ x = lN k ∧ ((∃ i, i < lc ∧ last i ≤ k ∧ k < last i + sl i ∧ z = nI (i + 1) ∧ ∀ j, j < i → ¬ (last j ≤ k ∧ k < last j + sl j)) ∨ ((∀ j, j < lc → ¬ (last j ≤ k ∧ k < last j + sl j)) ∧ z = (-1)))) z u) (h8 : (fun z u => ((∀ k, k < sz → x ≠ lN k) ∧ z = nI 0 ∧ u = 1) ∨ ∃ k, k < sz ∧ x = lN k ∧ z = ce k ∧ u = 0) z' u') : z = z' ∧ u' = 0 := by
  obtain ⟨w1, w2, w3, w4, w5, w6, w7, w8, w9, w10, w11, w12⟩ := hQ
  obtain ⟨k, r1, r2, h7⟩ := h7
  rcases h8 with ⟨hb, -⟩ | ⟨k1, t1, t2, rfl, rfl⟩
  · exact absurd r2 (hb _ r1)
  · have e : k = k1 := (pk_lEQ (by omega) (by omega)).mp (r2.symm.trans t2)
    subst e
    refine ⟨?_, rfl⟩
    rcases h7 with ⟨i, i1, i2, i3, rfl, i4⟩ | ⟨h7, rfl⟩
    · rcases w12 k r1 with ⟨i', j1, j2, j3, j4, j5⟩ | ⟨g, -⟩
      · rw [j4, j5 i i1 i2 i3]
      · exact absurd ⟨i2, i3⟩ (g i i1)
    · rcases w12 k r1 with ⟨i', j1, j2, j3, j4, j5⟩ | ⟨-, g⟩
      · exact absurd ⟨j2, j3⟩ (h7 i' j1)
      · exact g.symm
theorem st_cellX {sz : Nat} {ce : Nat → Int32} {x : Int64} {z' : Int32} {u' : Nat} (h7 : (∀ k, k < sz → x ≠ lN k)) (h8 : (fun z u => ((∀ k, k < sz → x ≠ lN k) ∧ z = nI 0 ∧ u = 1) ∨ ∃ k, k < sz ∧ x = lN k ∧ z = ce k ∧ u = 0) z' u') : u' = 1 := by
  rcases h8 with ⟨-, -, rfl⟩ | ⟨k1, t1, t2, rfl, rfl⟩
  · rfl
  · exact absurd t2 (h7 _ t1)
theorem cn_eq {h : Nat → Int32} {k : Nat} (h0 : k.testBit 0 = false) : ∀ n, (∀ g, 1 ≤ g → g ≤ n → (h g = 0 ↔ k.testBit g = false)) → popc k n = cnR h n
  | 0, _ => by
    unfold popc cnR
    rw [h0]
    rfl
  | n + 1, hh => by
    show popc k n + _ = cnR h n + _
    rw [cn_eq h0 n (fun g a b => hh g a (by omega))]
    by_cases e : h (n + 1) = 0
    · rw [if_pos e, (hh (n + 1) (by omega) (by omega)).mp e]
      rfl
    · have e2 : k.testBit (n + 1) = true := by
        cases q : k.testBit (n + 1) with
        | true => rfl
        | false => exact absurd ((hh (n + 1) (by omega) (by omega)).mpr q) e
      rw [if_neg e, e2]
      rfl
theorem st_call {stk cm dp st : Nat → Nat} {ca : Nat → Int32} {x y : Int32} {z : Int64} {v v' : Int32} {u : (Nat → Nat) × (Nat → Nat)} {u' : (Nat → Nat) × (Nat → Int32)} (hR : RFun stk cm dp st ca) (h7 : (fun v u => (((∀ k, 1 ≤ k → k ≤ 30 → x ≠ nI k) ∨ (∀ k, k ≤ 30 → y ≠ nI k)) ∧ v = (-1) ∧ u = (stk, cm)) ∨ ∃ f g, 1 ≤ f ∧ f ≤ 30 ∧ x = nI f ∧ g ≤ 30 ∧ y = nI g ∧ (((∀ k, k ≤ 1000000 → z ≠ lN k) ∧ v = (-2) ∧ u = (stk, cm)) ∨ ∃ k, k ≤ 1000000 ∧ z = lN k ∧ u = (va_up stk f k, if g = 0 then cm else va_up cm f (cm f ||| 2 ^ g)) ∧ v = nI (popc (u.2 f) 31))) v u) (h8 : (fun v u => (((∀ k, 1 ≤ k → k ≤ 30 → x ≠ nI k) ∨ (∀ k, k ≤ 30 → y ≠ nI k)) ∧ v = (-1) ∧ u = (st, ca)) ∨ ∃ f g, 1 ≤ f ∧ f ≤ 30 ∧ x = nI f ∧ g ≤ 30 ∧ y = nI g ∧ (((∀ k, k ≤ 1000000 → z ≠ lN k) ∧ v = (-2) ∧ u = (st, ca)) ∨ ∃ k, k ≤ 1000000 ∧ z = lN k ∧ u = (va_up st f k, if g = 0 then ca else upd ca (31 * f + g) (nI 1)) ∧ v = nI (cnR (fun m => u.2 (31 * f + m)) 30))) v' u') : v = v' ∧ RFun u.1 u.2 dp u'.1 u'.2 := by
  obtain ⟨rfl, q2, q3, q4, q5, q6⟩ := id hR
  rcases h7 with ⟨hb, rfl, rfl⟩ | ⟨f, g, f1, f2, f3, g1, g2, h7⟩
  · rcases h8 with ⟨-, rfl, rfl⟩ | ⟨f, g, f1, f2, f3, g1, g2, h8⟩
    · exact ⟨rfl, hR⟩
    · rcases hb with hb | hb
      · exact absurd f3 (hb _ f1 f2)
      · exact absurd g2 (hb _ g1)
  · rcases h8 with ⟨hb, -⟩ | ⟨f', g', f1', f2', f3', g1', g2', h8⟩
    · rcases hb with hb | hb
      · exact absurd f3 (hb _ f1 f2)
      · exact absurd g2 (hb _ g1)
    · have e1 : f = f' := (nI_eq (by omega) (by omega)).mp (f3.symm.trans f3')
      have e2 : g = g' := (nI_eq (by omega) (by omega)).mp (g2.symm.trans g2')
      subst e1
      subst e2
      rcases h7 with ⟨hb, rfl, rfl⟩ | ⟨k, k1, k2, hu, rfl⟩
      · rcases h8 with ⟨-, rfl, rfl⟩ | ⟨k, k1, k2, -⟩
        · exact ⟨rfl, hR⟩
        · exact absurd k2 (hb _ k1)
      · rcases h8 with ⟨hb, -⟩ | ⟨k', k1', k2', hu', rfl⟩
        · exact absurd k2 (hb _ k1)
        · have e3 : k = k' := (pk_lEQ (by omega) (by omega)).mp (k2.symm.trans k2')
          subst e3
          have key : RFun u.1 u.2 dp u'.1 u'.2 := by
            subst hu
            subst hu'
            refine ⟨rfl, fun i => ?_, fun i => ?_, q4, le_up q5 k1, fun i j i1 i2 j1 j2 => ?_⟩
            · show (if g = 0 then cm else va_up cm f (cm f ||| 2 ^ g)) i < _
              split
              · exact q2 i
              · unfold va_up
                split
                · exact Nat.or_lt_two_pow (n := 31) (q2 f) (Nat.pow_lt_pow_right (by omega) (by omega))
                · exact q2 i
            · show ((if g = 0 then cm else va_up cm f (cm f ||| 2 ^ g)) i).testBit 0 = false
              split
              · exact q3 i
              · unfold va_up
                split
                · rw [Nat.testBit_or, q3 f, Nat.testBit_two_pow_of_ne (by omega)]
                  rfl
                · exact q3 i
            · show (if g = 0 then ca else upd ca (31 * f + g) (nI 1)) (31 * i + j) = 0 ↔ ((if g = 0 then cm else va_up cm f (cm f ||| 2 ^ g)) i).testBit j = false
              by_cases g0 : g = 0
              · rw [if_pos g0, if_pos g0]
                exact q6 i j i1 i2 j1 j2
              · rw [if_neg g0, if_neg g0]
                by_cases ei : i = f
                · subst ei
                  rw [va_up_self, Nat.testBit_or]
                  by_cases ej : j = g
                  · subst ej
                    rw [pk_us, Nat.testBit_two_pow_self]
                    constructor
                    · intro q
                      exact absurd q (by decide)
                    · intro q
                      simp at q
                  · rw [pk_un (by omega), Nat.testBit_two_pow_of_ne (Ne.symm ej), Bool.or_false]
                    exact q6 i j i1 i2 j1 j2
                · rw [va_up_ne _ _ ei, pk_un (by omega)]
                  exact q6 i j i1 i2 j1 j2
          refine ⟨?_, key⟩
          obtain ⟨-, y2, y3, -, -, y6⟩ := key
          have e31 : (u.2 f).testBit 31 = false := Nat.testBit_lt_two_pow (y2 f)
          show nI (popc (u.2 f) 30 + (if (u.2 f).testBit 31 then 1 else 0)) = nI (cnR (fun m => u'.2 (31 * f + m)) 30)
          rw [e31, cn_eq (h := fun m => u'.2 (31 * f + m)) (y3 f) 30 (fun g a b => y6 f g f1 f2 a b)]
          rfl
theorem st_depth {stk cm dp st : Nat → Nat} {ca : Nat → Int32} {x : Int32} {z z' : Int64} {u : Nat → Nat} {u' : Nat → Int64} (hR : RFun stk cm dp st ca) (h7 : (fun z u => (∀ k, u k ≤ 900000000) ∧ (((∀ k, 1 ≤ k → k ≤ 30 → x ≠ nI k) ∧ z = (-2)) ∨ ∃ k, 1 ≤ k ∧ k ≤ 30 ∧ x = nI k ∧ (((itr cm stk (0, dp) 30).1.testBit k = true ∧ z = lN ((itr cm stk (0, dp) 30).2 k)) ∨ ((itr cm stk (0, dp) 30).1.testBit k = false ∧ z = (-1))))) z u) (h8 : (fun z _ => ((∀ k, 1 ≤ k → k ≤ 30 → x ≠ nI k) ∧ z = (-2)) ∨ ∃ k, 1 ≤ k ∧ k ≤ 30 ∧ x = nI k ∧ (((itr cm st (0, dp) 30).1.testBit k = true ∧ z = lN ((itr cm st (0, dp) 30).2 k)) ∨ ((itr cm st (0, dp) 30).1.testBit k = false ∧ z = (-1)))) z' u') : z = z' ∧ RFun stk cm u st ca := by
  obtain ⟨rfl, q2, q3, q4, q5, q6⟩ := id hR
  obtain ⟨hu, h7⟩ := h7
  refine ⟨?_, rfl, q2, q3, hu, q5, q6⟩
  rcases h7 with ⟨hb, rfl⟩ | ⟨k, k1, k2, k3, h7⟩
  · rcases h8 with ⟨-, rfl⟩ | ⟨k, k1, k2, k3, -⟩
    · rfl
    · exact absurd k3 (hb _ k1 k2)
  · rcases h8 with ⟨hb, -⟩ | ⟨k', k1', k2', k3', h8⟩
    · exact absurd k3 (hb _ k1 k2)
    · have e : k = k' := (nI_eq (by omega) (by omega)).mp (k3.symm.trans k3')
      subst e
      rcases h7 with ⟨g, rfl⟩ | ⟨g, rfl⟩
      · rcases h8 with ⟨-, rfl⟩ | ⟨g1, -⟩
        · rfl
        · rw [g] at g1
          cases g1
      · rcases h8 with ⟨g1, -⟩ | ⟨-, rfl⟩
        · rw [g] at g1
          cases g1
        · rfl
