/-! blocks, class and model -/
theorem fit_b {f : Nat → Int32} {j : Nat} {b : Int32} (h : sb_Fit f) : sb_Fit (upd f j b.toInt8.toInt32) := sb_fitU h (pk_fb b)
theorem byte_upd {f : Nat → Int32} {j : Nat} {b : Int32} (h : ∀ i, (f i).toInt8.toInt32 = f i) : ∀ i, (upd f j b.toInt8.toInt32 i).toInt8.toInt32 = upd f j b.toInt8.toInt32 i := fun i => by
  unfold upd
  split
  · exact byte2 b
  · exact h i
theorem fit_of {f : Nat → Int32} (h : ∀ i, (f i).toInt8.toInt32 = f i) : sb_Fit f := fun j => by
  rw [← h j]
  exact pk_fb _
theorem cel_ne {k c j k' c' j' : Nat} (hj : j < 32) (hj' : j' < 32) (hc : c ≤ 1) (hc' : c' ≤ 1) (h : k ≠ k' ∨ c ≠ c' ∨ j ≠ j') : cel k c j ≠ cel k' c' j' := by
  unfold cel
  omega
theorem smR_cel {cp : Nat → Int32} {b c n : Nat} : smR cp b c n = sumF (fun i => cp (cel b c i)) n := rfl
theorem Bk_keep {b : BT} {k : Nat} {oc oc' : Nat → Nat} {cp cp' su su' : Nat → Int32} (h : BkI b k oc cp su) (h1 : oc' (k + 1) = oc (k + 1)) (h2 : ∀ c j, c ≤ 1 → j < 32 → cp' (cel (k + 1) c j) = cp (cel (k + 1) c j)) (h3 : su' (2 * (k + 1)) = su (2 * (k + 1))) (h4 : su' (2 * (k + 1) + 1) = su (2 * (k + 1) + 1)) : BkI b k oc' cp' su' := by
  obtain ⟨a1, a2, a3, a4, a5, a6, a7, a8⟩ := h
  exact ⟨a1, a2, h1.trans a3, a4, a5, fun j hj => ⟨(h2 0 j (by omega) (by omega)).trans (a6 j hj).1, (h2 1 j (by omega) (by omega)).trans (a6 j hj).2⟩, h3.trans a7, h4.trans a8⟩
theorem st_block {nb : Nat} {B : Nat → BT} {oc : Nat → Nat} {cp su : Nat → Int32} {x : Int64} {z z' : Int32} {u : Nat × (Nat → BT)} {u' : Nat × (Nat → Nat) × (Nat → Int32)} (hR : RBlk nb B oc cp su) (h7 : (fun z u => ((∀ k, 1 ≤ k → k ≤ 32 → x ≠ lN k) ∧ z = (-2) ∧ u = (nb, B)) ∨ ∃ k, 1 ≤ k ∧ k ≤ 32 ∧ x = lN k ∧ ((20 ≤ nb ∧ z = (-4) ∧ u = (nb, B)) ∨ (nb < 20 ∧ z = nI (nb + 1) ∧ ∃ q v, u = (nb + 1, va_up B nb (newB q k v))))) z u) (h8 : (fun z u => ((∀ k, 1 ≤ k → k ≤ 32 → x ≠ lN k) ∧ z = (-2) ∧ u = (nb, oc, su)) ∨ ∃ k, 1 ≤ k ∧ k ≤ 32 ∧ x = lN k ∧ ((20 ≤ nb ∧ z = (-4) ∧ u = (nb, oc, su)) ∨ (nb < 20 ∧ z = nI (nb + 1) ∧ u = (nb + 1, va_up oc (nb + 1) k, upd (upd su (2 * (nb + 1)) (smR cp (nb + 1) 0 k)) (2 * (nb + 1) + 1) (smR cp (nb + 1) 1 k))))) z' u') : z = z' ∧ u'.1 = u.1 ∧ RBlk u.1 u.2 u'.2.1 cp u'.2.2 := by
  obtain ⟨q1, q2, q3, q4, q5⟩ := id hR
  rcases h7 with ⟨hb, rfl, rfl⟩ | ⟨k, k1, k2, k3, h7⟩
  · rcases h8 with ⟨-, rfl, rfl⟩ | ⟨k, k1, k2, k3, -⟩
    · exact ⟨rfl, rfl, hR⟩
    · exact absurd k3 (hb _ k1 k2)
  · rcases h8 with ⟨hb, -⟩ | ⟨k', k1', k2', k3', h8⟩
    · exact absurd k3 (hb _ k1 k2)
    · have e : k = k' := (pk_lEQ (by omega) (by omega)).mp (k3.symm.trans k3')
      subst e
      rcases h7 with ⟨g, rfl, rfl⟩ | ⟨g, rfl, q, v, rfl⟩
      · rcases h8 with ⟨-, rfl, rfl⟩ | ⟨g1, -⟩
        · exact ⟨rfl, rfl, hR⟩
        · omega
      · rcases h8 with ⟨g1, -⟩ | ⟨-, rfl, rfl⟩
        · omega
        · refine ⟨rfl, rfl, by show nb + 1 ≤ 20; omega, fun i hi => ?_, le_up q3 k2, q4, fun k c j a b c => q5 k _ j (by have a : nb + 1 < k := a; omega) b c⟩
          have hi : i < nb + 1 := hi
          show BkI (va_up B nb (newB q k v) i) i _ _ _
          by_cases e : i = nb
          · subst e
            rw [va_up_self]
            have hz : ∀ c, c ≤ 1 → smR cp (i + 1) c k = sumF (fun _ => (0 : Int32)) k := fun c hc => sumF_congr k (fun j hj => q5 (i + 1) c j (by omega) hc (by omega))
            refine ⟨k1, k2, ?_, sb_fit0, sb_fit0, fun j hj => ⟨q5 (i + 1) 0 j (by omega) (by omega) (by have hj : j < k := hj; omega), q5 (i + 1) 1 j (by omega) (by omega) (by have hj : j < k := hj; omega)⟩, ?_, ?_⟩
            · exact va_up_self _ _ _
            · show upd (upd su (2 * (i + 1)) (smR cp (i + 1) 0 k)) (2 * (i + 1) + 1) (smR cp (i + 1) 1 k) (2 * (i + 1)) = sumF (fun _ => (0 : Int32)) k
              rw [pk_un (by omega), pk_us, hz 0 (by omega)]
            · show upd (upd su (2 * (i + 1)) (smR cp (i + 1) 0 k)) (2 * (i + 1) + 1) (smR cp (i + 1) 1 k) (2 * (i + 1) + 1) = sumF (fun _ => (0 : Int32)) k
              rw [pk_us, hz 1 (by omega)]
          · rw [va_up_ne _ _ e]
            refine Bk_keep (q2 i (by omega)) (va_up_ne _ _ (by omega)) (fun _ _ _ _ => rfl) ?_ ?_
            · show upd (upd su _ _) _ _ _ = _
              rw [pk_un (by omega), pk_un (by omega)]
            · show upd (upd su _ _) _ _ _ = _
              rw [pk_un (by omega), pk_un (by omega)]
theorem st_write {nb : Nat} {B : Nat → BT} {oc : Nat → Nat} {cp su : Nat → Int32} {x y b : Int32} {z z' : Int32} {u : Nat → BT} {u' : (Nat → Int32) × (Nat → Int32)} (hR : RBlk nb B oc cp su) (h7 : (fun z u => ((∀ k, 1 ≤ k → k ≤ nb → x ≠ nI k) ∧ z = (-1) ∧ u = B) ∨ ∃ k, k < nb ∧ x = nI (k + 1) ∧ (((∀ j, j < (B k).2.1 → y ≠ nI j) ∧ z = (-2) ∧ u = B) ∨ ∃ j, j < (B k).2.1 ∧ y = nI j ∧ z = nI 1 ∧ u = va_up B k (setB (B k) j b))) z u) (h8 : (fun z u => ((∀ k, 1 ≤ k → k ≤ nb → x ≠ nI k) ∧ z = (-1) ∧ u = (cp, su)) ∨ ∃ k, 1 ≤ k ∧ k ≤ nb ∧ x = nI k ∧ (((∀ j, j < oc k → y ≠ nI j) ∧ z = (-2) ∧ u = (cp, su)) ∨ ∃ j, j < oc k ∧ y = nI j ∧ z = nI 1 ∧ u = (upd (upd cp (32 * (2 * k + 0) + j) (b.toInt8.toInt32)) (32 * (2 * k + 1) + j) (b.toInt8.toInt32), upd (upd su (2 * k + 0) (smR (upd cp (32 * (2 * k + 0) + j) (b.toInt8.toInt32)) k 0 (oc k))) (2 * k + 1) (smR (upd (upd cp (32 * (2 * k + 0) + j) (b.toInt8.toInt32)) (32 * (2 * k + 1) + j) (b.toInt8.toInt32)) k 1 (oc k))))) z' u') : z = z' ∧ RBlk nb u oc u'.1 u'.2 := by
  obtain ⟨q1, q2, q3, q4, q5⟩ := id hR
  rcases h7 with ⟨hb, rfl, rfl⟩ | ⟨k, k1, k3, h7⟩
  · rcases h8 with ⟨-, rfl, rfl⟩ | ⟨k, k1, k2, k3, -⟩
    · exact ⟨rfl, hR⟩
    · exact absurd k3 (hb _ k1 k2)
  · rcases h8 with ⟨hb, -⟩ | ⟨k', k1', k2', k3', h8⟩
    · exact absurd k3 (hb _ (by omega) (by omega))
    · have e : k + 1 = k' := (nI_eq (by omega) (by omega)).mp (k3.symm.trans k3')
      subst e
      obtain ⟨a1, a2, a3, a4, a5, a6, a7, a8⟩ := q2 k k1
      rw [a3] at h8
      rcases h7 with ⟨hb, rfl, rfl⟩ | ⟨j, j1, j2, rfl, rfl⟩
      · rcases h8 with ⟨-, rfl, rfl⟩ | ⟨j, j1, j2, -⟩
        · exact ⟨rfl, hR⟩
        · exact absurd j2 (hb _ j1)
      · rcases h8 with ⟨hb, -⟩ | ⟨j', j1', j2', rfl, rfl⟩
        · exact absurd j2 (hb _ j1)
        · have e : j = j' := (nI_eq (by omega) (by omega)).mp (j2.symm.trans j2')
          subst e
          have c0 : ∀ m, m < 32 → m ≠ j → upd (upd cp (cel (k + 1) 0 j) b.toInt8.toInt32) (cel (k + 1) 1 j) b.toInt8.toInt32 (cel (k + 1) 0 m) = cp (cel (k + 1) 0 m) := fun m hm hne => by rw [pk_un (cel_ne hm (by omega) (by omega) (by omega) (Or.inr (Or.inl (by omega)))), pk_un (cel_ne hm (by omega) (by omega) (by omega) (Or.inr (Or.inr hne)))]
          have c1 : ∀ m, m < 32 → m ≠ j → upd (upd cp (cel (k + 1) 0 j) b.toInt8.toInt32) (cel (k + 1) 1 j) b.toInt8.toInt32 (cel (k + 1) 1 m) = cp (cel (k + 1) 1 m) := fun m hm hne => by rw [pk_un (cel_ne hm (by omega) (by omega) (by omega) (Or.inr (Or.inr hne))), pk_un (cel_ne hm (by omega) (by omega) (by omega) (Or.inr (Or.inl (by omega))))]
          have d0 : upd (upd cp (cel (k + 1) 0 j) b.toInt8.toInt32) (cel (k + 1) 1 j) b.toInt8.toInt32 (cel (k + 1) 0 j) = b.toInt8.toInt32 := by rw [pk_un (cel_ne (by omega) (by omega) (by omega) (by omega) (Or.inr (Or.inl (by omega)))), pk_us]
          have d1 : upd (upd cp (cel (k + 1) 0 j) b.toInt8.toInt32) (cel (k + 1) 1 j) b.toInt8.toInt32 (cel (k + 1) 1 j) = b.toInt8.toInt32 := pk_us
          have x0 : ∀ m, m < (B k).2.1 → upd (upd cp (cel (k + 1) 0 j) b.toInt8.toInt32) (cel (k + 1) 1 j) b.toInt8.toInt32 (cel (k + 1) 0 m) = upd (B k).2.2.1.2.2.1 j b.toInt8.toInt32 m := fun m hm => by
            by_cases e : m = j
            · subst e
              rw [d0, pk_us]
            · rw [c0 m (by omega) e, pk_un e]
              exact (a6 m hm).1
          have x1 : ∀ m, m < (B k).2.1 → upd (upd cp (cel (k + 1) 0 j) b.toInt8.toInt32) (cel (k + 1) 1 j) b.toInt8.toInt32 (cel (k + 1) 1 m) = upd (B k).2.2.2.2.2.1 j b.toInt8.toInt32 m := fun m hm => by
            by_cases e : m = j
            · subst e
              rw [d1, pk_us]
            · rw [c1 m (by omega) e, pk_un e]
              exact (a6 m hm).2
          have s0 : smR (upd cp (cel (k + 1) 0 j) b.toInt8.toInt32) (k + 1) 0 (B k).2.1 = sumF (upd (B k).2.2.1.2.2.1 j b.toInt8.toInt32) (B k).2.1 := sumF_congr _ (fun m hm => by
            show upd cp (cel (k + 1) 0 j) b.toInt8.toInt32 (cel (k + 1) 0 m) = _
            rw [← x0 m hm, pk_un (k := cel (k + 1) 1 j) (cel_ne (by omega) (by omega) (by omega) (by omega) (Or.inr (Or.inl (by omega))))])
          have s1 : smR (upd (upd cp (cel (k + 1) 0 j) b.toInt8.toInt32) (cel (k + 1) 1 j) b.toInt8.toInt32) (k + 1) 1 (B k).2.1 = sumF (upd (B k).2.2.2.2.2.1 j b.toInt8.toInt32) (B k).2.1 := sumF_congr _ (fun m hm => x1 m hm)
          refine ⟨rfl, q1, fun i hi => ?_, q3, byte_upd (byte_upd q4), fun i c m a b c' => ?_⟩
          · by_cases e : i = k
            · subst e
              rw [va_up_self]
              refine ⟨a1, a2, a3, fit_b a4, fit_b a5, fun m hm => ⟨x0 m hm, x1 m hm⟩, ?_, ?_⟩
              · show upd (upd su (2 * (i + 1) + 0) (smR (upd cp (cel (i + 1) 0 j) b.toInt8.toInt32) (i + 1) 0 (B i).2.1)) (2 * (i + 1) + 1) _ (2 * (i + 1)) = sumF (upd (B i).2.2.1.2.2.1 j b.toInt8.toInt32) (B i).2.1
                rw [pk_un (by omega), ← s0]
                exact pk_us
              · show upd (upd su _ _) (2 * (i + 1) + 1) (smR (upd (upd cp (cel (i + 1) 0 j) b.toInt8.toInt32) (cel (i + 1) 1 j) b.toInt8.toInt32) (i + 1) 1 (B i).2.1) (2 * (i + 1) + 1) = sumF (upd (B i).2.2.2.2.2.1 j b.toInt8.toInt32) (B i).2.1
                rw [pk_us, s1]
            · rw [va_up_ne _ _ e]
              refine Bk_keep (q2 i hi) rfl (fun c m hc hm => ?_) ?_ ?_
              · show upd (upd cp (cel (k + 1) 0 j) _) (cel (k + 1) 1 j) _ (cel (i + 1) c m) = _
                rw [pk_un (cel_ne hm (by omega) hc (by omega) (Or.inl (by omega))), pk_un (cel_ne hm (by omega) hc (by omega) (Or.inl (by omega)))]
              · show upd (upd su _ _) _ _ _ = _
                rw [pk_un (by omega), pk_un (by omega)]
              · show upd (upd su _ _) _ _ _ = _
                rw [pk_un (by omega), pk_un (by omega)]
          · show upd (upd cp (cel (k + 1) 0 j) _) (cel (k + 1) 1 j) _ (cel i c m) = 0
            rw [pk_un (cel_ne c' (by omega) b (by omega) (Or.inl (by omega))), pk_un (cel_ne c' (by omega) b (by omega) (Or.inl (by omega)))]
            exact q5 i c m a b c'
theorem st_poke {nb : Nat} {B : Nat → BT} {oc : Nat → Nat} {cp su : Nat → Int32} {x cy y mk : Int32} {z z' : Int32} {u : Nat → BT} {u' : Nat → Int32} (hR : RBlk nb B oc cp su) (h7 : (fun z u => (((∀ k, 1 ≤ k → k ≤ nb → x ≠ nI k) ∨ (cy ≠ nI 1 ∧ cy ≠ nI 2)) ∧ z = (-1) ∧ u = B) ∨ ∃ k, k < nb ∧ x = nI (k + 1) ∧ (cy = nI 1 ∨ cy = nI 2) ∧ (((∀ j, j < (B k).2.1 → y ≠ nI j) ∧ z = (-2) ∧ u = B) ∨ ∃ j, j < (B k).2.1 ∧ y = nI j ∧ ((cy = nI 1 ∧ u = va_up B k (pok1 (B k) j mk) ∧ z = ((B k).2.2.1.2.2.1 j ^^^ mk).toInt8.toInt32 &&& nI 255) ∨ (cy = nI 2 ∧ u = va_up B k (pok2 (B k) j mk) ∧ z = ((B k).2.2.2.2.2.1 j ^^^ mk).toInt8.toInt32 &&& nI 255)))) z u) (h8 : (fun z u => (((∀ k, 1 ≤ k → k ≤ nb → x ≠ nI k) ∨ (cy ≠ nI 1 ∧ cy ≠ nI 2)) ∧ z = (-1) ∧ u = cp) ∨ ∃ k d, 1 ≤ k ∧ k ≤ nb ∧ x = nI k ∧ 1 ≤ d ∧ d ≤ 2 ∧ cy = nI d ∧ (((∀ j, j < oc k → y ≠ nI j) ∧ z = (-2) ∧ u = cp) ∨ ∃ j, j < oc k ∧ y = nI j ∧ u = upd cp (cel k (d - 1) j) ((cp (cel k (d - 1) j) ^^^ mk).toInt8.toInt32) ∧ z = (cp (cel k (d - 1) j) ^^^ mk).toInt8.toInt32 &&& nI 255)) z' u') : z = z' ∧ RBlk nb u oc u' su := by
  obtain ⟨q1, q2, q3, q4, q5⟩ := id hR
  rcases h7 with ⟨hb, rfl, rfl⟩ | ⟨k, k1, k3, hc, h7⟩
  · rcases h8 with ⟨-, rfl, rfl⟩ | ⟨k, d, k1, k2, k3, d1, d2, d3, -⟩
    · exact ⟨rfl, hR⟩
    · rcases hb with hb | hb
      · exact absurd k3 (hb _ k1 k2)
      · rcases (show d = 1 ∨ d = 2 by omega) with rfl | rfl
        · exact absurd d3 hb.1
        · exact absurd d3 hb.2
  · rcases h8 with ⟨hb, -⟩ | ⟨k', d, k1', k2', k3', d1, d2, d3, h8⟩
    · rcases hb with hb | hb
      · exact absurd k3 (hb _ (by omega) (by omega))
      · rcases hc with hc | hc
        · exact absurd hc hb.1
        · exact absurd hc hb.2
    · have e : k + 1 = k' := (nI_eq (by omega) (by omega)).mp (k3.symm.trans k3')
      subst e
      obtain ⟨a1, a2, a3, a4, a5, a6, a7, a8⟩ := q2 k k1
      rw [a3] at h8
      rcases h7 with ⟨hb, rfl, rfl⟩ | ⟨j, j1, j2, h7⟩
      · rcases h8 with ⟨-, rfl, rfl⟩ | ⟨j, j1, j2, -⟩
        · exact ⟨rfl, hR⟩
        · exact absurd j2 (hb _ j1)
      · rcases h8 with ⟨hb, -⟩ | ⟨j', j1', j2', rfl, rfl⟩
        · exact absurd j2 (hb _ j1)
        · have e : j = j' := (nI_eq (by omega) (by omega)).mp (j2.symm.trans j2')
          subst e
          have rest : ∀ (c : Nat) (nbk : BT), c ≤ 1 → BkI nbk k oc (upd cp (cel (k + 1) c j) ((cp (cel (k + 1) c j) ^^^ mk).toInt8.toInt32)) su → RBlk nb (va_up B k nbk) oc (upd cp (cel (k + 1) c j) ((cp (cel (k + 1) c j) ^^^ mk).toInt8.toInt32)) su := by
            intro c nbk hc hk
            refine ⟨q1, fun i hi => ?_, q3, byte_upd q4, fun i c' m a b g => ?_⟩
            · by_cases e : i = k
              · subst e
                rw [va_up_self]
                exact hk
              · rw [va_up_ne _ _ e]
                exact Bk_keep (q2 i hi) rfl (fun c' m hc' hm => pk_un (cel_ne hm (by omega) hc' hc (Or.inl (by omega)))) rfl rfl
            · rw [pk_un (cel_ne g (by omega) b hc (Or.inl (by omega)))]
              exact q5 i c' m a b g
          rcases h7 with ⟨g, rfl, rfl⟩ | ⟨g, rfl, rfl⟩
          · have e : d = 1 := (nI_eq (by omega) (by omega)).mp (d3.symm.trans g)
            subst e
            have ej := (a6 j j1).1
            refine ⟨by show _ = (cp (cel (k + 1) 0 j) ^^^ mk).toInt8.toInt32 &&& nI 255; rw [ej], rest 0 _ (by omega) ⟨a1, a2, a3, fit_b a4, a5, fun m hm => ⟨?_, ?_⟩, a7, a8⟩⟩
            · have hm : m < (B k).2.1 := hm
              show upd cp (cel (k + 1) 0 j) _ (cel (k + 1) 0 m) = upd (B k).2.2.1.2.2.1 j _ m
              by_cases e : m = j
              · subst e
                rw [pk_us, pk_us, ej]
              · rw [pk_un e, pk_un (cel_ne (by omega) (by omega) (by omega) (by omega) (Or.inr (Or.inr e)))]
                exact (a6 m hm).1
            · have hm : m < (B k).2.1 := hm
              show upd cp (cel (k + 1) 0 j) _ (cel (k + 1) 1 m) = (B k).2.2.2.2.2.1 m
              rw [pk_un (cel_ne (by omega) (by omega) (by omega) (by omega) (Or.inr (Or.inl (by omega))))]
              exact (a6 m hm).2
          · have e : d = 2 := (nI_eq (by omega) (by omega)).mp (d3.symm.trans g)
            subst e
            have ej := (a6 j j1).2
            refine ⟨by show _ = (cp (cel (k + 1) 1 j) ^^^ mk).toInt8.toInt32 &&& nI 255; rw [ej], rest 1 _ (by omega) ⟨a1, a2, a3, a4, fit_b a5, fun m hm => ⟨?_, ?_⟩, a7, a8⟩⟩
            · have hm : m < (B k).2.1 := hm
              show upd cp (cel (k + 1) 1 j) _ (cel (k + 1) 0 m) = (B k).2.2.1.2.2.1 m
              rw [pk_un (cel_ne (by omega) (by omega) (by omega) (by omega) (Or.inr (Or.inl (by omega))))]
              exact (a6 m hm).1
            · have hm : m < (B k).2.1 := hm
              show upd cp (cel (k + 1) 1 j) _ (cel (k + 1) 1 m) = upd (B k).2.2.2.2.2.1 j _ m
              by_cases e : m = j
              · subst e
                rw [pk_us, pk_us, ej]
              · rw [pk_un e, pk_un (cel_ne (by omega) (by omega) (by omega) (by omega) (Or.inr (Or.inr e)))]
                exact (a6 m hm).2
theorem RdI_at {cp cp1 V : Nat → Int32} {k n : Nat} (hk : n ≤ 32) (h : RdI cp cp1 V k n) : (∀ m, m < n → cp1 (cel k 0 m) = V m ∧ cp1 (cel k 1 m) = V m) ∧ (∀ i c m, i ≠ k → c ≤ 1 → m < 32 → cp1 (cel i c m) = cp (cel i c m)) :=
  ⟨h.1, fun i c m hi hc hm => h.2 _ (fun j hj => ⟨cel_ne hm (by omega) hc (by omega) (Or.inl hi), cel_ne hm (by omega) hc (by omega) (Or.inl hi)⟩)⟩
theorem fit_mix {f g h : Nat → Int32} {n : Nat} (hf : sb_Fit f) (hg : sb_Fit g) (h1 : ∀ j, j < n → h j = f j) (h2 : ∀ j, n ≤ j → h j = g j) : sb_Fit h := fun j => by
  rcases Nat.lt_or_ge j n with q | q
  · rw [h1 j q]
    exact hf j
  · rw [h2 j q]
    exact hg j
set_option maxHeartbeats 1000000 in
theorem st_read {nb : Nat} {B : Nat → BT} {oc : Nat → Nat} {cp su : Nat → Int32} {x : Int32} {z z' : Int32} {u : Nat → BT} {u' : (Nat → Int32) × (Nat → Int32)} (hR : RBlk nb B oc cp su) (h7 : (fun z u => ((∀ k, 1 ≤ k → k ≤ nb → x ≠ nI k) ∧ z = (-1) ∧ u = B) ∨ ∃ k, k < nb ∧ x = nI (k + 1) ∧ ∃ v, u = va_up B k (repB (B k) v) ∧ RepS ((B k).2.1) ((B k).2.2.1.2.2.1) ((B k).2.2.2.2.2.1) ((B k).2.2.1.2.2.2) ((B k).2.2.2.2.2.2) z v) z u) (h8 : (fun z u => ((∀ k, 1 ≤ k → k ≤ nb → x ≠ nI k) ∧ z = (-1) ∧ u = (cp, su)) ∨ ∃ k, 1 ≤ k ∧ k ≤ nb ∧ x = nI k ∧ ∃ c1, RdS cp su k (oc k) z c1 ∧ u = (c1, upd (upd su (2 * k) (smR c1 k 0 (oc k))) (2 * k + 1) (smR c1 k 1 (oc k)))) z' u') : z = z' ∧ RBlk nb u oc u'.1 u'.2 := by
  obtain ⟨q1, q2, q3, q4, q5⟩ := id hR
  rcases h7 with ⟨hb, rfl, rfl⟩ | ⟨k, k1, k3, v, rfl, h7⟩
  · rcases h8 with ⟨-, rfl, rfl⟩ | ⟨k, k1, k2, k3, -⟩
    · exact ⟨rfl, hR⟩
    · exact absurd k3 (hb _ k1 k2)
  · rcases h8 with ⟨hb, -⟩ | ⟨k', k1', k2', k3', c1, h8, rfl⟩
    · exact absurd k3 (hb _ (by omega) (by omega))
    · have e : k + 1 = k' := (nI_eq (by omega) (by omega)).mp (k3.symm.trans k3')
      subst e
      obtain ⟨a1, a2, a3, a4, a5, a6, a7, a8⟩ := q2 k k1
      obtain ⟨V, hV, h8⟩ := h8
      rw [a3] at h8 hV
      have sm0 : smR cp (k + 1) 0 (B k).2.1 = sumF (B k).2.2.1.2.2.1 (B k).2.1 := sumF_congr _ (fun m hm => (a6 m hm).1)
      have sm1 : smR cp (k + 1) 1 (B k).2.1 = sumF (B k).2.2.2.2.2.1 (B k).2.1 := sumF_congr _ (fun m hm => (a6 m hm).2)
      rw [sm0, sm1, a7, a8] at h8
      obtain ⟨v1, v2⟩ := RdI_at a2 hV
      -- every octet of c1 is an octet
      have fin : ∀ (g1 g2 : Nat → Int32) (s1 s2 : Int32), v = (g1, s1, g2, s2) → sb_Fit g1 → sb_Fit g2 → (∀ m, m < (B k).2.1 → g1 m = V m ∧ g2 m = V m) → s1 = sumF g1 (B k).2.1 → s2 = sumF g2 (B k).2.1 → (∀ m, m < (B k).2.1 → (V m).toInt8.toInt32 = V m) → RBlk nb (va_up B k (repB (B k) v)) oc c1 (upd (upd su (2 * (k + 1)) (smR c1 (k + 1) 0 (oc (k + 1)))) (2 * (k + 1) + 1) (smR c1 (k + 1) 1 (oc (k + 1)))) := by
        rintro g1 g2 s1 s2 rfl f1 f2 hg e1 e2 hb
        have s0 : smR c1 (k + 1) 0 (oc (k + 1)) = s1 := by
          rw [a3, e1]
          exact sumF_congr _ (fun m hm => (v1 m hm).1.trans (hg m hm).1.symm)
        have s9 : smR c1 (k + 1) 1 (oc (k + 1)) = s2 := by
          rw [a3, e2]
          exact sumF_congr _ (fun m hm => (v1 m hm).2.trans (hg m hm).2.symm)
        rw [s0, s9]
        refine ⟨q1, fun i hi => ?_, q3, fun i => ?_, fun i c m a b g => ?_⟩
        · by_cases e : i = k
          · subst e
            rw [va_up_self]
            refine ⟨a1, a2, a3, f1, f2, fun m hm => ⟨(v1 m hm).1.trans (hg m hm).1.symm, (v1 m hm).2.trans (hg m hm).2.symm⟩, ?_, pk_us⟩
            rw [pk_un (by omega)]
            exact pk_us
          · rw [va_up_ne _ _ e]
            refine Bk_keep (q2 i hi) rfl (fun c m hc hm => v2 (i + 1) c m (by omega) hc hm) ?_ ?_
            · rw [pk_un (by omega), pk_un (by omega)]
            · rw [pk_un (by omega), pk_un (by omega)]
        · by_cases h : ∃ m, m < (B k).2.1 ∧ (i = cel (k + 1) 0 m ∨ i = cel (k + 1) 1 m)
          · obtain ⟨m, hm, rfl | rfl⟩ := h
            · rw [(v1 m hm).1]
              exact hb m hm
            · rw [(v1 m hm).2]
              exact hb m hm
          · rw [hV.2 i (fun m hm => ⟨fun e => h ⟨m, hm, Or.inl e⟩, fun e => h ⟨m, hm, Or.inr e⟩⟩)]
            exact q4 i
        · rw [v2 i c m (by omega) b g]
          exact q5 i c m a b g
      rcases h7 with ⟨rfl, y1, g, hv, g1, g2⟩ | ⟨rfl, y1, y2, g, hv, g1, g2⟩ | ⟨rfl, y1, y2, g, g', hv, ⟨g1, g2⟩, g3, g4⟩
      · rcases h8 with ⟨rfl, -, t⟩ | ⟨-, t, -⟩ | ⟨-, t, -⟩
        · have hf : ∀ m, m < (B k).2.1 → (B k).2.2.1.2.2.1 m = V m := fun m hm => by rw [t m hm, (a6 m hm).1]
          refine ⟨rfl, fin _ _ _ _ hv a4 (fit_mix a4 a5 g1 g2) (fun m hm => ⟨hf m hm, (g1 m hm).trans (hf m hm)⟩) y1 (y1.trans (sumF_congr _ (fun m hm => (g1 m hm).symm))) (fun m hm => by rw [t m hm]; exact q4 _)⟩
        · exact absurd y1 t
        · exact absurd y1 t
      · rcases h8 with ⟨-, t, -⟩ | ⟨rfl, -, -, t⟩ | ⟨-, -, t, -⟩
        · exact absurd t y1
        · have hf : ∀ m, m < (B k).2.1 → (B k).2.2.2.2.2.1 m = V m := fun m hm => by rw [t m hm, (a6 m hm).2]
          exact ⟨rfl, fin _ _ _ _ hv (fit_mix a5 a4 g1 g2) a5 (fun m hm => ⟨(g1 m hm).trans (hf m hm), hf m hm⟩) (y2.trans (sumF_congr _ (fun m hm => (g1 m hm).symm))) y2 (fun m hm => by rw [t m hm]; exact q4 _)⟩
        · exact absurd y2 t
      · rcases h8 with ⟨-, t, -⟩ | ⟨-, -, t, -⟩ | ⟨rfl, -, -, t⟩
        · exact absurd t y1
        · exact absurd t y2
        · exact ⟨rfl, fin _ _ _ _ hv (fit_mix sb_fit0 a4 g1 g2) (fit_mix sb_fit0 a5 g3 g4) (fun m hm => ⟨(g1 m hm).trans (t m hm).symm, (g3 m hm).trans (t m hm).symm⟩) rfl rfl (fun m hm => by rw [t m hm]; decide)⟩
