/-- the beam's next place -/
theorem adv_eq {l c : Nat} (hl : l < 40) (hc : c < 24) : ∃ l' c' : Nat, l' < 40 ∧ c' < 24 ∧ ((c < 23 ∧ l' = l ∧ c' = c + 1) ∨ (c = 23 ∧ c' = 0 ∧ ((l < 39 ∧ l' = l + 1) ∨ (l = 39 ∧ l' = 0)))) ∧ fX2_endCycle (nI l) (nI c) = (nI l', nI c') ∧ (if (nI c + 1) = (24:Int32) then ((nI l + 1) - (nI l + 1) / 40 * 40) else nI l) = nI l' ∧ ((nI c + 1) - (nI c + 1) / 24 * 24) = nI c' := by
  have e1 : nI c + 1 = nI (c + 1) := nI_1 c
  have e2 : nI l + 1 = nI (l + 1) := nI_1 l
  unfold fX2_endCycle
  rw [e1, e2]
  have m1 : nI (c + 1) - nI (c + 1) / 24 * 24 = nI ((c + 1) % 24) := pk_rem (by omega) (by decide) (by decide)
  have m2 : nI (l + 1) - nI (l + 1) / 40 * 40 = nI ((l + 1) % 40) := pk_rem (by omega) (by decide) (by decide)
  rw [m1, m2]
  have g1 : ((24:Int32) ≤ nI (c + 1)) ↔ 24 ≤ c + 1 := nI_leI (by decide) (by omega)
  have g2 : (nI (c + 1) = (24:Int32)) ↔ c + 1 = 24 := nI_eq (by omega) (by decide)
  have g3 : (nI (l + 1) < (40:Int32)) ↔ l + 1 < 40 := nI_ltI (by omega) (by decide)
  by_cases h : c = 23
  · rw [if_pos (g1.mpr (by omega)), if_pos (g2.mpr (by omega))]
    by_cases h2 : l = 39
    · rw [if_neg (fun q => by have := g3.mp q; omega)]
      exact ⟨0, 0, by decide, by decide, Or.inr ⟨h, rfl, Or.inr ⟨h2, rfl⟩⟩, rfl, by rw [h2], by rw [h]⟩
    · rw [if_pos (g3.mpr (by omega))]
      refine ⟨l + 1, 0, by omega, by decide, Or.inr ⟨h, rfl, Or.inl ⟨by omega, rfl⟩⟩, rfl, ?_, by rw [h]⟩
      rw [Nat.mod_eq_of_lt (by omega)]
  · rw [if_neg (fun q => by have := g1.mp q; omega), if_neg (fun q => by have := g2.mp q; omega)]
    refine ⟨l, c + 1, hl, by omega, Or.inl ⟨by omega, rfl, rfl⟩, rfl, rfl, ?_⟩
    rw [Nat.mod_eq_of_lt (by omega)]
theorem m3 {f : Nat} (hf : f < 1000) : nI f - nI f / 3 * 3 = nI (f % 3) := pk_rem (by omega) (by decide) (by decide)
theorem m8 {f : Nat} (hf : f < 1000) : nI f - nI f / 8 * 8 = nI (f % 8) := pk_rem (by omega) (by decide) (by decide)
/-- the two ways to paint eight points -/
theorem pnt_ext {g h : Nat → Int32} {b b' : Int32} {f : Nat → Int32} (hb : b = b') : ∀ n, (∀ i, i < n → g i = h i) → pnt g b f n = pnt h b' f n := by
  intro n
  induction n with
  | zero => intro _; rfl
  | succ n ih =>
    intro hg
    show upd (pnt g b f n) (b + nI n).toNatClampNeg (g n) = upd (pnt h b' f n) (b' + nI n).toNatClampNeg (h n)
    rw [ih (fun i hi => hg i (by omega)), hg n (by omega), hb]
theorem paint_eq {k ln idle gl mgl : Int32} {rc pi wc wo po : Nat → Int32} (hg : idle = 0 → gl = mgl ∧ vp_in mgl 8) (hw : Byt wc) : fX2_paintCell k ln (pi 0) (pi 2) (pi 3) idle gl rc po wc wo = fX7_paint k ln idle mgl rc pi wc wo po := by
  unfold fX2_paintCell fX7_paint
  refine pnt_ext (by rw [Int32.mul_comm ln 64]) 8 ?_
  intro i hi
  unfold gX2_paintCell gX7_paint
  show _ = (if fX2_isShowing ln (pi 0) = 0 then pi 3 else _)
  by_cases h1 : fX2_isShowing ln (pi 0) = 0
  · simp only [if_pos h1]
    have z : ((0:Int32) >>> ((7 - nI i) &&& 31)) &&& 1 = 0 := by
      rcases (show i = 0 ∨ i = 1 ∨ i = 2 ∨ i = 3 ∨ i = 4 ∨ i = 5 ∨ i = 6 ∨ i = 7 by omega) with rfl | rfl | rfl | rfl | rfl | rfl | rfl | rfl <;> decide
    rw [if_pos z, if_pos rfl]
  · simp only [if_neg h1]
    by_cases h2 : idle = 0
    · simp only [if_pos h2]
      obtain ⟨e1, e2⟩ := hg h2
      obtain ⟨n, hn, rfl⟩ := vp_in_of e2 (by decide)
      obtain ⟨w, hw2, hw3⟩ := by_of (hw k.toNatClampNeg)
      rw [e1, hw3, m8 (by omega), Nat.mod_eq_of_lt hn, pk_andN (by omega) (m := 63) 6 (by decide), show nI w - nI w / 64 * 64 = nI (w % 64) from pk_rem (by omega) (by decide) (by decide)]
      show (if (if (((rc ((8 * nI (w % 64)) + nI n).toNatClampNeg) >>> ((7 - nI i) &&& 31)) &&& 1) = 0 then (0:Int32) else 1) = 0 then pi 2 else wo k.toNatClampNeg) = (if (((rc ((8 * nI (w % 64)) + nI n).toNatClampNeg) >>> ((7 - nI i) &&& 31)) &&& 1) = 0 then pi 2 else wo k.toNatClampNeg)
      by_cases h3 : (((rc ((8 * nI (w % 64)) + nI n).toNatClampNeg) >>> ((7 - nI i) &&& 31)) &&& 1) = 0
      · rw [if_pos h3, if_pos rfl, if_pos h3]
      · rw [if_neg h3, if_neg (by decide), if_neg h3]
    · simp only [if_neg h2]
      have z : ((0:Int32) >>> ((7 - nI i) &&& 31)) &&& 1 = 0 := by
        rcases (show i = 0 ∨ i = 1 ∨ i = 2 ∨ i = 3 ∨ i = 4 ∨ i = 5 ∨ i = 6 ∨ i = 7 by omega) with rfl | rfl | rfl | rfl | rfl | rfl | rfl | rfl <;> decide
      rw [if_pos z, if_pos rfl]
      rfl
