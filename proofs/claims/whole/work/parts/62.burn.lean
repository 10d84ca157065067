theorem burn_eq (p1 p2 p3 : Int32) (a b c : Nat → Int32) : fX6_burn p1 p2 p3 a b c = fX7_burn p1 p2 p3 a b c := by
  unfold fX6_burn fX7_burn
  rw [isb_eq]
  have lo : ∀ x y : Int32, (x < y ∧ ¬ y ≤ x) ∨ (¬ x < y ∧ y ≤ x) := fun x y => by
    by_cases h : x < y
    · exact Or.inl ⟨h, fun q => Int32.not_lt.mpr q h⟩
    · exact Or.inr ⟨h, Int32.not_lt.mp h⟩
  by_cases a1 : p1 < 0
  · have h : fX7_below p1 3 = 0 := by unfold fX7_below; rw [if_pos a1]
    rw [if_pos a1, if_pos h]
  · by_cases a2 : (2:Int32) < p1
    · have h : fX7_below p1 3 = 0 := by
        unfold fX7_below
        rw [if_neg a1, if_pos (show (3:Int32) ≤ p1 by
          rw [Int32.lt_iff_toInt_lt] at a2
          rw [Int32.le_iff_toInt_le]
          have k1 : (2:Int32).toInt = 2 := by decide
          have k2 : (3:Int32).toInt = 3 := by decide
          omega)]
      rw [if_neg a1, if_pos a2, if_pos h]
    · have h3 : vp_in p1 3 := by
        rw [vp_in_iff]
        rw [Int32.lt_iff_toInt_lt] at a1 a2
        have k1 : (2:Int32).toInt = 2 := by decide
        have k0 : (0:Int32).toInt = 0 := by decide
        omega
      obtain ⟨n, hn, rfl⟩ := vp_in_of h3 (by decide)
      rw [if_neg a1, if_neg a2]
      unfold fX7_below
      rcases (show n = 0 ∨ n = 1 ∨ n = 2 by omega) with rfl | rfl | rfl
      all_goals
        rcases lo p2 1024 with ⟨b2, c2⟩ | ⟨b2, c2⟩ <;> rcases lo p2 512 with ⟨b3, c3⟩ | ⟨b3, c3⟩ <;> rcases lo p3 256 with ⟨b5, c5⟩ | ⟨b5, c5⟩ <;> by_cases b1 : p2 < 0 <;> by_cases b4 : p3 < 0 <;> simp (disch := first | decide | assumption) only [if_pos, if_neg]
theorem burn_by {p1 p2 p3 r : Int32} {a b c a' b' c' : Nat → Int32} (ha : Byt a) (hb : Byt b) (hc : Byt c) (e : (r, a', b', c') = fX7_burn p1 p2 p3 a b c) : Byt a' ∧ Byt b' ∧ Byt c' := by
  unfold fX7_burn at e
  by_cases h1 : fX7_below p1 3 = 0
  · rw [if_pos h1] at e
    simp only [Prod.mk.injEq] at e
    obtain ⟨-, rfl, rfl, rfl⟩ := e
    exact ⟨ha, hb, hc⟩
  rw [if_neg h1] at e
  by_cases h2 : fX7_below p2 (if p1 = (1:Int32) then (512:Int32) else (1024:Int32)) = 0
  · rw [if_pos h2] at e
    simp only [Prod.mk.injEq] at e
    obtain ⟨-, rfl, rfl, rfl⟩ := e
    exact ⟨ha, hb, hc⟩
  rw [if_neg h2] at e
  by_cases h3 : fX7_below p3 256 = 0
  · rw [if_pos h3] at e
    simp only [Prod.mk.injEq] at e
    obtain ⟨-, rfl, rfl, rfl⟩ := e
    exact ⟨ha, hb, hc⟩
  rw [if_neg h3] at e
  have hv := below_in (N := 256) h3 (by decide)
  by_cases q0 : p1 = 0
  · rw [if_pos q0] at e
    simp only [Prod.mk.injEq] at e
    obtain ⟨-, rfl, rfl, rfl⟩ := e
    exact ⟨rg_upd ha hv, hb, hc⟩
  rw [if_neg q0] at e
  by_cases q1 : p1 = 1
  · rw [if_pos q1] at e
    simp only [Prod.mk.injEq] at e
    obtain ⟨-, rfl, rfl, rfl⟩ := e
    exact ⟨ha, rg_upd hb hv, hc⟩
  rw [if_neg q1] at e
  by_cases q2 : p1 = 2
  · rw [if_pos q2] at e
    simp only [Prod.mk.injEq] at e
    obtain ⟨-, rfl, rfl, rfl⟩ := e
    exact ⟨ha, hb, rg_upd hc hv⟩
  rw [if_neg q2] at e
  simp only [Prod.mk.injEq] at e
  obtain ⟨-, rfl, rfl, rfl⟩ := e
  exact ⟨ha, hb, hc⟩
