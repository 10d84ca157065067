theorem c0_0 {w ib mcd cd lo hi ch ms mlo mhi old a x y s fl p po lt ln rs ro f2 en ac : Int32} {ra rA rc rk pi co ky la cn ct : Nat → Int32} (hM : MI po ln rs ro f2 ra rA rc rk pi co la cn ct) (hI : RI a x y s fl p mlo mhi) : QQ ac ln rA rc rk ky (A7 w ib 0 mcd mlo mhi old a x y s fl p po lt ln rs ro f2 en ac ra rA rc rk pi co ky la cn ct) (A3 w ib 0 0 cd lo hi ch ms a x y s fl p po lt ln rs ro f2 en ra rA rc rk pi co ky la cn ct) := by
  obtain ⟨ja, jx, jy, js, jf, jp, jl, jh⟩ := hI
  have hM0 := hM
  obtain ⟨⟨-, -, -, -, -, h5, -⟩, -⟩ := hM0
  have hk := ask_eq (rs := rs) (f2 := f2) (en := en) h5
  unfold A7 A3 fX7_processorCycle fX3_makeAccess
  simp (disch := first | decide | assumption) only [↓if_pos, ↓if_neg]
  unfold fX7_begin fX3_begin
  rw [hk]
  by_cases hq : fX7_asked rs f2 en pi = 0
  · obtain ⟨r, f', e7, e6, hr, hM'⟩ := nx_eq (en := en) (ac := ac) (ky := ky) jp hM
    simp (disch := first | decide | assumption) only [↓if_pos, ↓if_neg, e7, e6, i01]
    rw [jam_eq hr]
    exact QQ_mk (Or.inr ⟨rfl, rfl⟩) (beg_rel hr) ⟨ja, jx, jy, js, jf, (w16 _), jl, jh⟩ hM'
  · by_cases h4 : fX4_has 4 fl = 0
    · have h4' : fX7_is 4 fl = 0 := h4
      obtain ⟨r, f', e7, e6, hr, hM'⟩ := rd_eq (q := p) (en := en) (ac := ac) (ky := ky) (rg_nn jp) hM
      simp (disch := first | decide | assumption) only [↓if_pos, ↓if_neg, e7, e6, i01]
      exact QQ_mk (Or.inr ⟨rfl, rfl⟩) (Or.inr ⟨rfl, Or.inr (Or.inl ⟨rfl, rfl, Or.inl (rfl)⟩)⟩) ⟨ja, jx, jy, js, jf, jp, jl, jh⟩ hM'
    · have h4' : ¬ fX7_is 4 fl = 0 := h4
      obtain ⟨r, f', e7, e6, hr, hM'⟩ := nx_eq (en := en) (ac := ac) (ky := ky) jp hM
      simp (disch := first | decide | assumption) only [↓if_pos, ↓if_neg, e7, e6, i01]
      rw [jam_eq hr]
      exact QQ_mk (Or.inr ⟨rfl, rfl⟩) (beg_rel hr) ⟨ja, jx, jy, js, jf, (w16 _), jl, jh⟩ hM'
theorem c2_1 {w ib cd lo hi ch ms mlo mhi old a x y s fl p po lt ln rs ro f2 en ac : Int32} {ra rA rc rk pi co ky la cn ct : Nat → Int32} (hM : MI po ln rs ro f2 ra rA rc rk pi co la cn ct) (hI : RI a x y s fl p mlo mhi) : QQ ac ln rA rc rk ky (A7 w ib 1 256 mlo mhi old a x y s fl p po lt ln rs ro f2 en ac ra rA rc rk pi co ky la cn ct) (A3 w ib 2 1 cd lo hi ch ms a x y s fl p po lt ln rs ro f2 en ra rA rc rk pi co ky la cn ct) := by
  obtain ⟨ja, jx, jy, js, jf, jp, jl, jh⟩ := hI
  obtain ⟨r, f', e7, e6, hr, hM'⟩ := rd_eq (q := p) (en := en) (ac := ac) (ky := ky) (rg_nn jp) hM
  unfold A7 A3 fX7_processorCycle fX3_makeAccess
  simp (disch := first | decide | assumption) only [↓if_pos, ↓if_neg]
  unfold fX7_interruptStep fX3_interrupt
  simp (disch := first | decide | assumption) only [↓if_pos, ↓if_neg, e7, e6, fX3_endInstruction, fX3_growStack, put_eq, i01, i12, i23, i34, i45, i56, i67]
  exact QQ_mk (Or.inr ⟨rfl, rfl⟩) (Or.inr ⟨rfl, Or.inr (Or.inl ⟨rfl, rfl, Or.inr (Or.inl (rfl))⟩)⟩) ⟨ja, jx, jy, js, jf, jp, jl, jh⟩ hM'
theorem c2_2 {w ib cd lo hi ch ms mlo mhi old a x y s fl p po lt ln rs ro f2 en ac : Int32} {ra rA rc rk pi co ky la cn ct : Nat → Int32} (hM : MI po ln rs ro f2 ra rA rc rk pi co la cn ct) (hI : RI a x y s fl p mlo mhi) : QQ ac ln rA rc rk ky (A7 w ib 2 256 mlo mhi old a x y s fl p po lt ln rs ro f2 en ac ra rA rc rk pi co ky la cn ct) (A3 w ib 2 2 cd lo hi ch ms a x y s fl p po lt ln rs ro f2 en ra rA rc rk pi co ky la cn ct) := by
  obtain ⟨ja, jx, jy, js, jf, jp, jl, jh⟩ := hI
  obtain ⟨po', rs', ro', en', ra', pi', co', la', cn', ct', e7, e6, hM'⟩ := ps_eq (v := p >>> ((8:Int32) &&& (31:Int32))) (en := en) (ac := ac) (ky := ky) js (hi8 jp) hM
  unfold A7 A3 fX7_processorCycle fX3_makeAccess
  simp (disch := first | decide | assumption) only [↓if_pos, ↓if_neg]
  unfold fX7_interruptStep fX3_interrupt
  simp (disch := first | decide | assumption) only [↓if_pos, ↓if_neg, e7, e6, fX3_endInstruction, fX3_growStack, put_eq, i01, i12, i23, i34, i45, i56, i67]
  exact QQ_mk (Or.inr ⟨rfl, rfl⟩) (Or.inr ⟨rfl, Or.inr (Or.inl ⟨rfl, rfl, Or.inr (Or.inr (Or.inl (rfl)))⟩)⟩) ⟨ja, jx, jy, (by_and _), jf, jp, jl, jh⟩ hM'
theorem c2_3 {w ib cd lo hi ch ms mlo mhi old a x y s fl p po lt ln rs ro f2 en ac : Int32} {ra rA rc rk pi co ky la cn ct : Nat → Int32} (hM : MI po ln rs ro f2 ra rA rc rk pi co la cn ct) (hI : RI a x y s fl p mlo mhi) : QQ ac ln rA rc rk ky (A7 w ib 3 256 mlo mhi old a x y s fl p po lt ln rs ro f2 en ac ra rA rc rk pi co ky la cn ct) (A3 w ib 2 3 cd lo hi ch ms a x y s fl p po lt ln rs ro f2 en ra rA rc rk pi co ky la cn ct) := by
  obtain ⟨ja, jx, jy, js, jf, jp, jl, jh⟩ := hI
  obtain ⟨po', rs', ro', en', ra', pi', co', la', cn', ct', e7, e6, hM'⟩ := ps_eq (v := p &&& 255) (en := en) (ac := ac) (ky := ky) js (by_and _) hM
  unfold A7 A3 fX7_processorCycle fX3_makeAccess
  simp (disch := first | decide | assumption) only [↓if_pos, ↓if_neg]
  unfold fX7_interruptStep fX3_interrupt
  simp (disch := first | decide | assumption) only [↓if_pos, ↓if_neg, e7, e6, fX3_endInstruction, fX3_growStack, put_eq, i01, i12, i23, i34, i45, i56, i67]
  exact QQ_mk (Or.inr ⟨rfl, rfl⟩) (Or.inr ⟨rfl, Or.inr (Or.inl ⟨rfl, rfl, Or.inr (Or.inr (Or.inr (Or.inl (rfl))))⟩)⟩) ⟨ja, jx, jy, (by_and _), jf, jp, jl, jh⟩ hM'
theorem c2_4 {w ib cd lo hi ch ms mlo mhi old a x y s fl p po lt ln rs ro f2 en ac : Int32} {ra rA rc rk pi co ky la cn ct : Nat → Int32} (hM : MI po ln rs ro f2 ra rA rc rk pi co la cn ct) (hI : RI a x y s fl p mlo mhi) : QQ ac ln rA rc rk ky (A7 w ib 4 256 mlo mhi old a x y s fl p po lt ln rs ro f2 en ac ra rA rc rk pi co ky la cn ct) (A3 w ib 2 4 cd lo hi ch ms a x y s fl p po lt ln rs ro f2 en ra rA rc rk pi co ky la cn ct) := by
  obtain ⟨ja, jx, jy, js, jf, jp, jl, jh⟩ := hI
  obtain ⟨po', rs', ro', en', ra', pi', co', la', cn', ct', e7, e6, hM'⟩ := ps_eq (v := fl ||| 32) (en := en) (ac := ac) (ky := ky) js (by_or jf (by unfold vp_in; decide)) hM
  unfold A7 A3 fX7_processorCycle fX3_makeAccess
  simp (disch := first | decide | assumption) only [↓if_pos, ↓if_neg]
  unfold fX7_interruptStep fX3_interrupt
  simp (disch := first | decide | assumption) only [↓if_pos, ↓if_neg, e7, e6, fX3_endInstruction, fX3_growStack, put_eq, i01, i12, i23, i34, i45, i56, i67]
  exact QQ_mk (Or.inr ⟨rfl, rfl⟩) (Or.inr ⟨rfl, Or.inr (Or.inl ⟨rfl, rfl, Or.inr (Or.inr (Or.inr (Or.inr (Or.inl (rfl)))))⟩)⟩) ⟨ja, jx, jy, (by_and _), (by_put (by unfold vp_in; decide) jf), jp, jl, jh⟩ hM'
theorem c2_5 {w ib cd lo hi ch ms mlo mhi old a x y s fl p po lt ln rs ro f2 en ac : Int32} {ra rA rc rk pi co ky la cn ct : Nat → Int32} (hM : MI po ln rs ro f2 ra rA rc rk pi co la cn ct) (hI : RI a x y s fl p mlo mhi) : QQ ac ln rA rc rk ky (A7 w ib 5 256 mlo mhi old a x y s fl p po lt ln rs ro f2 en ac ra rA rc rk pi co ky la cn ct) (A3 w ib 2 5 cd lo hi ch ms a x y s fl p po lt ln rs ro f2 en ra rA rc rk pi co ky la cn ct) := by
  obtain ⟨ja, jx, jy, js, jf, jp, jl, jh⟩ := hI
  obtain ⟨r, f', e7, e6, hr, hM'⟩ := rd_eq (q := 8190) (en := en) (ac := ac) (ky := ky) (by decide) hM
  unfold A7 A3 fX7_processorCycle fX3_makeAccess
  simp (disch := first | decide | assumption) only [↓if_pos, ↓if_neg]
  unfold fX7_interruptStep fX3_interrupt
  simp (disch := first | decide | assumption) only [↓if_pos, ↓if_neg, e7, e6, fX3_endInstruction, fX3_growStack, put_eq, i01, i12, i23, i34, i45, i56, i67]
  exact QQ_mk (Or.inr ⟨rfl, rfl⟩) (Or.inr ⟨rfl, Or.inr (Or.inl ⟨rfl, rfl, Or.inr (Or.inr (Or.inr (Or.inr (Or.inr (⟨rfl, rfl⟩)))))⟩)⟩) ⟨ja, jx, jy, js, jf, jp, hr, jh⟩ hM'
theorem c2_6 {w ib cd hi ch ms mlo mhi old a x y s fl p po lt ln rs ro f2 en ac : Int32} {ra rA rc rk pi co ky la cn ct : Nat → Int32} (hM : MI po ln rs ro f2 ra rA rc rk pi co la cn ct) (hI : RI a x y s fl p mlo mhi) : QQ ac ln rA rc rk ky (A7 w ib 6 256 mlo mhi old a x y s fl p po lt ln rs ro f2 en ac ra rA rc rk pi co ky la cn ct) (A3 w ib 2 6 cd mlo hi ch ms a x y s fl p po lt ln rs ro f2 en ra rA rc rk pi co ky la cn ct) := by
  obtain ⟨ja, jx, jy, js, jf, jp, jl, jh⟩ := hI
  obtain ⟨r, f', e7, e6, hr, hM'⟩ := rd_eq (q := 8191) (en := en) (ac := ac) (ky := ky) (by decide) hM
  have hw := word_eq jl hr
  have hc : 256 * r + mlo = mlo + 256 * r := Int32.add_comm _ _
  unfold A7 A3 fX7_processorCycle fX3_makeAccess
  simp (disch := first | decide | assumption) only [↓if_pos, ↓if_neg]
  unfold fX7_interruptStep fX3_interrupt
  simp (disch := first | decide | assumption) only [↓if_pos, ↓if_neg, e7, e6, fX3_endInstruction, fX3_growStack, put_eq, i01, i12, i23, i34, i45, i56, i67, hw.1, hc]
  exact QQ_mk (Or.inr ⟨rfl, rfl⟩) (Or.inr ⟨rfl, Or.inl ⟨rfl, rfl⟩⟩) ⟨ja, jx, jy, js, jf, hw.2, jl, jh⟩ hM'
