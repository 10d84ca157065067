theorem c12_1 {w ib lo hi ch ms mlo mhi old a x y s fl p po lt ln rs ro f2 en ac : Int32} {ra rA rc rk pi co ky la cn ct : Nat → Int32} (hM : MI po ln rs ro f2 ra rA rc rk pi co la cn ct) (hI : RI a x y s fl p mlo mhi) : QQ ac ln rA rc rk ky (A7 w ib 1 96 mlo mhi old a x y s fl p po lt ln rs ro f2 en ac ra rA rc rk pi co ky la cn ct) (A3 w ib 12 1 96 lo hi ch ms a x y s fl p po lt ln rs ro f2 en ra rA rc rk pi co ky la cn ct) := by
  obtain ⟨ja, jx, jy, js, jf, jp, jl, jh⟩ := hI
  obtain ⟨r, f', e7, e6, hr, hM'⟩ := rd_eq (q := p) (en := en) (ac := ac) (ky := ky) (rg_nn jp) hM
  unfold A7 A3 fX7_processorCycle fX3_makeAccess
  simp (disch := first | decide | assumption) only [↓if_pos, ↓if_neg]
  unfold fX7_jumpStep fX7_returnStep fX3_returnFromCall
  simp (disch := first | decide | assumption) only [↓if_pos, ↓if_neg, e7, e6, fX3_endInstruction, fX3_growStack, put_eq, i01, i12, i23, i34, i45, i56, i67]
  exact QQ_mk (Or.inr ⟨rfl, rfl⟩) (Or.inr ⟨rfl, Or.inr (Or.inr ⟨rfl, (by unfold vp_in; decide), (by decide), Or.inr (Or.inr (Or.inr (Or.inr (Or.inr (Or.inr (Or.inr (Or.inr (Or.inr (Or.inl (⟨rfl, Or.inr (Or.inl rfl)⟩))))))))))⟩)⟩) ⟨ja, jx, jy, js, jf, jp, jl, jh⟩ hM'
theorem c12_2 {w ib lo hi ch ms mlo mhi old a x y s fl p po lt ln rs ro f2 en ac : Int32} {ra rA rc rk pi co ky la cn ct : Nat → Int32} (hM : MI po ln rs ro f2 ra rA rc rk pi co la cn ct) (hI : RI a x y s fl p mlo mhi) : QQ ac ln rA rc rk ky (A7 w ib 2 96 mlo mhi old a x y s fl p po lt ln rs ro f2 en ac ra rA rc rk pi co ky la cn ct) (A3 w ib 12 2 96 lo hi ch ms a x y s fl p po lt ln rs ro f2 en ra rA rc rk pi co ky la cn ct) := by
  obtain ⟨ja, jx, jy, js, jf, jp, jl, jh⟩ := hI
  obtain ⟨r, f', e7, e6, hr, hM'⟩ := pl_eq 1 (en := en) (ac := ac) (ky := ky) js hM
  unfold A7 A3 fX7_processorCycle fX3_makeAccess
  simp (disch := first | decide | assumption) only [↓if_pos, ↓if_neg]
  unfold fX7_jumpStep fX7_returnStep fX3_returnFromCall
  simp (disch := first | decide | assumption) only [↓if_pos, ↓if_neg, e7, e6, fX3_endInstruction, fX3_growStack, put_eq, i01, i12, i23, i34, i45, i56, i67]
  exact QQ_mk (Or.inr ⟨rfl, rfl⟩) (Or.inr ⟨rfl, Or.inr (Or.inr ⟨rfl, (by unfold vp_in; decide), (by decide), Or.inr (Or.inr (Or.inr (Or.inr (Or.inr (Or.inr (Or.inr (Or.inr (Or.inr (Or.inl (⟨rfl, Or.inr (Or.inr (Or.inl rfl))⟩))))))))))⟩)⟩) ⟨ja, jx, jy, (by_and _), jf, jp, jl, jh⟩ hM'
theorem c12_3 {w ib lo hi ch ms mlo mhi old a x y s fl p po lt ln rs ro f2 en ac : Int32} {ra rA rc rk pi co ky la cn ct : Nat → Int32} (hM : MI po ln rs ro f2 ra rA rc rk pi co la cn ct) (hI : RI a x y s fl p mlo mhi) : QQ ac ln rA rc rk ky (A7 w ib 3 96 mlo mhi old a x y s fl p po lt ln rs ro f2 en ac ra rA rc rk pi co ky la cn ct) (A3 w ib 12 3 96 lo hi ch ms a x y s fl p po lt ln rs ro f2 en ra rA rc rk pi co ky la cn ct) := by
  obtain ⟨ja, jx, jy, js, jf, jp, jl, jh⟩ := hI
  obtain ⟨r, f', e7, e6, hr, hM'⟩ := pl_eq 1 (en := en) (ac := ac) (ky := ky) js hM
  unfold A7 A3 fX7_processorCycle fX3_makeAccess
  simp (disch := first | decide | assumption) only [↓if_pos, ↓if_neg]
  unfold fX7_jumpStep fX7_returnStep fX3_returnFromCall
  simp (disch := first | decide | assumption) only [↓if_pos, ↓if_neg, e7, e6, fX3_endInstruction, fX3_growStack, put_eq, i01, i12, i23, i34, i45, i56, i67]
  exact QQ_mk (Or.inr ⟨rfl, rfl⟩) (Or.inr ⟨rfl, Or.inr (Or.inr ⟨rfl, (by unfold vp_in; decide), (by decide), Or.inr (Or.inr (Or.inr (Or.inr (Or.inr (Or.inr (Or.inr (Or.inr (Or.inr (Or.inl (⟨rfl, Or.inr (Or.inr (Or.inr (Or.inr ⟨rfl, rfl⟩)))⟩))))))))))⟩)⟩) ⟨ja, jx, jy, (by_and _), jf, jp, hr, jh⟩ hM'
theorem c12_4 {w ib hi ch ms mlo mhi old a x y s fl p po lt ln rs ro f2 en ac : Int32} {ra rA rc rk pi co ky la cn ct : Nat → Int32} (hM : MI po ln rs ro f2 ra rA rc rk pi co la cn ct) (hI : RI a x y s fl p mlo mhi) : QQ ac ln rA rc rk ky (A7 w ib 4 96 mlo mhi old a x y s fl p po lt ln rs ro f2 en ac ra rA rc rk pi co ky la cn ct) (A3 w ib 12 4 96 mlo hi ch ms a x y s fl p po lt ln rs ro f2 en ra rA rc rk pi co ky la cn ct) := by
  obtain ⟨ja, jx, jy, js, jf, jp, jl, jh⟩ := hI
  obtain ⟨r, f', e7, e6, hr, hM'⟩ := pl_eq 0 (en := en) (ac := ac) (ky := ky) js hM
  have hw := word_eq jl hr
  have hc : 256 * r + mlo = mlo + 256 * r := Int32.add_comm _ _
  unfold A7 A3 fX7_processorCycle fX3_makeAccess
  simp (disch := first | decide | assumption) only [↓if_pos, ↓if_neg]
  unfold fX7_jumpStep fX7_returnStep fX3_returnFromCall
  simp (disch := first | decide | assumption) only [↓if_pos, ↓if_neg, e7, e6, fX3_endInstruction, fX3_growStack, put_eq, i01, i12, i23, i34, i45, i56, i67, hw.1, hc]
  exact QQ_mk (Or.inr ⟨rfl, rfl⟩) (Or.inr ⟨rfl, Or.inr (Or.inr ⟨rfl, (by unfold vp_in; decide), (by decide), Or.inr (Or.inr (Or.inr (Or.inr (Or.inr (Or.inr (Or.inr (Or.inr (Or.inr (Or.inl (⟨rfl, Or.inr (Or.inr (Or.inr (Or.inl rfl)))⟩))))))))))⟩)⟩) ⟨ja, jx, jy, js, jf, hw.2, jl, jh⟩ hM'
theorem c12_5 {w ib lo hi ch ms mlo mhi old a x y s fl p po lt ln rs ro f2 en ac : Int32} {ra rA rc rk pi co ky la cn ct : Nat → Int32} (hM : MI po ln rs ro f2 ra rA rc rk pi co la cn ct) (hI : RI a x y s fl p mlo mhi) : QQ ac ln rA rc rk ky (A7 w ib 5 96 mlo mhi old a x y s fl p po lt ln rs ro f2 en ac ra rA rc rk pi co ky la cn ct) (A3 w ib 12 5 96 lo hi ch ms a x y s fl p po lt ln rs ro f2 en ra rA rc rk pi co ky la cn ct) := by
  obtain ⟨ja, jx, jy, js, jf, jp, jl, jh⟩ := hI
  obtain ⟨r, f', e7, e6, hr, hM'⟩ := nx_eq (en := en) (ac := ac) (ky := ky) jp hM
  unfold A7 A3 fX7_processorCycle fX3_makeAccess
  simp (disch := first | decide | assumption) only [↓if_pos, ↓if_neg]
  unfold fX7_jumpStep fX7_returnStep fX3_returnFromCall
  simp (disch := first | decide | assumption) only [↓if_pos, ↓if_neg, e7, e6, fX3_endInstruction, fX3_growStack, put_eq, i01, i12, i23, i34, i45, i56, i67]
  exact QQ_mk (Or.inr ⟨rfl, rfl⟩) (Or.inr ⟨rfl, Or.inl ⟨rfl, rfl⟩⟩) ⟨ja, jx, jy, js, jf, (w16 _), jl, jh⟩ hM'
theorem c13_1 {w ib lo hi ch ms mlo mhi old a x y s fl p po lt ln rs ro f2 en ac : Int32} {ra rA rc rk pi co ky la cn ct : Nat → Int32} (hM : MI po ln rs ro f2 ra rA rc rk pi co la cn ct) (hI : RI a x y s fl p mlo mhi) : QQ ac ln rA rc rk ky (A7 w ib 1 64 mlo mhi old a x y s fl p po lt ln rs ro f2 en ac ra rA rc rk pi co ky la cn ct) (A3 w ib 13 1 64 lo hi ch ms a x y s fl p po lt ln rs ro f2 en ra rA rc rk pi co ky la cn ct) := by
  obtain ⟨ja, jx, jy, js, jf, jp, jl, jh⟩ := hI
  obtain ⟨r, f', e7, e6, hr, hM'⟩ := rd_eq (q := p) (en := en) (ac := ac) (ky := ky) (rg_nn jp) hM
  unfold A7 A3 fX7_processorCycle fX3_makeAccess
  simp (disch := first | decide | assumption) only [↓if_pos, ↓if_neg]
  unfold fX7_jumpStep fX7_returnStep fX3_returnFromInterrupt
  simp (disch := first | decide | assumption) only [↓if_pos, ↓if_neg, e7, e6, fX3_endInstruction, fX3_growStack, put_eq, i01, i12, i23, i34, i45, i56, i67]
  exact QQ_mk (Or.inr ⟨rfl, rfl⟩) (Or.inr ⟨rfl, Or.inr (Or.inr ⟨rfl, (by unfold vp_in; decide), (by decide), Or.inr (Or.inr (Or.inr (Or.inr (Or.inr (Or.inr (Or.inr (Or.inr (Or.inr (Or.inr (Or.inl (⟨rfl, Or.inr (Or.inl (rfl))⟩)))))))))))⟩)⟩) ⟨ja, jx, jy, js, jf, jp, jl, jh⟩ hM'
theorem c13_2 {w ib lo hi ch ms mlo mhi old a x y s fl p po lt ln rs ro f2 en ac : Int32} {ra rA rc rk pi co ky la cn ct : Nat → Int32} (hM : MI po ln rs ro f2 ra rA rc rk pi co la cn ct) (hI : RI a x y s fl p mlo mhi) : QQ ac ln rA rc rk ky (A7 w ib 2 64 mlo mhi old a x y s fl p po lt ln rs ro f2 en ac ra rA rc rk pi co ky la cn ct) (A3 w ib 13 2 64 lo hi ch ms a x y s fl p po lt ln rs ro f2 en ra rA rc rk pi co ky la cn ct) := by
  obtain ⟨ja, jx, jy, js, jf, jp, jl, jh⟩ := hI
  obtain ⟨r, f', e7, e6, hr, hM'⟩ := pl_eq 1 (en := en) (ac := ac) (ky := ky) js hM
  unfold A7 A3 fX7_processorCycle fX3_makeAccess
  simp (disch := first | decide | assumption) only [↓if_pos, ↓if_neg]
  unfold fX7_jumpStep fX7_returnStep fX3_returnFromInterrupt
  simp (disch := first | decide | assumption) only [↓if_pos, ↓if_neg, e7, e6, fX3_endInstruction, fX3_growStack, put_eq, i01, i12, i23, i34, i45, i56, i67]
  exact QQ_mk (Or.inr ⟨rfl, rfl⟩) (Or.inr ⟨rfl, Or.inr (Or.inr ⟨rfl, (by unfold vp_in; decide), (by decide), Or.inr (Or.inr (Or.inr (Or.inr (Or.inr (Or.inr (Or.inr (Or.inr (Or.inr (Or.inr (Or.inl (⟨rfl, Or.inr (Or.inr (Or.inl (rfl)))⟩)))))))))))⟩)⟩) ⟨ja, jx, jy, (by_and _), jf, jp, jl, jh⟩ hM'
theorem c13_3 {w ib lo hi ch ms mlo mhi old a x y s fl p po lt ln rs ro f2 en ac : Int32} {ra rA rc rk pi co ky la cn ct : Nat → Int32} (hM : MI po ln rs ro f2 ra rA rc rk pi co la cn ct) (hI : RI a x y s fl p mlo mhi) : QQ ac ln rA rc rk ky (A7 w ib 3 64 mlo mhi old a x y s fl p po lt ln rs ro f2 en ac ra rA rc rk pi co ky la cn ct) (A3 w ib 13 3 64 lo hi ch ms a x y s fl p po lt ln rs ro f2 en ra rA rc rk pi co ky la cn ct) := by
  obtain ⟨ja, jx, jy, js, jf, jp, jl, jh⟩ := hI
  obtain ⟨r, f', e7, e6, hr, hM'⟩ := pl_eq 1 (en := en) (ac := ac) (ky := ky) js hM
  unfold A7 A3 fX7_processorCycle fX3_makeAccess
  simp (disch := first | decide | assumption) only [↓if_pos, ↓if_neg]
  unfold fX7_jumpStep fX7_returnStep fX3_returnFromInterrupt
  simp (disch := first | decide | assumption) only [↓if_pos, ↓if_neg, e7, e6, fX3_endInstruction, fX3_growStack, put_eq, i01, i12, i23, i34, i45, i56, i67]
  exact QQ_mk (Or.inr ⟨rfl, rfl⟩) (Or.inr ⟨rfl, Or.inr (Or.inr ⟨rfl, (by unfold vp_in; decide), (by decide), Or.inr (Or.inr (Or.inr (Or.inr (Or.inr (Or.inr (Or.inr (Or.inr (Or.inr (Or.inr (Or.inl (⟨rfl, Or.inr (Or.inr (Or.inr (Or.inl (rfl))))⟩)))))))))))⟩)⟩) ⟨ja, jx, jy, (by_and _), (by_an hr), jp, jl, jh⟩ hM'
theorem c13_4 {w ib lo hi ch ms mlo mhi old a x y s fl p po lt ln rs ro f2 en ac : Int32} {ra rA rc rk pi co ky la cn ct : Nat → Int32} (hM : MI po ln rs ro f2 ra rA rc rk pi co la cn ct) (hI : RI a x y s fl p mlo mhi) : QQ ac ln rA rc rk ky (A7 w ib 4 64 mlo mhi old a x y s fl p po lt ln rs ro f2 en ac ra rA rc rk pi co ky la cn ct) (A3 w ib 13 4 64 lo hi ch ms a x y s fl p po lt ln rs ro f2 en ra rA rc rk pi co ky la cn ct) := by
  obtain ⟨ja, jx, jy, js, jf, jp, jl, jh⟩ := hI
  obtain ⟨r, f', e7, e6, hr, hM'⟩ := pl_eq 1 (en := en) (ac := ac) (ky := ky) js hM
  have hw := lo_new jp hr
  unfold A7 A3 fX7_processorCycle fX3_makeAccess
  simp (disch := first | decide | assumption) only [↓if_pos, ↓if_neg]
  unfold fX7_jumpStep fX7_returnStep fX3_returnFromInterrupt
  simp (disch := first | decide | assumption) only [↓if_pos, ↓if_neg, e7, e6, fX3_endInstruction, fX3_growStack, put_eq, i01, i12, i23, i34, i45, i56, i67, hw.1]
  exact QQ_mk (Or.inr ⟨rfl, rfl⟩) (Or.inr ⟨rfl, Or.inr (Or.inr ⟨rfl, (by unfold vp_in; decide), (by decide), Or.inr (Or.inr (Or.inr (Or.inr (Or.inr (Or.inr (Or.inr (Or.inr (Or.inr (Or.inr (Or.inl (⟨rfl, Or.inr (Or.inr (Or.inr (Or.inr (rfl))))⟩)))))))))))⟩)⟩) ⟨ja, jx, jy, (by_and _), jf, hw.2, jl, jh⟩ hM'
theorem c13_5 {w ib lo hi ch ms mlo mhi old a x y s fl p po lt ln rs ro f2 en ac : Int32} {ra rA rc rk pi co ky la cn ct : Nat → Int32} (hM : MI po ln rs ro f2 ra rA rc rk pi co la cn ct) (hI : RI a x y s fl p mlo mhi) : QQ ac ln rA rc rk ky (A7 w ib 5 64 mlo mhi old a x y s fl p po lt ln rs ro f2 en ac ra rA rc rk pi co ky la cn ct) (A3 w ib 13 5 64 lo hi ch ms a x y s fl p po lt ln rs ro f2 en ra rA rc rk pi co ky la cn ct) := by
  obtain ⟨ja, jx, jy, js, jf, jp, jl, jh⟩ := hI
  obtain ⟨r, f', e7, e6, hr, hM'⟩ := pl_eq 0 (en := en) (ac := ac) (ky := ky) js hM
  have hw := word_eq (by_and p) hr
  unfold A7 A3 fX7_processorCycle fX3_makeAccess
  simp (disch := first | decide | assumption) only [↓if_pos, ↓if_neg]
  unfold fX7_jumpStep fX7_returnStep fX3_returnFromInterrupt
  simp (disch := first | decide | assumption) only [↓if_pos, ↓if_neg, e7, e6, fX3_endInstruction, fX3_growStack, put_eq, i01, i12, i23, i34, i45, i56, i67, hw.1]
  exact QQ_mk (Or.inr ⟨rfl, rfl⟩) (Or.inr ⟨rfl, Or.inl ⟨rfl, rfl⟩⟩) ⟨ja, jx, jy, js, jf, hw.2, jl, jh⟩ hM'
theorem c14_1 {w ib lo hi ch ms mlo mhi old a x y s fl p po lt ln rs ro f2 en ac : Int32} {ra rA rc rk pi co ky la cn ct : Nat → Int32} (hM : MI po ln rs ro f2 ra rA rc rk pi co la cn ct) (hI : RI a x y s fl p mlo mhi) : QQ ac ln rA rc rk ky (A7 w ib 1 72 mlo mhi old a x y s fl p po lt ln rs ro f2 en ac ra rA rc rk pi co ky la cn ct) (A3 w ib 14 1 72 lo hi ch ms a x y s fl p po lt ln rs ro f2 en ra rA rc rk pi co ky la cn ct) := by
  obtain ⟨ja, jx, jy, js, jf, jp, jl, jh⟩ := hI
  obtain ⟨r, f', e7, e6, hr, hM'⟩ := rd_eq (q := p) (en := en) (ac := ac) (ky := ky) (rg_nn jp) hM
  unfold A7 A3 fX7_processorCycle fX3_makeAccess
  simp (disch := first | decide | assumption) only [↓if_pos, ↓if_neg]
  unfold fX7_stackStep fX3_pushA
  simp (disch := first | decide | assumption) only [↓if_pos, ↓if_neg, e7, e6, fX3_endInstruction, fX3_growStack, put_eq, i01, i12, i23, i34, i45, i56, i67]
  exact QQ_mk (Or.inr ⟨rfl, rfl⟩) (Or.inr ⟨rfl, Or.inr (Or.inr ⟨rfl, (by unfold vp_in; decide), (by decide), Or.inr (Or.inr (Or.inr (Or.inr (Or.inr (Or.inr (Or.inr (Or.inr (Or.inr (Or.inr (Or.inr (Or.inl (⟨rfl, Or.inr (rfl)⟩))))))))))))⟩)⟩) ⟨ja, jx, jy, js, jf, jp, jl, jh⟩ hM'
theorem c14_2 {w ib lo hi ch ms mlo mhi old a x y s fl p po lt ln rs ro f2 en ac : Int32} {ra rA rc rk pi co ky la cn ct : Nat → Int32} (hM : MI po ln rs ro f2 ra rA rc rk pi co la cn ct) (hI : RI a x y s fl p mlo mhi) : QQ ac ln rA rc rk ky (A7 w ib 2 72 mlo mhi old a x y s fl p po lt ln rs ro f2 en ac ra rA rc rk pi co ky la cn ct) (A3 w ib 14 2 72 lo hi ch ms a x y s fl p po lt ln rs ro f2 en ra rA rc rk pi co ky la cn ct) := by
  obtain ⟨ja, jx, jy, js, jf, jp, jl, jh⟩ := hI
  obtain ⟨po', rs', ro', en', ra', pi', co', la', cn', ct', e7, e6, hM'⟩ := ps_eq (v := a) (en := en) (ac := ac) (ky := ky) js ja hM
  unfold A7 A3 fX7_processorCycle fX3_makeAccess
  simp (disch := first | decide | assumption) only [↓if_pos, ↓if_neg]
  unfold fX7_stackStep fX3_pushA
  simp (disch := first | decide | assumption) only [↓if_pos, ↓if_neg, e7, e6, fX3_endInstruction, fX3_growStack, put_eq, i01, i12, i23, i34, i45, i56, i67]
  exact QQ_mk (Or.inr ⟨rfl, rfl⟩) (Or.inr ⟨rfl, Or.inl ⟨rfl, rfl⟩⟩) ⟨ja, jx, jy, (by_and _), jf, jp, jl, jh⟩ hM'
theorem c15_1 {w ib lo hi ch ms mlo mhi old a x y s fl p po lt ln rs ro f2 en ac : Int32} {ra rA rc rk pi co ky la cn ct : Nat → Int32} (hM : MI po ln rs ro f2 ra rA rc rk pi co la cn ct) (hI : RI a x y s fl p mlo mhi) : QQ ac ln rA rc rk ky (A7 w ib 1 104 mlo mhi old a x y s fl p po lt ln rs ro f2 en ac ra rA rc rk pi co ky la cn ct) (A3 w ib 15 1 104 lo hi ch ms a x y s fl p po lt ln rs ro f2 en ra rA rc rk pi co ky la cn ct) := by
  obtain ⟨ja, jx, jy, js, jf, jp, jl, jh⟩ := hI
  obtain ⟨r, f', e7, e6, hr, hM'⟩ := rd_eq (q := p) (en := en) (ac := ac) (ky := ky) (rg_nn jp) hM
  unfold A7 A3 fX7_processorCycle fX3_makeAccess
  simp (disch := first | decide | assumption) only [↓if_pos, ↓if_neg]
  unfold fX7_stackStep fX3_pullA
  simp (disch := first | decide | assumption) only [↓if_pos, ↓if_neg, e7, e6, fX3_endInstruction, fX3_growStack, put_eq, i01, i12, i23, i34, i45, i56, i67]
  exact QQ_mk (Or.inr ⟨rfl, rfl⟩) (Or.inr ⟨rfl, Or.inr (Or.inr ⟨rfl, (by unfold vp_in; decide), (by decide), Or.inr (Or.inr (Or.inr (Or.inr (Or.inr (Or.inr (Or.inr (Or.inr (Or.inr (Or.inr (Or.inr (Or.inr (⟨rfl, Or.inr (Or.inl (rfl))⟩))))))))))))⟩)⟩) ⟨ja, jx, jy, js, jf, jp, jl, jh⟩ hM'
theorem c15_2 {w ib lo hi ch ms mlo mhi old a x y s fl p po lt ln rs ro f2 en ac : Int32} {ra rA rc rk pi co ky la cn ct : Nat → Int32} (hM : MI po ln rs ro f2 ra rA rc rk pi co la cn ct) (hI : RI a x y s fl p mlo mhi) : QQ ac ln rA rc rk ky (A7 w ib 2 104 mlo mhi old a x y s fl p po lt ln rs ro f2 en ac ra rA rc rk pi co ky la cn ct) (A3 w ib 15 2 104 lo hi ch ms a x y s fl p po lt ln rs ro f2 en ra rA rc rk pi co ky la cn ct) := by
  obtain ⟨ja, jx, jy, js, jf, jp, jl, jh⟩ := hI
  obtain ⟨r, f', e7, e6, hr, hM'⟩ := pl_eq 1 (en := en) (ac := ac) (ky := ky) js hM
  unfold A7 A3 fX7_processorCycle fX3_makeAccess
  simp (disch := first | decide | assumption) only [↓if_pos, ↓if_neg]
  unfold fX7_stackStep fX3_pullA
  simp (disch := first | decide | assumption) only [↓if_pos, ↓if_neg, e7, e6, fX3_endInstruction, fX3_growStack, put_eq, i01, i12, i23, i34, i45, i56, i67]
  exact QQ_mk (Or.inr ⟨rfl, rfl⟩) (Or.inr ⟨rfl, Or.inr (Or.inr ⟨rfl, (by unfold vp_in; decide), (by decide), Or.inr (Or.inr (Or.inr (Or.inr (Or.inr (Or.inr (Or.inr (Or.inr (Or.inr (Or.inr (Or.inr (Or.inr (⟨rfl, Or.inr (Or.inr (rfl))⟩))))))))))))⟩)⟩) ⟨ja, jx, jy, (by_and _), jf, jp, jl, jh⟩ hM'
theorem c15_3 {w ib lo hi ch ms mlo mhi old a x y s fl p po lt ln rs ro f2 en ac : Int32} {ra rA rc rk pi co ky la cn ct : Nat → Int32} (hM : MI po ln rs ro f2 ra rA rc rk pi co la cn ct) (hI : RI a x y s fl p mlo mhi) : QQ ac ln rA rc rk ky (A7 w ib 3 104 mlo mhi old a x y s fl p po lt ln rs ro f2 en ac ra rA rc rk pi co ky la cn ct) (A3 w ib 15 3 104 lo hi ch ms a x y s fl p po lt ln rs ro f2 en ra rA rc rk pi co ky la cn ct) := by
  obtain ⟨ja, jx, jy, js, jf, jp, jl, jh⟩ := hI
  obtain ⟨r, f', e7, e6, hr, hM'⟩ := pl_eq 0 (en := en) (ac := ac) (ky := ky) js hM
  obtain ⟨v, g, j7, j6, hv, hg⟩ := jdx (r) (r) (by_m hr).symm jf
  unfold A7 A3 fX7_processorCycle fX3_makeAccess
  simp (disch := first | decide | assumption) only [↓if_pos, ↓if_neg]
  unfold fX7_stackStep fX3_pullA
  simp (disch := first | decide | assumption) only [↓if_pos, ↓if_neg, e7, e6, fX3_endInstruction, fX3_growStack, put_eq, i01, i12, i23, i34, i45, i56, i67, j7, j6]
  exact QQ_mk (Or.inr ⟨rfl, rfl⟩) (Or.inr ⟨rfl, Or.inl ⟨rfl, rfl⟩⟩) ⟨hv, jx, jy, js, hg, jp, jl, jh⟩ hM'
