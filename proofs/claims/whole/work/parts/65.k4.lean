theorem c8_1_198 {w ib lo hi ch ms mlo mhi old a x y s fl p po lt ln rs ro f2 en ac : Int32} {ra rA rc rk pi co ky la cn ct : Nat → Int32} (hM : MI po ln rs ro f2 ra rA rc rk pi co la cn ct) (hI : RI a x y s fl p mlo mhi) : QQ ac ln rA rc rk ky (A7 w ib 1 198 mlo mhi old a x y s fl p po lt ln rs ro f2 en ac ra rA rc rk pi co ky la cn ct) (A3 w ib 8 1 198 lo hi ch ms a x y s fl p po lt ln rs ro f2 en ra rA rc rk pi co ky la cn ct) := by
  obtain ⟨ja, jx, jy, js, jf, jp, jl, jh⟩ := hI
  obtain ⟨r, f', e7, e6, hr, hM'⟩ := nx_eq (en := en) (ac := ac) (ky := ky) jp hM
  unfold A7 A3 fX7_processorCycle fX3_makeAccess
  simp (disch := first | decide | assumption) only [↓if_pos, ↓if_neg]
  unfold fX7_byteStep fX3_change
  simp (disch := first | decide | assumption) only [↓if_pos, ↓if_neg, e7, e6, fX3_endInstruction, fX3_growStack, put_eq, i01, i12, i23, i34, i45, i56, i67]
  exact QQ_mk (Or.inr ⟨rfl, rfl⟩) (Or.inr ⟨rfl, Or.inr (Or.inr ⟨rfl, (by unfold vp_in; decide), (by decide), Or.inr (Or.inr (Or.inr (Or.inr (Or.inr (Or.inl (⟨rfl, Or.inr (Or.inl ⟨rfl, rfl⟩)⟩))))))⟩)⟩) ⟨ja, jx, jy, js, jf, (w16 _), hr, jh⟩ hM'
theorem c8_2_198 {w ib hi ch ms mlo mhi old a x y s fl p po lt ln rs ro f2 en ac : Int32} {ra rA rc rk pi co ky la cn ct : Nat → Int32} (hM : MI po ln rs ro f2 ra rA rc rk pi co la cn ct) (hI : RI a x y s fl p mlo mhi) : QQ ac ln rA rc rk ky (A7 w ib 2 198 mlo mhi old a x y s fl p po lt ln rs ro f2 en ac ra rA rc rk pi co ky la cn ct) (A3 w ib 8 2 198 mlo hi ch ms a x y s fl p po lt ln rs ro f2 en ra rA rc rk pi co ky la cn ct) := by
  obtain ⟨ja, jx, jy, js, jf, jp, jl, jh⟩ := hI
  obtain ⟨r, f', e7, e6, hr, hM'⟩ := rd_eq (q := mlo) (en := en) (ac := ac) (ky := ky) (rg_nn jl) hM
  unfold A7 A3 fX7_processorCycle fX3_makeAccess
  simp (disch := first | decide | assumption) only [↓if_pos, ↓if_neg]
  unfold fX7_byteStep fX3_change
  simp (disch := first | decide | assumption) only [↓if_pos, ↓if_neg, e7, e6, fX3_endInstruction, fX3_growStack, put_eq, i01, i12, i23, i34, i45, i56, i67]
  exact QQ_mk (Or.inr ⟨rfl, rfl⟩) (Or.inr ⟨rfl, Or.inr (Or.inr ⟨rfl, (by unfold vp_in; decide), (by decide), Or.inr (Or.inr (Or.inr (Or.inr (Or.inr (Or.inl (⟨rfl, Or.inr (Or.inr ⟨Or.inl rfl, rfl, rfl, hr⟩)⟩))))))⟩)⟩) ⟨ja, jx, jy, js, jf, jp, jl, jh⟩ hM'
theorem c8_3_198 {w ib hi ms mlo mhi old a x y s fl p po lt ln rs ro f2 en ac : Int32} {ra rA rc rk pi co ky la cn ct : Nat → Int32} (ho : vp_in old 256) (hM : MI po ln rs ro f2 ra rA rc rk pi co la cn ct) (hI : RI a x y s fl p mlo mhi) : QQ ac ln rA rc rk ky (A7 w ib 3 198 mlo mhi old a x y s fl p po lt ln rs ro f2 en ac ra rA rc rk pi co ky la cn ct) (A3 w ib 8 3 198 mlo hi old ms a x y s fl p po lt ln rs ro f2 en ra rA rc rk pi co ky la cn ct) := by
  obtain ⟨ja, jx, jy, js, jf, jp, jl, jh⟩ := hI
  obtain ⟨po', rs', ro', en', ra', pi', co', la', cn', ct', e7, e6, hM'⟩ := wr_eq (q := mlo) (v := old) (en := en) (ac := ac) (ky := ky) (rg_nn jl) ho hM
  unfold A7 A3 fX7_processorCycle fX3_makeAccess
  simp (disch := first | decide | assumption) only [↓if_pos, ↓if_neg]
  unfold fX7_byteStep fX3_change
  simp (disch := first | decide | assumption) only [↓if_pos, ↓if_neg, e7, e6, fX3_endInstruction, fX3_growStack, put_eq, i01, i12, i23, i34, i45, i56, i67]
  exact QQ_mk (Or.inr ⟨rfl, rfl⟩) (Or.inr ⟨rfl, Or.inr (Or.inr ⟨rfl, (by unfold vp_in; decide), (by decide), Or.inr (Or.inr (Or.inr (Or.inr (Or.inr (Or.inl (⟨rfl, Or.inr (Or.inr ⟨Or.inr rfl, rfl, rfl, ho⟩)⟩))))))⟩)⟩) ⟨ja, jx, jy, js, jf, jp, jl, jh⟩ hM'
theorem c8_4_198 {w ib hi ms mlo mhi old a x y s fl p po lt ln rs ro f2 en ac : Int32} {ra rA rc rk pi co ky la cn ct : Nat → Int32} (ho : vp_in old 256) (hM : MI po ln rs ro f2 ra rA rc rk pi co la cn ct) (hI : RI a x y s fl p mlo mhi) : QQ ac ln rA rc rk ky (A7 w ib 4 198 mlo mhi old a x y s fl p po lt ln rs ro f2 en ac ra rA rc rk pi co ky la cn ct) (A3 w ib 8 4 198 mlo hi old ms a x y s fl p po lt ln rs ro f2 en ra rA rc rk pi co ky la cn ct) := by
  obtain ⟨ja, jx, jy, js, jf, jp, jl, jh⟩ := hI
  obtain ⟨v, g, j7, j6, hv, hg⟩ := jdx ((old + 255) &&& 255) (old - 1) (s1 ho).symm jf
  obtain ⟨po', rs', ro', en', ra', pi', co', la', cn', ct', e7, e6, hM'⟩ := wr_eq (q := mlo) (v := v) (en := en) (ac := ac) (ky := ky) (rg_nn jl) hv hM
  unfold A7 A3 fX7_processorCycle fX3_makeAccess
  simp (disch := first | decide | assumption) only [↓if_pos, ↓if_neg]
  unfold fX7_byteStep fX3_change
  simp (disch := first | decide | assumption) only [↓if_pos, ↓if_neg, e7, e6, fX3_endInstruction, fX3_growStack, put_eq, i01, i12, i23, i34, i45, i56, i67, j7, j6]
  exact QQ_mk (Or.inr ⟨rfl, rfl⟩) (Or.inr ⟨rfl, Or.inl ⟨rfl, rfl⟩⟩) ⟨ja, jx, jy, js, hg, jp, jl, jh⟩ hM'
theorem c8_1_230 {w ib lo hi ch ms mlo mhi old a x y s fl p po lt ln rs ro f2 en ac : Int32} {ra rA rc rk pi co ky la cn ct : Nat → Int32} (hM : MI po ln rs ro f2 ra rA rc rk pi co la cn ct) (hI : RI a x y s fl p mlo mhi) : QQ ac ln rA rc rk ky (A7 w ib 1 230 mlo mhi old a x y s fl p po lt ln rs ro f2 en ac ra rA rc rk pi co ky la cn ct) (A3 w ib 8 1 230 lo hi ch ms a x y s fl p po lt ln rs ro f2 en ra rA rc rk pi co ky la cn ct) := by
  obtain ⟨ja, jx, jy, js, jf, jp, jl, jh⟩ := hI
  obtain ⟨r, f', e7, e6, hr, hM'⟩ := nx_eq (en := en) (ac := ac) (ky := ky) jp hM
  unfold A7 A3 fX7_processorCycle fX3_makeAccess
  simp (disch := first | decide | assumption) only [↓if_pos, ↓if_neg]
  unfold fX7_byteStep fX3_change
  simp (disch := first | decide | assumption) only [↓if_pos, ↓if_neg, e7, e6, fX3_endInstruction, fX3_growStack, put_eq, i01, i12, i23, i34, i45, i56, i67]
  exact QQ_mk (Or.inr ⟨rfl, rfl⟩) (Or.inr ⟨rfl, Or.inr (Or.inr ⟨rfl, (by unfold vp_in; decide), (by decide), Or.inr (Or.inr (Or.inr (Or.inr (Or.inr (Or.inl (⟨rfl, Or.inr (Or.inl ⟨rfl, rfl⟩)⟩))))))⟩)⟩) ⟨ja, jx, jy, js, jf, (w16 _), hr, jh⟩ hM'
theorem c8_2_230 {w ib hi ch ms mlo mhi old a x y s fl p po lt ln rs ro f2 en ac : Int32} {ra rA rc rk pi co ky la cn ct : Nat → Int32} (hM : MI po ln rs ro f2 ra rA rc rk pi co la cn ct) (hI : RI a x y s fl p mlo mhi) : QQ ac ln rA rc rk ky (A7 w ib 2 230 mlo mhi old a x y s fl p po lt ln rs ro f2 en ac ra rA rc rk pi co ky la cn ct) (A3 w ib 8 2 230 mlo hi ch ms a x y s fl p po lt ln rs ro f2 en ra rA rc rk pi co ky la cn ct) := by
  obtain ⟨ja, jx, jy, js, jf, jp, jl, jh⟩ := hI
  obtain ⟨r, f', e7, e6, hr, hM'⟩ := rd_eq (q := mlo) (en := en) (ac := ac) (ky := ky) (rg_nn jl) hM
  unfold A7 A3 fX7_processorCycle fX3_makeAccess
  simp (disch := first | decide | assumption) only [↓if_pos, ↓if_neg]
  unfold fX7_byteStep fX3_change
  simp (disch := first | decide | assumption) only [↓if_pos, ↓if_neg, e7, e6, fX3_endInstruction, fX3_growStack, put_eq, i01, i12, i23, i34, i45, i56, i67]
  exact QQ_mk (Or.inr ⟨rfl, rfl⟩) (Or.inr ⟨rfl, Or.inr (Or.inr ⟨rfl, (by unfold vp_in; decide), (by decide), Or.inr (Or.inr (Or.inr (Or.inr (Or.inr (Or.inl (⟨rfl, Or.inr (Or.inr ⟨Or.inl rfl, rfl, rfl, hr⟩)⟩))))))⟩)⟩) ⟨ja, jx, jy, js, jf, jp, jl, jh⟩ hM'
theorem c8_3_230 {w ib hi ms mlo mhi old a x y s fl p po lt ln rs ro f2 en ac : Int32} {ra rA rc rk pi co ky la cn ct : Nat → Int32} (ho : vp_in old 256) (hM : MI po ln rs ro f2 ra rA rc rk pi co la cn ct) (hI : RI a x y s fl p mlo mhi) : QQ ac ln rA rc rk ky (A7 w ib 3 230 mlo mhi old a x y s fl p po lt ln rs ro f2 en ac ra rA rc rk pi co ky la cn ct) (A3 w ib 8 3 230 mlo hi old ms a x y s fl p po lt ln rs ro f2 en ra rA rc rk pi co ky la cn ct) := by
  obtain ⟨ja, jx, jy, js, jf, jp, jl, jh⟩ := hI
  obtain ⟨po', rs', ro', en', ra', pi', co', la', cn', ct', e7, e6, hM'⟩ := wr_eq (q := mlo) (v := old) (en := en) (ac := ac) (ky := ky) (rg_nn jl) ho hM
  unfold A7 A3 fX7_processorCycle fX3_makeAccess
  simp (disch := first | decide | assumption) only [↓if_pos, ↓if_neg]
  unfold fX7_byteStep fX3_change
  simp (disch := first | decide | assumption) only [↓if_pos, ↓if_neg, e7, e6, fX3_endInstruction, fX3_growStack, put_eq, i01, i12, i23, i34, i45, i56, i67]
  exact QQ_mk (Or.inr ⟨rfl, rfl⟩) (Or.inr ⟨rfl, Or.inr (Or.inr ⟨rfl, (by unfold vp_in; decide), (by decide), Or.inr (Or.inr (Or.inr (Or.inr (Or.inr (Or.inl (⟨rfl, Or.inr (Or.inr ⟨Or.inr rfl, rfl, rfl, ho⟩)⟩))))))⟩)⟩) ⟨ja, jx, jy, js, jf, jp, jl, jh⟩ hM'
theorem c8_4_230 {w ib hi ms mlo mhi old a x y s fl p po lt ln rs ro f2 en ac : Int32} {ra rA rc rk pi co ky la cn ct : Nat → Int32} (ho : vp_in old 256) (hM : MI po ln rs ro f2 ra rA rc rk pi co la cn ct) (hI : RI a x y s fl p mlo mhi) : QQ ac ln rA rc rk ky (A7 w ib 4 230 mlo mhi old a x y s fl p po lt ln rs ro f2 en ac ra rA rc rk pi co ky la cn ct) (A3 w ib 8 4 230 mlo hi old ms a x y s fl p po lt ln rs ro f2 en ra rA rc rk pi co ky la cn ct) := by
  obtain ⟨ja, jx, jy, js, jf, jp, jl, jh⟩ := hI
  obtain ⟨v, g, j7, j6, hv, hg⟩ := jdx ((old + 1) &&& 255) (old + 1) rfl jf
  obtain ⟨po', rs', ro', en', ra', pi', co', la', cn', ct', e7, e6, hM'⟩ := wr_eq (q := mlo) (v := v) (en := en) (ac := ac) (ky := ky) (rg_nn jl) hv hM
  unfold A7 A3 fX7_processorCycle fX3_makeAccess
  simp (disch := first | decide | assumption) only [↓if_pos, ↓if_neg]
  unfold fX7_byteStep fX3_change
  simp (disch := first | decide | assumption) only [↓if_pos, ↓if_neg, e7, e6, fX3_endInstruction, fX3_growStack, put_eq, i01, i12, i23, i34, i45, i56, i67, j7, j6]
  exact QQ_mk (Or.inr ⟨rfl, rfl⟩) (Or.inr ⟨rfl, Or.inl ⟨rfl, rfl⟩⟩) ⟨ja, jx, jy, js, hg, jp, jl, jh⟩ hM'
theorem c9_1 {w ib cd lo hi ch ms mlo mhi old a x y s fl p po lt ln rs ro f2 en ac : Int32} {ra rA rc rk pi co ky la cn ct : Nat → Int32} (hcd : vp_in cd 256) (hk : fX3_kindOf cd = 9) (k1 : ¬ cd = 256) (k2 : fX7_arithmetic cd = 0) (k3 : ¬ fX7_branch cd = 0) (hM : MI po ln rs ro f2 ra rA rc rk pi co la cn ct) (hI : RI a x y s fl p mlo mhi) : QQ ac ln rA rc rk ky (A7 w ib 1 cd mlo mhi old a x y s fl p po lt ln rs ro f2 en ac ra rA rc rk pi co ky la cn ct) (A3 w ib 9 1 cd lo hi ch ms a x y s fl p po lt ln rs ro f2 en ra rA rc rk pi co ky la cn ct) := by
  obtain ⟨ja, jx, jy, js, jf, jp, jl, jh⟩ := hI
  obtain ⟨r, f', e7, e6, hr, hM'⟩ := nx_eq (en := en) (ac := ac) (ky := ky) jp hM
  have hb := br_eq fl hcd
  by_cases hc : (fX7_is (if (cd >>> ((6:Int32) &&& (31:Int32))) = (0:Int32) then (128:Int32) else (if (cd >>> ((6:Int32) &&& (31:Int32))) = (1:Int32) then (64:Int32) else (if (cd >>> ((6:Int32) &&& (31:Int32))) = (2:Int32) then (1:Int32) else (2:Int32)))) fl) = (if (cd &&& (32:Int32)) = (0:Int32) then (0:Int32) else (1:Int32))
  · have hb1 : ¬ fX4_branches cd fl = 0 := by rw [hb, if_pos hc]; decide
    unfold A7 A3 fX7_processorCycle fX3_makeAccess
    simp (disch := first | decide | assumption) only [↓if_pos, ↓if_neg]
    unfold fX7_branchStep fX3_branch
    simp (disch := first | decide | assumption) only [↓if_pos, ↓if_neg, e7, e6, i12, fX3_endInstruction]
    exact QQ_mk (Or.inr ⟨rfl, rfl⟩) (Or.inr ⟨rfl, Or.inr (Or.inr ⟨rfl, hcd, hk.symm, Or.inr (Or.inr (Or.inr (Or.inr (Or.inr (Or.inr (Or.inl (⟨rfl, Or.inr (Or.inl ⟨rfl, rfl⟩)⟩)))))))⟩)⟩) ⟨ja, jx, jy, js, jf, (w16 _), hr, jh⟩ hM'
  · have hb1 : fX4_branches cd fl = 0 := by rw [hb, if_neg hc]
    unfold A7 A3 fX7_processorCycle fX3_makeAccess
    simp (disch := first | decide | assumption) only [↓if_pos, ↓if_neg]
    unfold fX7_branchStep fX3_branch
    simp (disch := first | decide | assumption) only [↓if_pos, ↓if_neg, e7, e6, i12, fX3_endInstruction]
    exact QQ_mk (Or.inr ⟨rfl, rfl⟩) (Or.inr ⟨rfl, Or.inl ⟨rfl, rfl⟩⟩) ⟨ja, jx, jy, js, jf, (w16 _), hr, jh⟩ hM'
theorem c9_2 {w ib cd hi ch ms mlo mhi old a x y s fl p po lt ln rs ro f2 en ac : Int32} {ra rA rc rk pi co ky la cn ct : Nat → Int32} (hcd : vp_in cd 256) (hk : fX3_kindOf cd = 9) (k1 : ¬ cd = 256) (k2 : fX7_arithmetic cd = 0) (k3 : ¬ fX7_branch cd = 0) (hM : MI po ln rs ro f2 ra rA rc rk pi co la cn ct) (hI : RI a x y s fl p mlo mhi) : QQ ac ln rA rc rk ky (A7 w ib 2 cd mlo mhi old a x y s fl p po lt ln rs ro f2 en ac ra rA rc rk pi co ky la cn ct) (A3 w ib 9 2 cd mlo hi ch ms a x y s fl p po lt ln rs ro f2 en ra rA rc rk pi co ky la cn ct) := by
  obtain ⟨ja, jx, jy, js, jf, jp, jl, jh⟩ := hI
  obtain ⟨r, f', e7, e6, hr, hM'⟩ := rd_eq (q := p) (en := en) (ac := ac) (ky := ky) (rg_nn jp) hM
  obtain ⟨D, sm, T, d1, d2, hs, hT, hTb, h⟩ := bl_eq jp jl
  unfold A7 A3 fX7_processorCycle fX3_makeAccess
  simp (disch := first | decide | assumption) only [↓if_pos, ↓if_neg]
  unfold fX7_branchStep fX3_branch fX3_branchLow
  simp only [d1, d2]
  simp only [hs, hT]
  rcases h with ⟨z1, z2, z3⟩ | ⟨z1, z2, z3, z4, z5⟩
  · simp (disch := first | decide | assumption) only [if_pos, if_neg, ↓reduceIte, e7, e6, z3, fX3_endInstruction]
    exact QQ_mk (Or.inr ⟨rfl, rfl⟩) (Or.inr ⟨rfl, Or.inl ⟨rfl, rfl⟩⟩) ⟨ja, jx, jy, js, jf, hTb, jl, jh⟩ hM'
  · simp (disch := first | decide | assumption) only [if_pos, if_neg, ↓reduceIte, e7, e6, z3, i23, fX3_endInstruction]
    exact QQ_mk (Or.inr ⟨rfl, rfl⟩) (Or.inr ⟨rfl, Or.inr (Or.inr ⟨rfl, hcd, hk.symm, Or.inr (Or.inr (Or.inr (Or.inr (Or.inr (Or.inr (Or.inl (⟨rfl, Or.inr (Or.inr ⟨rfl, z5⟩)⟩)))))))⟩)⟩) ⟨ja, jx, jy, js, jf, z4, jl, jh⟩ hM'
theorem c9_3 {w ib cd lo hi ch ms mlo mhi old a x y s fl p po lt ln rs ro f2 en ac : Int32} {ra rA rc rk pi co ky la cn ct : Nat → Int32} (hcd : vp_in cd 256) (hk : fX3_kindOf cd = 9) (k1 : ¬ cd = 256) (k2 : fX7_arithmetic cd = 0) (k3 : ¬ fX7_branch cd = 0) (ho : old = ((p + ms) &&& 65535)) (hM : MI po ln rs ro f2 ra rA rc rk pi co la cn ct) (hI : RI a x y s fl p mlo mhi) : QQ ac ln rA rc rk ky (A7 w ib 3 cd mlo mhi old a x y s fl p po lt ln rs ro f2 en ac ra rA rc rk pi co ky la cn ct) (A3 w ib 9 3 cd lo hi ch ms a x y s fl p po lt ln rs ro f2 en ra rA rc rk pi co ky la cn ct) := by
  obtain ⟨ja, jx, jy, js, jf, jp, jl, jh⟩ := hI
  subst ho
  obtain ⟨r, f', e7, e6, hr, hM'⟩ := rd_eq (q := p) (en := en) (ac := ac) (ky := ky) (rg_nn jp) hM
  unfold A7 A3 fX7_processorCycle fX3_makeAccess
  simp (disch := first | decide | assumption) only [↓if_pos, ↓if_neg]
  unfold fX7_branchStep fX3_branch
  simp (disch := first | decide | assumption) only [if_pos, if_neg, ↓reduceIte, e7, e6, fX3_endInstruction]
  exact QQ_mk (Or.inr ⟨rfl, rfl⟩) (Or.inr ⟨rfl, Or.inl ⟨rfl, rfl⟩⟩) ⟨ja, jx, jy, js, jf, (w16 _), jl, jh⟩ hM'
