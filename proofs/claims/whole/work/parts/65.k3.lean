theorem c6_1 {w ib cd lo hi ch ms mlo mhi old a x y s fl p po lt ln rs ro f2 en ac : Int32} {ra rA rc rk pi co ky la cn ct : Nat → Int32} (hcd : vp_in cd 256) (hk : fX3_kindOf cd = 6) (k1 : ¬ cd = 256) (k2 : ¬ fX7_arithmetic cd = 0) (k3 : ((cd >>> ((2:Int32) &&& (31:Int32))) &&& (7:Int32)) = 3) (k4 : ¬ ((cd >>> ((2:Int32) &&& (31:Int32))) &&& (7:Int32)) = 2) (k5 : ¬ ((cd >>> ((2:Int32) &&& (31:Int32))) &&& (7:Int32)) = 1) (n1 : ¬ cd = 134) (n2 : ¬ cd = 132) (hM : MI po ln rs ro f2 ra rA rc rk pi co la cn ct) (hI : RI a x y s fl p mlo mhi) : QQ ac ln rA rc rk ky (A7 w ib 1 cd mlo mhi old a x y s fl p po lt ln rs ro f2 en ac ra rA rc rk pi co ky la cn ct) (A3 w ib 6 1 cd lo hi ch ms a x y s fl p po lt ln rs ro f2 en ra rA rc rk pi co ky la cn ct) := by
  obtain ⟨ja, jx, jy, js, jf, jp, jl, jh⟩ := hI
  obtain ⟨r, f', e7, e6, hr, hM'⟩ := nx_eq (en := en) (ac := ac) (ky := ky) jp hM
  unfold A7 A3 fX7_processorCycle fX3_makeAccess
  simp (disch := first | decide | assumption) only [↓if_pos, ↓if_neg]
  unfold fX7_arithmeticStep fX3_longAddress
  simp (disch := first | decide | assumption) only [↓if_pos, ↓if_neg, e7, e6, fX3_endInstruction, fX3_growStack, put_eq, i01, i12, i23, i34, i45, i56, i67]
  exact QQ_mk (Or.inr ⟨rfl, rfl⟩) (Or.inr ⟨rfl, Or.inr (Or.inr ⟨rfl, hcd, hk.symm, Or.inr (Or.inr (Or.inr (Or.inl (⟨rfl, Or.inr (Or.inl ⟨rfl, rfl⟩)⟩))))⟩)⟩) ⟨ja, jx, jy, js, jf, (w16 _), hr, jh⟩ hM'
theorem c6_2 {w ib cd hi ch ms mlo mhi old a x y s fl p po lt ln rs ro f2 en ac : Int32} {ra rA rc rk pi co ky la cn ct : Nat → Int32} (hcd : vp_in cd 256) (hk : fX3_kindOf cd = 6) (k1 : ¬ cd = 256) (k2 : ¬ fX7_arithmetic cd = 0) (k3 : ((cd >>> ((2:Int32) &&& (31:Int32))) &&& (7:Int32)) = 3) (k4 : ¬ ((cd >>> ((2:Int32) &&& (31:Int32))) &&& (7:Int32)) = 2) (k5 : ¬ ((cd >>> ((2:Int32) &&& (31:Int32))) &&& (7:Int32)) = 1) (n1 : ¬ cd = 134) (n2 : ¬ cd = 132) (hM : MI po ln rs ro f2 ra rA rc rk pi co la cn ct) (hI : RI a x y s fl p mlo mhi) : QQ ac ln rA rc rk ky (A7 w ib 2 cd mlo mhi old a x y s fl p po lt ln rs ro f2 en ac ra rA rc rk pi co ky la cn ct) (A3 w ib 6 2 cd mlo hi ch ms a x y s fl p po lt ln rs ro f2 en ra rA rc rk pi co ky la cn ct) := by
  obtain ⟨ja, jx, jy, js, jf, jp, jl, jh⟩ := hI
  obtain ⟨r, f', e7, e6, hr, hM'⟩ := nx_eq (en := en) (ac := ac) (ky := ky) jp hM
  unfold A7 A3 fX7_processorCycle fX3_makeAccess
  simp (disch := first | decide | assumption) only [↓if_pos, ↓if_neg]
  unfold fX7_arithmeticStep fX3_longAddress
  simp (disch := first | decide | assumption) only [↓if_pos, ↓if_neg, e7, e6, fX3_endInstruction, fX3_growStack, put_eq, i01, i12, i23, i34, i45, i56, i67]
  exact QQ_mk (Or.inr ⟨rfl, rfl⟩) (Or.inr ⟨rfl, Or.inr (Or.inr ⟨rfl, hcd, hk.symm, Or.inr (Or.inr (Or.inr (Or.inl (⟨rfl, Or.inr (Or.inr ⟨rfl, rfl, rfl⟩)⟩))))⟩)⟩) ⟨ja, jx, jy, js, jf, (w16 _), jl, hr⟩ hM'
theorem c6_3 {w ib cd ch ms mlo mhi old a x y s fl p po lt ln rs ro f2 en ac : Int32} {ra rA rc rk pi co ky la cn ct : Nat → Int32} (hcd : vp_in cd 256) (hk : fX3_kindOf cd = 6) (k1 : ¬ cd = 256) (k2 : ¬ fX7_arithmetic cd = 0) (k3 : ((cd >>> ((2:Int32) &&& (31:Int32))) &&& (7:Int32)) = 3) (k4 : ¬ ((cd >>> ((2:Int32) &&& (31:Int32))) &&& (7:Int32)) = 2) (k5 : ¬ ((cd >>> ((2:Int32) &&& (31:Int32))) &&& (7:Int32)) = 1) (n1 : ¬ cd = 134) (n2 : ¬ cd = 132) (hM : MI po ln rs ro f2 ra rA rc rk pi co la cn ct) (hI : RI a x y s fl p mlo mhi) : QQ ac ln rA rc rk ky (A7 w ib 3 cd mlo mhi old a x y s fl p po lt ln rs ro f2 en ac ra rA rc rk pi co ky la cn ct) (A3 w ib 6 3 cd mlo mhi ch ms a x y s fl p po lt ln rs ro f2 en ra rA rc rk pi co ky la cn ct) := by
  obtain ⟨ja, jx, jy, js, jf, jp, jl, jh⟩ := hI
  have hw := (word_eq jl jh).1
  obtain ⟨a', fl', po', lt', rs', ro', f2', en', ra', pi', co', la', cn', ct', e7, e6, hv, hg, hM'⟩ := us_eq (q := mlo + 256 * mhi) (x := x) (y := y) (en := en) (ac := ac) (ky := ky) (rg_lh jl jh) n1 n2 ja jf hM
  unfold A7 A3 fX7_processorCycle fX3_makeAccess
  simp (disch := first | decide | assumption) only [↓if_pos, ↓if_neg]
  unfold fX7_arithmeticStep fX3_longAddress
  simp (disch := first | decide | assumption) only [↓if_pos, ↓if_neg, e7, e6, fX3_endInstruction, fX3_growStack, put_eq, i01, i12, i23, i34, i45, i56, i67, hw]
  exact QQ_mk (Or.inr ⟨rfl, rfl⟩) (Or.inr ⟨rfl, Or.inl ⟨rfl, rfl⟩⟩) ⟨hv, jx, jy, js, hg, jp, jl, jh⟩ hM'
theorem c7_1 {w ib cd lo hi ch ms mlo mhi old a x y s fl p po lt ln rs ro f2 en ac : Int32} {ra rA rc rk pi co ky la cn ct : Nat → Int32} (hcd : vp_in cd 256) (hk : fX3_kindOf cd = 7) (k1 : ¬ cd = 256) (k2 : ¬ fX7_arithmetic cd = 0) (k3 : ¬ ((cd >>> ((2:Int32) &&& (31:Int32))) &&& (7:Int32)) = 3) (k4 : ¬ ((cd >>> ((2:Int32) &&& (31:Int32))) &&& (7:Int32)) = 2) (k5 : ¬ ((cd >>> ((2:Int32) &&& (31:Int32))) &&& (7:Int32)) = 1) (n1 : ¬ cd = 134) (n2 : ¬ cd = 132) (hM : MI po ln rs ro f2 ra rA rc rk pi co la cn ct) (hI : RI a x y s fl p mlo mhi) : QQ ac ln rA rc rk ky (A7 w ib 1 cd mlo mhi old a x y s fl p po lt ln rs ro f2 en ac ra rA rc rk pi co ky la cn ct) (A3 w ib 7 1 cd lo hi ch ms a x y s fl p po lt ln rs ro f2 en ra rA rc rk pi co ky la cn ct) := by
  obtain ⟨ja, jx, jy, js, jf, jp, jl, jh⟩ := hI
  obtain ⟨r, f', e7, e6, hr, hM'⟩ := nx_eq (en := en) (ac := ac) (ky := ky) jp hM
  unfold A7 A3 fX7_processorCycle fX3_makeAccess
  simp (disch := first | decide | assumption) only [↓if_pos, ↓if_neg]
  unfold fX7_arithmeticStep fX3_longAddressX
  simp (disch := first | decide | assumption) only [↓if_pos, ↓if_neg, e7, e6, fX3_endInstruction, fX3_growStack, put_eq, i01, i12, i23, i34, i45, i56, i67]
  exact QQ_mk (Or.inr ⟨rfl, rfl⟩) (Or.inr ⟨rfl, Or.inr (Or.inr ⟨rfl, hcd, hk.symm, Or.inr (Or.inr (Or.inr (Or.inr (Or.inl (⟨rfl, Or.inr (Or.inl ⟨rfl, rfl⟩)⟩)))))⟩)⟩) ⟨ja, jx, jy, js, jf, (w16 _), hr, jh⟩ hM'
theorem c7_2 {w ib cd hi ch ms mlo mhi old a x y s fl p po lt ln rs ro f2 en ac : Int32} {ra rA rc rk pi co ky la cn ct : Nat → Int32} (hcd : vp_in cd 256) (hk : fX3_kindOf cd = 7) (k1 : ¬ cd = 256) (k2 : ¬ fX7_arithmetic cd = 0) (k3 : ¬ ((cd >>> ((2:Int32) &&& (31:Int32))) &&& (7:Int32)) = 3) (k4 : ¬ ((cd >>> ((2:Int32) &&& (31:Int32))) &&& (7:Int32)) = 2) (k5 : ¬ ((cd >>> ((2:Int32) &&& (31:Int32))) &&& (7:Int32)) = 1) (n1 : ¬ cd = 134) (n2 : ¬ cd = 132) (hM : MI po ln rs ro f2 ra rA rc rk pi co la cn ct) (hI : RI a x y s fl p mlo mhi) : QQ ac ln rA rc rk ky (A7 w ib 2 cd mlo mhi old a x y s fl p po lt ln rs ro f2 en ac ra rA rc rk pi co ky la cn ct) (A3 w ib 7 2 cd mlo hi ch ms a x y s fl p po lt ln rs ro f2 en ra rA rc rk pi co ky la cn ct) := by
  obtain ⟨ja, jx, jy, js, jf, jp, jl, jh⟩ := hI
  obtain ⟨r, f', e7, e6, hr, hM'⟩ := nx_eq (en := en) (ac := ac) (ky := ky) jp hM
  unfold A7 A3 fX7_processorCycle fX3_makeAccess
  simp (disch := first | decide | assumption) only [↓if_pos, ↓if_neg]
  unfold fX7_arithmeticStep fX3_longAddressX
  simp (disch := first | decide | assumption) only [↓if_pos, ↓if_neg, e7, e6, fX3_endInstruction, fX3_growStack, put_eq, i01, i12, i23, i34, i45, i56, i67]
  exact QQ_mk (Or.inr ⟨rfl, rfl⟩) (Or.inr ⟨rfl, Or.inr (Or.inr ⟨rfl, hcd, hk.symm, Or.inr (Or.inr (Or.inr (Or.inr (Or.inl (⟨rfl, Or.inr (Or.inr ⟨Or.inl rfl, rfl, rfl⟩)⟩)))))⟩)⟩) ⟨ja, jx, jy, js, jf, (w16 _), jl, hr⟩ hM'
theorem c7_3_c {w ib cd ch ms mlo mhi old a x y s fl p po lt ln rs ro f2 en ac : Int32} {ra rA rc rk pi co ky la cn ct : Nat → Int32} (hcd : vp_in cd 256) (hk : fX3_kindOf cd = 7) (k1 : ¬ cd = 256) (k2 : ¬ fX7_arithmetic cd = 0) (k3 : ¬ ((cd >>> ((2:Int32) &&& (31:Int32))) &&& (7:Int32)) = 3) (k4 : ¬ ((cd >>> ((2:Int32) &&& (31:Int32))) &&& (7:Int32)) = 2) (k5 : ¬ ((cd >>> ((2:Int32) &&& (31:Int32))) &&& (7:Int32)) = 1) (n1 : ¬ cd = 134) (n2 : ¬ cd = 132) (hx : (255:Int32) < mlo + x) (hM : MI po ln rs ro f2 ra rA rc rk pi co la cn ct) (hI : RI a x y s fl p mlo mhi) : QQ ac ln rA rc rk ky (A7 w ib 3 cd mlo mhi old a x y s fl p po lt ln rs ro f2 en ac ra rA rc rk pi co ky la cn ct) (A3 w ib 7 3 cd mlo mhi ch ms a x y s fl p po lt ln rs ro f2 en ra rA rc rk pi co ky la cn ct) := by
  obtain ⟨ja, jx, jy, js, jf, jp, jl, jh⟩ := hI
  have hw := (word_eq (by_and (mlo + x)) jh).1
  obtain ⟨r, f', e7, e6, hr, hM'⟩ := rd_eq (q := ((mlo + x) &&& 255) + 256 * mhi) (en := en) (ac := ac) (ky := ky) (rg_lx255 jh) hM
  unfold A7 A3 fX7_processorCycle fX3_makeAccess
  simp (disch := first | decide | assumption) only [↓if_pos, ↓if_neg]
  unfold fX7_arithmeticStep fX3_longAddressX fX3_readBeforeCarry
  simp (disch := first | decide | assumption) only [↓if_pos, ↓if_neg, e7, e6, fX3_endInstruction, fX3_growStack, put_eq, i01, i12, i23, i34, i45, i56, i67, hw]
  exact QQ_mk (Or.inr ⟨rfl, rfl⟩) (Or.inr ⟨rfl, Or.inr (Or.inr ⟨rfl, hcd, hk.symm, Or.inr (Or.inr (Or.inr (Or.inr (Or.inl (⟨rfl, Or.inr (Or.inr ⟨Or.inr rfl, rfl, rfl⟩)⟩)))))⟩)⟩) ⟨ja, jx, jy, js, jf, jp, jl, jh⟩ hM'
theorem c7_3_s {w ib cd ch ms mlo mhi old a x y s fl p po lt ln rs ro f2 en ac : Int32} {ra rA rc rk pi co ky la cn ct : Nat → Int32} (hcd : vp_in cd 256) (hk : fX3_kindOf cd = 7) (k1 : ¬ cd = 256) (k2 : ¬ fX7_arithmetic cd = 0) (k3 : ¬ ((cd >>> ((2:Int32) &&& (31:Int32))) &&& (7:Int32)) = 3) (k4 : ¬ ((cd >>> ((2:Int32) &&& (31:Int32))) &&& (7:Int32)) = 2) (k5 : ¬ ((cd >>> ((2:Int32) &&& (31:Int32))) &&& (7:Int32)) = 1) (n1 : ¬ cd = 134) (n2 : ¬ cd = 132) (hx : ¬ (255:Int32) < mlo + x) (k6 : cd = 157) (k7 : ¬ fX3_stores cd = 0) (hM : MI po ln rs ro f2 ra rA rc rk pi co la cn ct) (hI : RI a x y s fl p mlo mhi) : QQ ac ln rA rc rk ky (A7 w ib 3 cd mlo mhi old a x y s fl p po lt ln rs ro f2 en ac ra rA rc rk pi co ky la cn ct) (A3 w ib 7 3 cd mlo mhi ch ms a x y s fl p po lt ln rs ro f2 en ra rA rc rk pi co ky la cn ct) := by
  obtain ⟨ja, jx, jy, js, jf, jp, jl, jh⟩ := hI
  have hw := (word_eq (by_and (mlo + x)) jh).1
  obtain ⟨r, f', e7, e6, hr, hM'⟩ := rd_eq (q := ((mlo + x) &&& 255) + 256 * mhi) (en := en) (ac := ac) (ky := ky) (rg_lx255 jh) hM
  unfold A7 A3 fX7_processorCycle fX3_makeAccess
  simp (disch := first | decide | assumption) only [↓if_pos, ↓if_neg]
  unfold fX7_arithmeticStep fX3_longAddressX fX3_readBeforeCarry
  simp (disch := first | decide | assumption) only [↓if_pos, ↓if_neg, e7, e6, fX3_endInstruction, fX3_growStack, put_eq, i01, i12, i23, i34, i45, i56, i67, hw]
  exact QQ_mk (Or.inr ⟨rfl, rfl⟩) (Or.inr ⟨rfl, Or.inr (Or.inr ⟨rfl, hcd, hk.symm, Or.inr (Or.inr (Or.inr (Or.inr (Or.inl (⟨rfl, Or.inr (Or.inr ⟨Or.inr rfl, rfl, rfl⟩)⟩)))))⟩)⟩) ⟨ja, jx, jy, js, jf, jp, jl, jh⟩ hM'
theorem c7_3_r {w ib cd ch ms mlo mhi old a x y s fl p po lt ln rs ro f2 en ac : Int32} {ra rA rc rk pi co ky la cn ct : Nat → Int32} (hcd : vp_in cd 256) (hk : fX3_kindOf cd = 7) (k1 : ¬ cd = 256) (k2 : ¬ fX7_arithmetic cd = 0) (k3 : ¬ ((cd >>> ((2:Int32) &&& (31:Int32))) &&& (7:Int32)) = 3) (k4 : ¬ ((cd >>> ((2:Int32) &&& (31:Int32))) &&& (7:Int32)) = 2) (k5 : ¬ ((cd >>> ((2:Int32) &&& (31:Int32))) &&& (7:Int32)) = 1) (n1 : ¬ cd = 134) (n2 : ¬ cd = 132) (hx : ¬ (255:Int32) < mlo + x) (k6 : ¬ cd = 157) (k7 : fX3_stores cd = 0) (k8 : ¬ (cd >>> ((5:Int32) &&& (31:Int32))) = 4) (hM : MI po ln rs ro f2 ra rA rc rk pi co la cn ct) (hI : RI a x y s fl p mlo mhi) : QQ ac ln rA rc rk ky (A7 w ib 3 cd mlo mhi old a x y s fl p po lt ln rs ro f2 en ac ra rA rc rk pi co ky la cn ct) (A3 w ib 7 3 cd mlo mhi ch ms a x y s fl p po lt ln rs ro f2 en ra rA rc rk pi co ky la cn ct) := by
  obtain ⟨ja, jx, jy, js, jf, jp, jl, jh⟩ := hI
  have hw := (word_eq (by_and (mlo + x)) jh).1
  rw [lx_id jl jx hx] at hw
  obtain ⟨r, f', e7, e6, hr, hM'⟩ := rd_eq (q := (mlo + x) + 256 * mhi) (en := en) (ac := ac) (ky := ky) (rg_lxh jl jx jh) hM
  obtain ⟨v, g, o7, o6, hv, hg⟩ := op_eq cd hr ja jf
  have hi := lx_id jl jx hx
  unfold A7 A3 fX7_processorCycle fX3_makeAccess
  simp (disch := first | decide | assumption) only [↓if_pos, ↓if_neg]
  unfold fX7_arithmeticStep fX3_longAddressX fX3_readBeforeCarry fX7_operand
  simp (disch := first | decide | assumption) only [↓if_pos, ↓if_neg, e7, e6, fX3_endInstruction, fX3_growStack, put_eq, i01, i12, i23, i34, i45, i56, i67, hi, hw, o7, o6]
  exact QQ_mk (Or.inr ⟨rfl, rfl⟩) (Or.inr ⟨rfl, Or.inl ⟨rfl, rfl⟩⟩) ⟨hv, jx, jy, js, hg, jp, jl, jh⟩ hM'
theorem c7_4 {w ib cd ch ms mlo mhi old a x y s fl p po lt ln rs ro f2 en ac : Int32} {ra rA rc rk pi co ky la cn ct : Nat → Int32} (hcd : vp_in cd 256) (hk : fX3_kindOf cd = 7) (k1 : ¬ cd = 256) (k2 : ¬ fX7_arithmetic cd = 0) (k3 : ¬ ((cd >>> ((2:Int32) &&& (31:Int32))) &&& (7:Int32)) = 3) (k4 : ¬ ((cd >>> ((2:Int32) &&& (31:Int32))) &&& (7:Int32)) = 2) (k5 : ¬ ((cd >>> ((2:Int32) &&& (31:Int32))) &&& (7:Int32)) = 1) (n1 : ¬ cd = 134) (n2 : ¬ cd = 132) (hM : MI po ln rs ro f2 ra rA rc rk pi co la cn ct) (hI : RI a x y s fl p mlo mhi) : QQ ac ln rA rc rk ky (A7 w ib 4 cd mlo mhi old a x y s fl p po lt ln rs ro f2 en ac ra rA rc rk pi co ky la cn ct) (A3 w ib 7 4 cd mlo mhi ch ms a x y s fl p po lt ln rs ro f2 en ra rA rc rk pi co ky la cn ct) := by
  obtain ⟨ja, jx, jy, js, jf, jp, jl, jh⟩ := hI
  have hw := (word_eq jl jh).1
  have hc : mlo + 256 * mhi + x = mlo + x + 256 * mhi := by rw [Int32.add_assoc, Int32.add_comm (256 * mhi) x, ← Int32.add_assoc]
  obtain ⟨a', fl', po', lt', rs', ro', f2', en', ra', pi', co', la', cn', ct', e7, e6, hv, hg, hM'⟩ := us_eq (q := mlo + x + 256 * mhi) (x := x) (y := y) (en := en) (ac := ac) (ky := ky) (rg_lxh jl jx jh) n1 n2 ja jf hM
  unfold A7 A3 fX7_processorCycle fX3_makeAccess
  simp (disch := first | decide | assumption) only [↓if_pos, ↓if_neg]
  unfold fX7_arithmeticStep fX3_longAddressX
  simp (disch := first | decide | assumption) only [↓if_pos, ↓if_neg, e7, e6, fX3_endInstruction, fX3_growStack, put_eq, i01, i12, i23, i34, i45, i56, i67, hw, hc]
  exact QQ_mk (Or.inr ⟨rfl, rfl⟩) (Or.inr ⟨rfl, Or.inl ⟨rfl, rfl⟩⟩) ⟨hv, jx, jy, js, hg, jp, jl, jh⟩ hM'
