theorem c4_160 {w ib lo hi ch ms mlo mhi old a x y s fl p po lt ln rs ro f2 en ac : Int32} {ra rA rc rk pi co ky la cn ct : Nat → Int32} (hM : MI po ln rs ro f2 ra rA rc rk pi co la cn ct) (hI : RI a x y s fl p mlo mhi) : QQ ac ln rA rc rk ky (A7 w ib 1 160 mlo mhi old a x y s fl p po lt ln rs ro f2 en ac ra rA rc rk pi co ky la cn ct) (A3 w ib 4 1 160 lo hi ch ms a x y s fl p po lt ln rs ro f2 en ra rA rc rk pi co ky la cn ct) := by
  obtain ⟨ja, jx, jy, js, jf, jp, jl, jh⟩ := hI
  obtain ⟨r, f', e7, e6, hr, hM'⟩ := nx_eq (en := en) (ac := ac) (ky := ky) jp hM
  obtain ⟨v, g, j7, j6, hv, hg⟩ := jdx (r) (r) (by_m hr).symm jf
  unfold A7 A3 fX7_processorCycle fX3_makeAccess
  simp (disch := first | decide | assumption) only [↓if_pos, ↓if_neg]
  unfold fX7_byteStep fX3_own
  simp (disch := first | decide | assumption) only [↓if_pos, ↓if_neg, e7, e6, fX3_endInstruction, fX3_growStack, put_eq, i01, i12, i23, i34, i45, i56, i67, j7, j6]
  exact QQ_mk (Or.inr ⟨rfl, rfl⟩) (Or.inr ⟨rfl, Or.inl ⟨rfl, rfl⟩⟩) ⟨ja, jx, hv, js, hg, (w16 _), hr, jh⟩ hM'
theorem c4_162 {w ib lo hi ch ms mlo mhi old a x y s fl p po lt ln rs ro f2 en ac : Int32} {ra rA rc rk pi co ky la cn ct : Nat → Int32} (hM : MI po ln rs ro f2 ra rA rc rk pi co la cn ct) (hI : RI a x y s fl p mlo mhi) : QQ ac ln rA rc rk ky (A7 w ib 1 162 mlo mhi old a x y s fl p po lt ln rs ro f2 en ac ra rA rc rk pi co ky la cn ct) (A3 w ib 4 1 162 lo hi ch ms a x y s fl p po lt ln rs ro f2 en ra rA rc rk pi co ky la cn ct) := by
  obtain ⟨ja, jx, jy, js, jf, jp, jl, jh⟩ := hI
  obtain ⟨r, f', e7, e6, hr, hM'⟩ := nx_eq (en := en) (ac := ac) (ky := ky) jp hM
  obtain ⟨v, g, j7, j6, hv, hg⟩ := jdx (r) (r) (by_m hr).symm jf
  unfold A7 A3 fX7_processorCycle fX3_makeAccess
  simp (disch := first | decide | assumption) only [↓if_pos, ↓if_neg]
  unfold fX7_byteStep fX3_own
  simp (disch := first | decide | assumption) only [↓if_pos, ↓if_neg, e7, e6, fX3_endInstruction, fX3_growStack, put_eq, i01, i12, i23, i34, i45, i56, i67, j7, j6]
  exact QQ_mk (Or.inr ⟨rfl, rfl⟩) (Or.inr ⟨rfl, Or.inl ⟨rfl, rfl⟩⟩) ⟨ja, hv, jy, js, hg, (w16 _), hr, jh⟩ hM'
theorem c4_192 {w ib lo hi ch ms mlo mhi old a x y s fl p po lt ln rs ro f2 en ac : Int32} {ra rA rc rk pi co ky la cn ct : Nat → Int32} (hM : MI po ln rs ro f2 ra rA rc rk pi co la cn ct) (hI : RI a x y s fl p mlo mhi) : QQ ac ln rA rc rk ky (A7 w ib 1 192 mlo mhi old a x y s fl p po lt ln rs ro f2 en ac ra rA rc rk pi co ky la cn ct) (A3 w ib 4 1 192 lo hi ch ms a x y s fl p po lt ln rs ro f2 en ra rA rc rk pi co ky la cn ct) := by
  obtain ⟨ja, jx, jy, js, jf, jp, jl, jh⟩ := hI
  obtain ⟨r, f', e7, e6, hr, hM'⟩ := nx_eq (en := en) (ac := ac) (ky := ky) jp hM
  have hc := cmp_eq y r jf
  unfold A7 A3 fX7_processorCycle fX3_makeAccess
  simp (disch := first | decide | assumption) only [↓if_pos, ↓if_neg]
  unfold fX7_byteStep fX3_own
  simp (disch := first | decide | assumption) only [↓if_pos, ↓if_neg, e7, e6, fX3_endInstruction, fX3_growStack, put_eq, i01, i12, i23, i34, i45, i56, i67, hc]
  exact QQ_mk (Or.inr ⟨rfl, rfl⟩) (Or.inr ⟨rfl, Or.inl ⟨rfl, rfl⟩⟩) ⟨ja, jx, jy, js, (by_cmp _ _ jf), (w16 _), hr, jh⟩ hM'
theorem c4_224 {w ib lo hi ch ms mlo mhi old a x y s fl p po lt ln rs ro f2 en ac : Int32} {ra rA rc rk pi co ky la cn ct : Nat → Int32} (hM : MI po ln rs ro f2 ra rA rc rk pi co la cn ct) (hI : RI a x y s fl p mlo mhi) : QQ ac ln rA rc rk ky (A7 w ib 1 224 mlo mhi old a x y s fl p po lt ln rs ro f2 en ac ra rA rc rk pi co ky la cn ct) (A3 w ib 4 1 224 lo hi ch ms a x y s fl p po lt ln rs ro f2 en ra rA rc rk pi co ky la cn ct) := by
  obtain ⟨ja, jx, jy, js, jf, jp, jl, jh⟩ := hI
  obtain ⟨r, f', e7, e6, hr, hM'⟩ := nx_eq (en := en) (ac := ac) (ky := ky) jp hM
  have hc := cmp_eq x r jf
  unfold A7 A3 fX7_processorCycle fX3_makeAccess
  simp (disch := first | decide | assumption) only [↓if_pos, ↓if_neg]
  unfold fX7_byteStep fX3_own
  simp (disch := first | decide | assumption) only [↓if_pos, ↓if_neg, e7, e6, fX3_endInstruction, fX3_growStack, put_eq, i01, i12, i23, i34, i45, i56, i67, hc]
  exact QQ_mk (Or.inr ⟨rfl, rfl⟩) (Or.inr ⟨rfl, Or.inl ⟨rfl, rfl⟩⟩) ⟨ja, jx, jy, js, (by_cmp _ _ jf), (w16 _), hr, jh⟩ hM'
theorem c4_a {w ib cd lo hi ch ms mlo mhi old a x y s fl p po lt ln rs ro f2 en ac : Int32} {ra rA rc rk pi co ky la cn ct : Nat → Int32} (k1 : ¬ cd = 256) (k2 : ¬ fX7_arithmetic cd = 0) (k3 : ((cd >>> ((2:Int32) &&& (31:Int32))) &&& (7:Int32)) = 2) (k4 : ¬ cd = 160) (k5 : ¬ cd = 162) (k6 : ¬ cd = 192) (k7 : ¬ cd = 224) (hM : MI po ln rs ro f2 ra rA rc rk pi co la cn ct) (hI : RI a x y s fl p mlo mhi) : QQ ac ln rA rc rk ky (A7 w ib 1 cd mlo mhi old a x y s fl p po lt ln rs ro f2 en ac ra rA rc rk pi co ky la cn ct) (A3 w ib 4 1 cd lo hi ch ms a x y s fl p po lt ln rs ro f2 en ra rA rc rk pi co ky la cn ct) := by
  obtain ⟨ja, jx, jy, js, jf, jp, jl, jh⟩ := hI
  obtain ⟨r, f', e7, e6, hr, hM'⟩ := nx_eq (en := en) (ac := ac) (ky := ky) jp hM
  obtain ⟨v, g, o7, o6, hv, hg⟩ := op_eq cd hr ja jf
  unfold A7 A3 fX7_processorCycle fX3_makeAccess
  simp (disch := first | decide | assumption) only [↓if_pos, ↓if_neg]
  unfold fX7_arithmeticStep fX3_own
  simp (disch := first | decide | assumption) only [↓if_pos, ↓if_neg, e7, e6, fX3_endInstruction, fX3_growStack, put_eq, i01, i12, i23, i34, i45, i56, i67, o7, o6]
  exact QQ_mk (Or.inr ⟨rfl, rfl⟩) (Or.inr ⟨rfl, Or.inl ⟨rfl, rfl⟩⟩) ⟨hv, jx, jy, js, hg, (w16 _), hr, jh⟩ hM'
theorem c5_1_a {w ib cd lo hi ch ms mlo mhi old a x y s fl p po lt ln rs ro f2 en ac : Int32} {ra rA rc rk pi co ky la cn ct : Nat → Int32} (hcd : vp_in cd 256) (hk : fX3_kindOf cd = 5) (k1 : ¬ cd = 256) (k2 : ¬ fX7_arithmetic cd = 0) (k3 : ((cd >>> ((2:Int32) &&& (31:Int32))) &&& (7:Int32)) = 1) (k4 : ¬ ((cd >>> ((2:Int32) &&& (31:Int32))) &&& (7:Int32)) = 2) (n1 : ¬ cd = 134) (n2 : ¬ cd = 132) (hM : MI po ln rs ro f2 ra rA rc rk pi co la cn ct) (hI : RI a x y s fl p mlo mhi) : QQ ac ln rA rc rk ky (A7 w ib 1 cd mlo mhi old a x y s fl p po lt ln rs ro f2 en ac ra rA rc rk pi co ky la cn ct) (A3 w ib 5 1 cd lo hi ch ms a x y s fl p po lt ln rs ro f2 en ra rA rc rk pi co ky la cn ct) := by
  obtain ⟨ja, jx, jy, js, jf, jp, jl, jh⟩ := hI
  obtain ⟨r, f', e7, e6, hr, hM'⟩ := nx_eq (en := en) (ac := ac) (ky := ky) jp hM
  unfold A7 A3 fX7_processorCycle fX3_makeAccess
  simp (disch := first | decide | assumption) only [↓if_pos, ↓if_neg]
  unfold fX7_arithmeticStep fX3_shortAddress
  simp (disch := first | decide | assumption) only [↓if_pos, ↓if_neg, e7, e6, fX3_endInstruction, fX3_growStack, put_eq, i01, i12, i23, i34, i45, i56, i67]
  exact QQ_mk (Or.inr ⟨rfl, rfl⟩) (Or.inr ⟨rfl, Or.inr (Or.inr ⟨rfl, hcd, hk.symm, Or.inr (Or.inr (Or.inl (⟨rfl, Or.inr ⟨rfl, rfl⟩⟩)))⟩)⟩) ⟨ja, jx, jy, js, jf, (w16 _), hr, jh⟩ hM'
theorem c5_1_132 {w ib lo hi ch ms mlo mhi old a x y s fl p po lt ln rs ro f2 en ac : Int32} {ra rA rc rk pi co ky la cn ct : Nat → Int32} (hM : MI po ln rs ro f2 ra rA rc rk pi co la cn ct) (hI : RI a x y s fl p mlo mhi) : QQ ac ln rA rc rk ky (A7 w ib 1 132 mlo mhi old a x y s fl p po lt ln rs ro f2 en ac ra rA rc rk pi co ky la cn ct) (A3 w ib 5 1 132 lo hi ch ms a x y s fl p po lt ln rs ro f2 en ra rA rc rk pi co ky la cn ct) := by
  obtain ⟨ja, jx, jy, js, jf, jp, jl, jh⟩ := hI
  obtain ⟨r, f', e7, e6, hr, hM'⟩ := nx_eq (en := en) (ac := ac) (ky := ky) jp hM
  unfold A7 A3 fX7_processorCycle fX3_makeAccess
  simp (disch := first | decide | assumption) only [↓if_pos, ↓if_neg]
  unfold fX7_byteStep fX3_shortAddress
  simp (disch := first | decide | assumption) only [↓if_pos, ↓if_neg, e7, e6, fX3_endInstruction, fX3_growStack, put_eq, i01, i12, i23, i34, i45, i56, i67]
  exact QQ_mk (Or.inr ⟨rfl, rfl⟩) (Or.inr ⟨rfl, Or.inr (Or.inr ⟨rfl, (by unfold vp_in; decide), (by decide), Or.inr (Or.inr (Or.inl (⟨rfl, Or.inr ⟨rfl, rfl⟩⟩)))⟩)⟩) ⟨ja, jx, jy, js, jf, (w16 _), hr, jh⟩ hM'
theorem c5_1_134 {w ib lo hi ch ms mlo mhi old a x y s fl p po lt ln rs ro f2 en ac : Int32} {ra rA rc rk pi co ky la cn ct : Nat → Int32} (hM : MI po ln rs ro f2 ra rA rc rk pi co la cn ct) (hI : RI a x y s fl p mlo mhi) : QQ ac ln rA rc rk ky (A7 w ib 1 134 mlo mhi old a x y s fl p po lt ln rs ro f2 en ac ra rA rc rk pi co ky la cn ct) (A3 w ib 5 1 134 lo hi ch ms a x y s fl p po lt ln rs ro f2 en ra rA rc rk pi co ky la cn ct) := by
  obtain ⟨ja, jx, jy, js, jf, jp, jl, jh⟩ := hI
  obtain ⟨r, f', e7, e6, hr, hM'⟩ := nx_eq (en := en) (ac := ac) (ky := ky) jp hM
  unfold A7 A3 fX7_processorCycle fX3_makeAccess
  simp (disch := first | decide | assumption) only [↓if_pos, ↓if_neg]
  unfold fX7_byteStep fX3_shortAddress
  simp (disch := first | decide | assumption) only [↓if_pos, ↓if_neg, e7, e6, fX3_endInstruction, fX3_growStack, put_eq, i01, i12, i23, i34, i45, i56, i67]
  exact QQ_mk (Or.inr ⟨rfl, rfl⟩) (Or.inr ⟨rfl, Or.inr (Or.inr ⟨rfl, (by unfold vp_in; decide), (by decide), Or.inr (Or.inr (Or.inl (⟨rfl, Or.inr ⟨rfl, rfl⟩⟩)))⟩)⟩) ⟨ja, jx, jy, js, jf, (w16 _), hr, jh⟩ hM'
theorem c5_2_a {w ib cd hi ch ms mlo mhi old a x y s fl p po lt ln rs ro f2 en ac : Int32} {ra rA rc rk pi co ky la cn ct : Nat → Int32} (hcd : vp_in cd 256) (hk : fX3_kindOf cd = 5) (k1 : ¬ cd = 256) (k2 : ¬ fX7_arithmetic cd = 0) (k3 : ((cd >>> ((2:Int32) &&& (31:Int32))) &&& (7:Int32)) = 1) (k4 : ¬ ((cd >>> ((2:Int32) &&& (31:Int32))) &&& (7:Int32)) = 2) (n1 : ¬ cd = 134) (n2 : ¬ cd = 132) (hM : MI po ln rs ro f2 ra rA rc rk pi co la cn ct) (hI : RI a x y s fl p mlo mhi) : QQ ac ln rA rc rk ky (A7 w ib 2 cd mlo mhi old a x y s fl p po lt ln rs ro f2 en ac ra rA rc rk pi co ky la cn ct) (A3 w ib 5 2 cd mlo hi ch ms a x y s fl p po lt ln rs ro f2 en ra rA rc rk pi co ky la cn ct) := by
  obtain ⟨ja, jx, jy, js, jf, jp, jl, jh⟩ := hI
  obtain ⟨a', fl', po', lt', rs', ro', f2', en', ra', pi', co', la', cn', ct', e7, e6, hv, hg, hM'⟩ := us_eq (q := mlo) (x := x) (y := y) (en := en) (ac := ac) (ky := ky) (rg_nn jl) n1 n2 ja jf hM
  unfold A7 A3 fX7_processorCycle fX3_makeAccess
  simp (disch := first | decide | assumption) only [↓if_pos, ↓if_neg]
  unfold fX7_arithmeticStep fX3_shortAddress
  simp (disch := first | decide | assumption) only [↓if_pos, ↓if_neg, e7, e6, fX3_endInstruction, fX3_growStack, put_eq, i01, i12, i23, i34, i45, i56, i67]
  exact QQ_mk (Or.inr ⟨rfl, rfl⟩) (Or.inr ⟨rfl, Or.inl ⟨rfl, rfl⟩⟩) ⟨hv, jx, jy, js, hg, jp, jl, jh⟩ hM'
theorem c5_2_132 {w ib hi ch ms mlo mhi old a x y s fl p po lt ln rs ro f2 en ac : Int32} {ra rA rc rk pi co ky la cn ct : Nat → Int32} (hM : MI po ln rs ro f2 ra rA rc rk pi co la cn ct) (hI : RI a x y s fl p mlo mhi) : QQ ac ln rA rc rk ky (A7 w ib 2 132 mlo mhi old a x y s fl p po lt ln rs ro f2 en ac ra rA rc rk pi co ky la cn ct) (A3 w ib 5 2 132 mlo hi ch ms a x y s fl p po lt ln rs ro f2 en ra rA rc rk pi co ky la cn ct) := by
  obtain ⟨ja, jx, jy, js, jf, jp, jl, jh⟩ := hI
  obtain ⟨po', rs', ro', en', ra', pi', co', la', cn', ct', e7, e6, hM'⟩ := wr_eq (q := mlo) (v := y) (en := en) (ac := ac) (ky := ky) (rg_nn jl) jy hM
  unfold A7 A3 fX7_processorCycle fX3_makeAccess
  simp (disch := first | decide | assumption) only [↓if_pos, ↓if_neg]
  unfold fX7_byteStep fX3_shortAddress fX3_useOperandAt
  simp (disch := first | decide | assumption) only [↓if_pos, ↓if_neg, e7, e6, fX3_endInstruction, fX3_growStack, put_eq, i01, i12, i23, i34, i45, i56, i67]
  exact QQ_mk (Or.inr ⟨rfl, rfl⟩) (Or.inr ⟨rfl, Or.inl ⟨rfl, rfl⟩⟩) ⟨ja, jx, jy, js, jf, jp, jl, jh⟩ hM'
theorem c5_2_134 {w ib hi ch ms mlo mhi old a x y s fl p po lt ln rs ro f2 en ac : Int32} {ra rA rc rk pi co ky la cn ct : Nat → Int32} (hM : MI po ln rs ro f2 ra rA rc rk pi co la cn ct) (hI : RI a x y s fl p mlo mhi) : QQ ac ln rA rc rk ky (A7 w ib 2 134 mlo mhi old a x y s fl p po lt ln rs ro f2 en ac ra rA rc rk pi co ky la cn ct) (A3 w ib 5 2 134 mlo hi ch ms a x y s fl p po lt ln rs ro f2 en ra rA rc rk pi co ky la cn ct) := by
  obtain ⟨ja, jx, jy, js, jf, jp, jl, jh⟩ := hI
  obtain ⟨po', rs', ro', en', ra', pi', co', la', cn', ct', e7, e6, hM'⟩ := wr_eq (q := mlo) (v := x) (en := en) (ac := ac) (ky := ky) (rg_nn jl) jx hM
  unfold A7 A3 fX7_processorCycle fX3_makeAccess
  simp (disch := first | decide | assumption) only [↓if_pos, ↓if_neg]
  unfold fX7_byteStep fX3_shortAddress fX3_useOperandAt
  simp (disch := first | decide | assumption) only [↓if_pos, ↓if_neg, e7, e6, fX3_endInstruction, fX3_growStack, put_eq, i01, i12, i23, i34, i45, i56, i67]
  exact QQ_mk (Or.inr ⟨rfl, rfl⟩) (Or.inr ⟨rfl, Or.inl ⟨rfl, rfl⟩⟩) ⟨ja, jx, jy, js, jf, jp, jl, jh⟩ hM'
