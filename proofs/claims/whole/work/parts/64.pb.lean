-- the processor's cycle
def RI (a x y s fl p lo hi : Int32) : Prop := vp_in a 256 ∧ vp_in x 256 ∧ vp_in y 256 ∧ vp_in s 256 ∧ vp_in fl 256 ∧ vp_in p 65536 ∧ vp_in lo 256 ∧ vp_in hi 256
/-- both answers of a cycle, held together -/
def QQ (ac ln : Int32) (rA rc rk ky : Nat → Int32) (t7 : Int32 × Int32 × Int32 × Int32 × Int32 × Int32 × Int32 × Int32 × Int32 × Int32 × Int32 × Int32 × Int32 × Int32 × Int32 × Int32 × Int32 × Int32 × Int32 × Int32 × Int32 × (Nat → Int32) × (Nat → Int32) × (Nat → Int32) × (Nat → Int32) × (Nat → Int32) × (Nat → Int32)) (t6 : Int32 × Int32 × Int32 × Int32 × Int32 × Int32 × Int32 × Int32 × Int32 × Int32 × Int32 × Int32 × Int32 × Int32 × Int32 × Int32 × Int32 × Int32 × Int32 × Int32 × Int32 × Int32 × Int32 × Int32 × Int32 × Int32 × Int32 × Int32 × Int32 × Int32 × Int32 × Int32 × Int32 × Int32 × Int32 × Int32 × (Nat → Int32) × (Nat → Int32)) : Prop :=
  match t7, t6 with
  | (po, rs, ro, f2, en, a, x, y, s, fl, p, jm, mcd, st, mlo, mhi, old, lt, w, ib, bc, ra, pi, co, la, cn, ct), (r, jm6, w6, ib6, kd, st6, cd, lo, hi, ch, ms, a6, x6, y6, s6, fl6, p6, po6, lt6, q0, q1, q2, q3, q6, rs6, q5, ro6, ks, f26, en6, c0, n0, l0, c1, n1, l1, ra6, co6) => ((r = 0 ∧ bc = ac) ∨ (r = 1 ∧ bc = ac + 1)) ∧ jm6 = jm ∧ w6 = w ∧ ib6 = ib ∧ st6 = st ∧ a6 = a ∧ x6 = x ∧ y6 = y ∧ s6 = s ∧ fl6 = fl ∧ p6 = p ∧ po6 = po ∧ lt6 = lt ∧ q0 = pi 0 ∧ q1 = pi 1 ∧ q2 = pi 2 ∧ q3 = pi 3 ∧ q6 = pi 6 ∧ rs6 = rs ∧ q5 = pi 5 ∧ ro6 = ro ∧ ks = kbv ro ky 8 ∧ f26 = f2 ∧ en6 = en ∧ c0 = ct 0 ∧ n0 = cn 0 ∧ l0 = la 0 ∧ c1 = ct 1 ∧ n1 = cn 1 ∧ l1 = la 1 ∧ ra6 = ra ∧ co6 = co ∧ RelP jm st kd cd mcd lo mlo hi mhi ch old ms p ∧ RI a x y s fl p mlo mhi ∧ MI po ln rs ro f2 ra rA rc rk pi co la cn ct
theorem QQ_mk {ac ln r po rs ro f2 en a x y s fl p jm mcd st mlo mhi old lt w ib bc kd cd lo hi ch ms : Int32} {rA rc rk ky ra pi co la cn ct : Nat → Int32} (hr : (r = 0 ∧ bc = ac) ∨ (r = 1 ∧ bc = ac + 1)) (hP : RelP jm st kd cd mcd lo mlo hi mhi ch old ms p) (hI : RI a x y s fl p mlo mhi) (hM : MI po ln rs ro f2 ra rA rc rk pi co la cn ct) : QQ ac ln rA rc rk ky (po, rs, ro, f2, en, a, x, y, s, fl, p, jm, mcd, st, mlo, mhi, old, lt, w, ib, bc, ra, pi, co, la, cn, ct) (r, jm, w, ib, kd, st, cd, lo, hi, ch, ms, a, x, y, s, fl, p, po, lt, pi 0, pi 1, pi 2, pi 3, pi 6, rs, pi 5, ro, kbv ro ky 8, f2, en, ct 0, cn 0, la 0, ct 1, cn 1, la 1, ra, co) := by
  show _ ∧ _
  exact ⟨hr, rfl, rfl, rfl, rfl, rfl, rfl, rfl, rfl, rfl, rfl, rfl, rfl, rfl, rfl, rfl, rfl, rfl, rfl, rfl, rfl, rfl, rfl, rfl, rfl, rfl, rfl, rfl, rfl, rfl, rfl, rfl, hP, hI, hM⟩
def A3 (w ib kd st cd lo hi ch ms a x y s fl p po lt ln rs ro f2 en : Int32) (ra rA rc rk pi co ky la cn ct : Nat → Int32) : Int32 × Int32 × Int32 × Int32 × Int32 × Int32 × Int32 × Int32 × Int32 × Int32 × Int32 × Int32 × Int32 × Int32 × Int32 × Int32 × Int32 × Int32 × Int32 × Int32 × Int32 × Int32 × Int32 × Int32 × Int32 × Int32 × Int32 × Int32 × Int32 × Int32 × Int32 × Int32 × Int32 × Int32 × Int32 × Int32 × (Nat → Int32) × (Nat → Int32) := fX3_makeAccess 0 0 w ib kd st cd lo hi ch ms a x y s fl p po lt ln (pi 0) (pi 1) (pi 2) (pi 3) (pi 6) rs (pi 5) ro (kbv ro ky 8) f2 en 9 (ct 0) (cn 0) (la 0) 73 (ct 1) (cn 1) (la 1) ra rA rc rk co ky
def A7 (w ib st cd lo hi old a x y s fl p po lt ln rs ro f2 en ac : Int32) (ra rA rc rk pi co ky la cn ct : Nat → Int32) : Int32 × Int32 × Int32 × Int32 × Int32 × Int32 × Int32 × Int32 × Int32 × Int32 × Int32 × Int32 × Int32 × Int32 × Int32 × Int32 × Int32 × Int32 × Int32 × Int32 × Int32 × (Nat → Int32) × (Nat → Int32) × (Nat → Int32) × (Nat → Int32) × (Nat → Int32) × (Nat → Int32) := fX7_processorCycle po ln 0 rs 0 ro f2 en a x y s fl p 0 cd st lo hi old lt w ib ac ra rA rc rk pi co ky la cn ct
theorem i01 : (0:Int32) + 1 = 1 := by decide
theorem i12 : (1:Int32) + 1 = 2 := by decide
theorem i23 : (2:Int32) + 1 = 3 := by decide
theorem i34 : (3:Int32) + 1 = 4 := by decide
theorem i45 : (4:Int32) + 1 = 5 := by decide
theorem i56 : (5:Int32) + 1 = 6 := by decide
theorem i67 : (6:Int32) + 1 = 7 := by decide
theorem jdx (z7 z : Int32) {fl : Int32} (h : z7 = z &&& 255) (hf : vp_in fl 256) : ∃ v g : Int32, fX7_judged z7 fl = (v, g) ∧ fX4_judged z fl = (v, g) ∧ vp_in v 256 ∧ vp_in g 256 := by
  rw [h, jd_eq z hf]
  exact ⟨z &&& 255, (fX4_judged z fl).2, rfl, rfl, by_and _, by_jd z hf⟩
theorem jc_aux : ∀ f : Nat, f < 256 → ∀ v : Nat, v < 2 → ((((fX4_put 1 (nI v) (nI f)) &&& -131) ||| 2) ||| 0 = fX4_put 1 (nI v) ((((nI f) &&& -131) ||| 2) ||| 0)) ∧ ((((fX4_put 1 (nI v) (nI f)) &&& -131) ||| 2) ||| 128 = fX4_put 1 (nI v) ((((nI f) &&& -131) ||| 2) ||| 128)) ∧ ((((fX4_put 1 (nI v) (nI f)) &&& -131) ||| 0) ||| 0 = fX4_put 1 (nI v) ((((nI f) &&& -131) ||| 0) ||| 0)) ∧ ((((fX4_put 1 (nI v) (nI f)) &&& -131) ||| 0) ||| 128 = fX4_put 1 (nI v) ((((nI f) &&& -131) ||| 0) ||| 128)) := by decide +kernel
theorem jc_eq {fl : Int32} (p : Int32) {v : Int32} (hv : v = 0 ∨ v = 1) (hf : vp_in fl 256) : (fX4_judged p (fX4_put 1 v fl)).2 = fX4_put 1 v (fX4_judged p fl).2 := by
  obtain ⟨f, hf2, rfl⟩ := by_of hf
  obtain ⟨k, hk, rfl⟩ : ∃ k : Nat, k < 2 ∧ v = nI k := by
    rcases hv with h | h
    · exact ⟨0, by decide, h⟩
    · exact ⟨1, by decide, h⟩
  unfold fX4_judged
  generalize (p &&& 255) = q
  obtain ⟨a1, a2, a3, a4⟩ := jc_aux f hf2 k hk
  dsimp only
  by_cases h0 : q = 0 <;> by_cases h1 : q < 128
  · rw [if_pos h0, if_pos h1, a1]
  · rw [if_pos h0, if_neg h1, a2]
  · rw [if_neg h0, if_pos h1, a3]
  · rw [if_neg h0, if_neg h1, a4]
theorem j10 {a fl : Int32} (hf : vp_in fl 256) : ∃ v g : Int32, fX7_judged ((2 * a) &&& 255) fl = (v, g) ∧ fX4_judged (a * 2) (fX4_put 1 (if a < (128:Int32) then (0:Int32) else (1:Int32)) fl) = (v, fX4_put 1 (if a ≤ (127:Int32) then (0:Int32) else (1:Int32)) g) ∧ vp_in v 256 ∧ vp_in g 256 := by
  rw [Int32.mul_comm 2 a, jd_eq (a * 2) hf]
  refine ⟨(a * 2) &&& 255, (fX4_judged (a * 2) fl).2, rfl, ?_, by_and _, by_jd _ hf⟩
  simp only [le_127]
  by_cases h : a < 128
  · rw [if_pos h]; exact Prod.ext rfl (jc_eq _ (Or.inl rfl) hf)
  · rw [if_neg h]; exact Prod.ext rfl (jc_eq _ (Or.inr rfl) hf)
theorem j74 {a fl : Int32} (ha : vp_in a 256) (hf : vp_in fl 256) : ∃ v g : Int32, fX7_judged (a / 2) fl = (v, g) ∧ fX4_judged (a / 2) (fX4_put 1 (if (a &&& 1) = (0:Int32) then (0:Int32) else (1:Int32)) fl) = (v, fX4_put 1 (if (a &&& 1) = (1:Int32) then (1:Int32) else (0:Int32)) g) ∧ vp_in v 256 ∧ vp_in g 256 := by
  have hb : vp_in (a / 2) 256 := by
    obtain ⟨n, hn, rfl⟩ := by_of ha
    rw [show (2:Int32) = nI 2 from rfl, pk_div (by omega) (by decide) (by decide)]
    exact by_in (by omega)
  rw [jd_eqb hb hf]
  refine ⟨(a / 2) &&& 255, (fX4_judged (a / 2) fl).2, rfl, ?_, by_and _, by_jd _ hf⟩
  rcases bit1 a with h | h
  · rw [h]; exact Prod.ext rfl (jc_eq _ (Or.inl rfl) hf)
  · rw [h]; exact Prod.ext rfl (jc_eq _ (Or.inr rfl) hf)
theorem ask_eq {rs f2 en : Int32} {pi : Nat → Int32} (h5 : pi 5 = 0 ∨ pi 5 = 1) : (if (fX2_asksInterrupt rs (pi 5)) = (0:Int32) then (if (fX1_asksInterrupt f2 en) = (0:Int32) then (0:Int32) else (1:Int32)) else (1:Int32)) = fX7_asked rs f2 en pi := by
  unfold fX2_asksInterrupt fX1_asksInterrupt fX7_asked
  simp only [show (5:Int32).toNatClampNeg = 5 from rfl]
  rcases h5 with h5 | h5
  · rw [h5]
    by_cases c1 : rs = 0 <;> by_cases c2 : (f2 &&& en) = 0 <;> simp (disch := first | decide | assumption) only [if_pos, if_neg, ite_self]
  · rw [h5]
    by_cases c1 : rs = 0 <;> by_cases c2 : (f2 &&& en) = 0 <;> simp (disch := first | decide | assumption) only [if_pos, if_neg, ite_self]
theorem jam_aux : ∀ n : Nat, n < 256 → (if (fX7_arithmetic (nI n)) = (0:Int32) then (if (fX7_branch (nI n)) = (0:Int32) then (if (fX7_jump (nI n)) = (0:Int32) then (if (fX7_withByte (nI n)) = (0:Int32) then (if (fX7_plain (nI n)) = (0:Int32) then (if (nI n) = (72:Int32) then (0:Int32) else (if (nI n) = (104:Int32) then (0:Int32) else (1:Int32))) else (0:Int32)) else (0:Int32)) else (0:Int32)) else (0:Int32)) else (0:Int32)) = (if (fX3_kindOf (nI n)) = (1:Int32) then (1:Int32) else (0:Int32)) := by decide +kernel
theorem jam_eq {r : Int32} (h : vp_in r 256) : (if (fX7_arithmetic r) = (0:Int32) then (if (fX7_branch r) = (0:Int32) then (if (fX7_jump r) = (0:Int32) then (if (fX7_withByte r) = (0:Int32) then (if (fX7_plain r) = (0:Int32) then (if r = (72:Int32) then (0:Int32) else (if r = (104:Int32) then (0:Int32) else (1:Int32))) else (0:Int32)) else (0:Int32)) else (0:Int32)) else (0:Int32)) else (0:Int32)) = (if (fX3_kindOf r) = (1:Int32) then (1:Int32) else (0:Int32)) := by
  obtain ⟨n, hn, rfl⟩ := by_of h
  exact jam_aux n hn
theorem rk_1 {kd lo mlo hi mhi ch old ms p : Int32} (h : kd = 3 ∨ kd = 4 ∨ kd = 5 ∨ kd = 6 ∨ kd = 7 ∨ kd = 8 ∨ kd = 9 ∨ kd = 10 ∨ kd = 11 ∨ kd = 12 ∨ kd = 13 ∨ kd = 14 ∨ kd = 15) : RelK kd 1 lo mlo hi mhi ch old ms p := by
  unfold RelK
  rcases h with rfl | rfl | rfl | rfl | rfl | rfl | rfl | rfl | rfl | rfl | rfl | rfl | rfl
  · exact Or.inl (⟨rfl, rfl⟩)
  · exact Or.inr (Or.inl (⟨rfl, rfl⟩))
  · exact Or.inr (Or.inr (Or.inl (⟨rfl, Or.inl rfl⟩)))
  · exact Or.inr (Or.inr (Or.inr (Or.inl (⟨rfl, Or.inl rfl⟩))))
  · exact Or.inr (Or.inr (Or.inr (Or.inr (Or.inl (⟨rfl, Or.inl rfl⟩)))))
  · exact Or.inr (Or.inr (Or.inr (Or.inr (Or.inr (Or.inl (⟨rfl, Or.inl rfl⟩))))))
  · exact Or.inr (Or.inr (Or.inr (Or.inr (Or.inr (Or.inr (Or.inl (⟨rfl, Or.inl rfl⟩)))))))
  · exact Or.inr (Or.inr (Or.inr (Or.inr (Or.inr (Or.inr (Or.inr (Or.inl (⟨rfl, Or.inl rfl⟩))))))))
  · exact Or.inr (Or.inr (Or.inr (Or.inr (Or.inr (Or.inr (Or.inr (Or.inr (Or.inl (⟨rfl, Or.inl rfl⟩)))))))))
  · exact Or.inr (Or.inr (Or.inr (Or.inr (Or.inr (Or.inr (Or.inr (Or.inr (Or.inr (Or.inl (⟨rfl, Or.inl rfl⟩))))))))))
  · exact Or.inr (Or.inr (Or.inr (Or.inr (Or.inr (Or.inr (Or.inr (Or.inr (Or.inr (Or.inr (Or.inl (⟨rfl, Or.inl (rfl)⟩)))))))))))
  · exact Or.inr (Or.inr (Or.inr (Or.inr (Or.inr (Or.inr (Or.inr (Or.inr (Or.inr (Or.inr (Or.inr (Or.inl (⟨rfl, Or.inl (rfl)⟩))))))))))))
  · exact Or.inr (Or.inr (Or.inr (Or.inr (Or.inr (Or.inr (Or.inr (Or.inr (Or.inr (Or.inr (Or.inr (Or.inr (⟨rfl, Or.inl (rfl)⟩))))))))))))
theorem kn_aux : ∀ n : Nat, n < 256 → fX3_kindOf (nI n) = 1 ∨ fX3_kindOf (nI n) = 3 ∨ fX3_kindOf (nI n) = 4 ∨ fX3_kindOf (nI n) = 5 ∨ fX3_kindOf (nI n) = 6 ∨ fX3_kindOf (nI n) = 7 ∨ fX3_kindOf (nI n) = 8 ∨ fX3_kindOf (nI n) = 9 ∨ fX3_kindOf (nI n) = 10 ∨ fX3_kindOf (nI n) = 11 ∨ fX3_kindOf (nI n) = 12 ∨ fX3_kindOf (nI n) = 13 ∨ fX3_kindOf (nI n) = 14 ∨ fX3_kindOf (nI n) = 15 := by decide +kernel
theorem beg_rel {r lo mlo hi mhi ch old ms p : Int32} (hr : vp_in r 256) : RelP (if (fX3_kindOf r) = (1:Int32) then (1:Int32) else (0:Int32)) 1 (fX3_kindOf r) r r lo mlo hi mhi ch old ms p := by
  by_cases h : fX3_kindOf r = 1
  · rw [if_pos h]; exact Or.inl rfl
  · rw [if_neg h]
    refine Or.inr ⟨rfl, Or.inr (Or.inr ⟨rfl, hr, rfl, rk_1 ?_⟩)⟩
    obtain ⟨n, hn, rfl⟩ := by_of hr
    exact (kn_aux n hn).resolve_left h
theorem kf3a_aux : ∀ n : Nat, n < 138 → fX3_kindOf (nI n) = 3 → (nI n) = 10 ∨ (nI n) = 24 ∨ (nI n) = 56 ∨ (nI n) = 74 ∨ (nI n) = 88 ∨ (nI n) = 120 ∨ (nI n) = 136 := by decide +kernel
theorem kf3b_aux : ∀ n : Nat, n < 118 → fX3_kindOf (nI (138 + n)) = 3 → (nI (138 + n)) = 138 ∨ (nI (138 + n)) = 152 ∨ (nI (138 + n)) = 168 ∨ (nI (138 + n)) = 170 ∨ (nI (138 + n)) = 200 ∨ (nI (138 + n)) = 202 ∨ (nI (138 + n)) = 216 ∨ (nI (138 + n)) = 232 ∨ (nI (138 + n)) = 234 ∨ (nI (138 + n)) = 248 := by decide +kernel
theorem kf3 {cd : Int32} (hcd : vp_in cd 256) (hk : fX3_kindOf cd = 3) : (cd = 10 ∨ cd = 24 ∨ cd = 56 ∨ cd = 74 ∨ cd = 88 ∨ cd = 120 ∨ cd = 136) ∨ (cd = 138 ∨ cd = 152 ∨ cd = 168 ∨ cd = 170 ∨ cd = 200 ∨ cd = 202 ∨ cd = 216 ∨ cd = 232 ∨ cd = 234 ∨ cd = 248) := by
  obtain ⟨n, hn, rfl⟩ := by_of hcd
  by_cases h : n < 138
  · exact Or.inl (kf3a_aux n h hk)
  · obtain ⟨k, rfl⟩ : ∃ k, n = 138 + k := ⟨n - 138, by omega⟩
    exact Or.inr (kf3b_aux k (by omega) hk)
theorem kf4_aux : ∀ n : Nat, n < 256 → fX3_kindOf (nI n) = 4 → (nI n) = 160 ∨ (nI n) = 162 ∨ (nI n) = 192 ∨ (nI n) = 224 ∨ (¬ (nI n) = 256 ∧ ¬ fX7_arithmetic (nI n) = 0 ∧ (((nI n) >>> ((2:Int32) &&& (31:Int32))) &&& (7:Int32)) = 2 ∧ ¬ (nI n) = 160 ∧ ¬ (nI n) = 162 ∧ ¬ (nI n) = 192 ∧ ¬ (nI n) = 224) := by decide +kernel
theorem kf4 {cd : Int32} (hcd : vp_in cd 256) (hk : fX3_kindOf cd = 4) : cd = 160 ∨ cd = 162 ∨ cd = 192 ∨ cd = 224 ∨ (¬ cd = 256 ∧ ¬ fX7_arithmetic cd = 0 ∧ ((cd >>> ((2:Int32) &&& (31:Int32))) &&& (7:Int32)) = 2 ∧ ¬ cd = 160 ∧ ¬ cd = 162 ∧ ¬ cd = 192 ∧ ¬ cd = 224) := by
  obtain ⟨n, hn, rfl⟩ := by_of hcd
  exact kf4_aux n hn hk
theorem kf5_aux : ∀ n : Nat, n < 256 → fX3_kindOf (nI n) = 5 → (nI n) = 132 ∨ (nI n) = 134 ∨ (¬ (nI n) = 256 ∧ ¬ fX7_arithmetic (nI n) = 0 ∧ (((nI n) >>> ((2:Int32) &&& (31:Int32))) &&& (7:Int32)) = 1 ∧ ¬ (((nI n) >>> ((2:Int32) &&& (31:Int32))) &&& (7:Int32)) = 2 ∧ ¬ (nI n) = 134 ∧ ¬ (nI n) = 132) := by decide +kernel
theorem kf5 {cd : Int32} (hcd : vp_in cd 256) (hk : fX3_kindOf cd = 5) : cd = 132 ∨ cd = 134 ∨ (¬ cd = 256 ∧ ¬ fX7_arithmetic cd = 0 ∧ ((cd >>> ((2:Int32) &&& (31:Int32))) &&& (7:Int32)) = 1 ∧ ¬ ((cd >>> ((2:Int32) &&& (31:Int32))) &&& (7:Int32)) = 2 ∧ ¬ cd = 134 ∧ ¬ cd = 132) := by
  obtain ⟨n, hn, rfl⟩ := by_of hcd
  exact kf5_aux n hn hk
theorem kf6_aux : ∀ n : Nat, n < 256 → fX3_kindOf (nI n) = 6 → ¬ (nI n) = 256 ∧ ¬ fX7_arithmetic (nI n) = 0 ∧ (((nI n) >>> ((2:Int32) &&& (31:Int32))) &&& (7:Int32)) = 3 ∧ ¬ (((nI n) >>> ((2:Int32) &&& (31:Int32))) &&& (7:Int32)) = 2 ∧ ¬ (((nI n) >>> ((2:Int32) &&& (31:Int32))) &&& (7:Int32)) = 1 ∧ ¬ (nI n) = 134 ∧ ¬ (nI n) = 132 := by decide +kernel
theorem kf6 {cd : Int32} (hcd : vp_in cd 256) (hk : fX3_kindOf cd = 6) : ¬ cd = 256 ∧ ¬ fX7_arithmetic cd = 0 ∧ ((cd >>> ((2:Int32) &&& (31:Int32))) &&& (7:Int32)) = 3 ∧ ¬ ((cd >>> ((2:Int32) &&& (31:Int32))) &&& (7:Int32)) = 2 ∧ ¬ ((cd >>> ((2:Int32) &&& (31:Int32))) &&& (7:Int32)) = 1 ∧ ¬ cd = 134 ∧ ¬ cd = 132 := by
  obtain ⟨n, hn, rfl⟩ := by_of hcd
  exact kf6_aux n hn hk
theorem kf7_aux : ∀ n : Nat, n < 256 → fX3_kindOf (nI n) = 7 → ¬ (nI n) = 256 ∧ ¬ fX7_arithmetic (nI n) = 0 ∧ ¬ (((nI n) >>> ((2:Int32) &&& (31:Int32))) &&& (7:Int32)) = 3 ∧ ¬ (((nI n) >>> ((2:Int32) &&& (31:Int32))) &&& (7:Int32)) = 2 ∧ ¬ (((nI n) >>> ((2:Int32) &&& (31:Int32))) &&& (7:Int32)) = 1 ∧ ¬ (nI n) = 134 ∧ ¬ (nI n) = 132 := by decide +kernel
theorem kf7 {cd : Int32} (hcd : vp_in cd 256) (hk : fX3_kindOf cd = 7) : ¬ cd = 256 ∧ ¬ fX7_arithmetic cd = 0 ∧ ¬ ((cd >>> ((2:Int32) &&& (31:Int32))) &&& (7:Int32)) = 3 ∧ ¬ ((cd >>> ((2:Int32) &&& (31:Int32))) &&& (7:Int32)) = 2 ∧ ¬ ((cd >>> ((2:Int32) &&& (31:Int32))) &&& (7:Int32)) = 1 ∧ ¬ cd = 134 ∧ ¬ cd = 132 := by
  obtain ⟨n, hn, rfl⟩ := by_of hcd
  exact kf7_aux n hn hk
theorem kf7b_aux : ∀ n : Nat, n < 256 → fX3_kindOf (nI n) = 7 → (nI n = 157 ∧ ¬ fX3_stores (nI n) = 0) ∨ (¬ nI n = 157 ∧ fX3_stores (nI n) = 0 ∧ ¬ (nI n >>> ((5:Int32) &&& (31:Int32))) = 4) := by decide +kernel
theorem kf7b {cd : Int32} (hcd : vp_in cd 256) (hk : fX3_kindOf cd = 7) : (cd = 157 ∧ ¬ fX3_stores cd = 0) ∨ (¬ cd = 157 ∧ fX3_stores cd = 0 ∧ ¬ (cd >>> ((5:Int32) &&& (31:Int32))) = 4) := by
  obtain ⟨n, hn, rfl⟩ := by_of hcd
  exact kf7b_aux n hn hk
theorem kf8_aux : ∀ n : Nat, n < 256 → fX3_kindOf (nI n) = 8 → (nI n) = 198 ∨ (nI n) = 230 := by decide +kernel
theorem kf8 {cd : Int32} (hcd : vp_in cd 256) (hk : fX3_kindOf cd = 8) : cd = 198 ∨ cd = 230 := by
  obtain ⟨n, hn, rfl⟩ := by_of hcd
  exact kf8_aux n hn hk
theorem kf9_aux : ∀ n : Nat, n < 256 → fX3_kindOf (nI n) = 9 → ¬ (nI n) = 256 ∧ fX7_arithmetic (nI n) = 0 ∧ ¬ fX7_branch (nI n) = 0 := by decide +kernel
theorem kf9 {cd : Int32} (hcd : vp_in cd 256) (hk : fX3_kindOf cd = 9) : ¬ cd = 256 ∧ fX7_arithmetic cd = 0 ∧ ¬ fX7_branch cd = 0 := by
  obtain ⟨n, hn, rfl⟩ := by_of hcd
  exact kf9_aux n hn hk
theorem kf10_aux : ∀ n : Nat, n < 256 → fX3_kindOf (nI n) = 10 → (nI n) = 76 := by decide +kernel
theorem kf10 {cd : Int32} (hcd : vp_in cd 256) (hk : fX3_kindOf cd = 10) : cd = 76 := by
  obtain ⟨n, hn, rfl⟩ := by_of hcd
  exact kf10_aux n hn hk
theorem kf11_aux : ∀ n : Nat, n < 256 → fX3_kindOf (nI n) = 11 → (nI n) = 32 := by decide +kernel
theorem kf11 {cd : Int32} (hcd : vp_in cd 256) (hk : fX3_kindOf cd = 11) : cd = 32 := by
  obtain ⟨n, hn, rfl⟩ := by_of hcd
  exact kf11_aux n hn hk
theorem kf12_aux : ∀ n : Nat, n < 256 → fX3_kindOf (nI n) = 12 → (nI n) = 96 := by decide +kernel
theorem kf12 {cd : Int32} (hcd : vp_in cd 256) (hk : fX3_kindOf cd = 12) : cd = 96 := by
  obtain ⟨n, hn, rfl⟩ := by_of hcd
  exact kf12_aux n hn hk
theorem kf13_aux : ∀ n : Nat, n < 256 → fX3_kindOf (nI n) = 13 → (nI n) = 64 := by decide +kernel
theorem kf13 {cd : Int32} (hcd : vp_in cd 256) (hk : fX3_kindOf cd = 13) : cd = 64 := by
  obtain ⟨n, hn, rfl⟩ := by_of hcd
  exact kf13_aux n hn hk
theorem kf14_aux : ∀ n : Nat, n < 256 → fX3_kindOf (nI n) = 14 → (nI n) = 72 := by decide +kernel
theorem kf14 {cd : Int32} (hcd : vp_in cd 256) (hk : fX3_kindOf cd = 14) : cd = 72 := by
  obtain ⟨n, hn, rfl⟩ := by_of hcd
  exact kf14_aux n hn hk
theorem kf15_aux : ∀ n : Nat, n < 256 → fX3_kindOf (nI n) = 15 → (nI n) = 104 := by decide +kernel
theorem kf15 {cd : Int32} (hcd : vp_in cd 256) (hk : fX3_kindOf cd = 15) : cd = 104 := by
  obtain ⟨n, hn, rfl⟩ := by_of hcd
  exact kf15_aux n hn hk
theorem mk_aux : ∀ n : Nat, n < 256 → (if (64:Int32) ≤ (nI n) then (if (128:Int32) ≤ (nI n) then (if (192:Int32) ≤ (nI n) then (2:Int32) else (1:Int32)) else (64:Int32)) else (128:Int32)) = (if ((nI n) >>> ((6:Int32) &&& (31:Int32))) = (0:Int32) then (128:Int32) else (if ((nI n) >>> ((6:Int32) &&& (31:Int32))) = (1:Int32) then (64:Int32) else (if ((nI n) >>> ((6:Int32) &&& (31:Int32))) = (2:Int32) then (1:Int32) else (2:Int32)))) := by decide +kernel
theorem br_eq {cd : Int32} (fl : Int32) (hcd : vp_in cd 256) : fX4_branches cd fl = (if (fX7_is (if (cd >>> ((6:Int32) &&& (31:Int32))) = (0:Int32) then (128:Int32) else (if (cd >>> ((6:Int32) &&& (31:Int32))) = (1:Int32) then (64:Int32) else (if (cd >>> ((6:Int32) &&& (31:Int32))) = (2:Int32) then (1:Int32) else (2:Int32)))) fl) = (if (cd &&& (32:Int32)) = (0:Int32) then (0:Int32) else (1:Int32)) then (1:Int32) else (0:Int32)) := by
  obtain ⟨n, hn, rfl⟩ := by_of hcd
  unfold fX4_branches
  rw [mk_aux n hn]
  rfl
theorem ng_and (n : Nat) {m : Int32} (k : Nat) (hm : m.toBitVec.toNat = 2 ^ k - 1) (hk : k ≤ 32) : nI n &&& m = nI (n % 2 ^ k) := by
  rw [pk_and (nI n) k hm]
  congr 1
  show n % 2 ^ 32 % 2 ^ k = n % 2 ^ k
  exact Nat.mod_mod_of_dvd n (Nat.pow_dvd_pow 2 hk)
theorem ng_cong {a b : Nat} (h : a % 4294967296 = b % 4294967296) : nI a = nI b := by
  apply Int32.toBitVec_inj.1
  apply BitVec.eq_of_toNat_eq
  exact h
theorem ng_sub {a b : Nat} (h : b ≤ 4294967296) : nI a - nI b = nI (a + (4294967296 - b)) := by
  apply Int32.toBitVec_inj.1
  apply BitVec.eq_of_toNat_eq
  show (BitVec.ofNat 32 a - BitVec.ofNat 32 b).toNat = (BitVec.ofNat 32 (a + (4294967296 - b))).toNat
  rw [BitVec.toNat_sub, BitVec.toNat_ofNat, BitVec.toNat_ofNat, BitVec.toNat_ofNat]
  omega
theorem ng_0 {a : Nat} (h : nI a = 0) : a % 4294967296 = 0 := by
  have h2 := congrArg (fun z : Int32 => z.toBitVec.toNat) h
  exact h2
/-- a branch's target -/
theorem bl_eq {p lo : Int32} (hp : vp_in p 65536) (hl : vp_in lo 256) : ∃ D sm T : Int32, (if (128:Int32) ≤ lo then (lo - (256:Int32)) else lo) = D ∧ (if lo ≤ (127:Int32) then lo else (lo - (256:Int32))) = D ∧ (((p &&& (255:Int32)) + D) - (((p &&& (255:Int32)) + D) &&& (255:Int32))) = sm ∧ ((p + D) &&& (65535:Int32)) = T ∧ vp_in T 65536 ∧ ((sm = 0 ∧ (T >>> ((8:Int32) &&& (31:Int32))) = (p >>> ((8:Int32) &&& (31:Int32))) ∧ fX3_word (((p &&& (255:Int32)) + D) &&& (255:Int32)) (p >>> ((8:Int32) &&& (31:Int32))) = T) ∨ (¬ sm = 0 ∧ ¬ (T >>> ((8:Int32) &&& (31:Int32))) = (p >>> ((8:Int32) &&& (31:Int32))) ∧ fX3_word (((p &&& (255:Int32)) + D) &&& (255:Int32)) (p >>> ((8:Int32) &&& (31:Int32))) = (p &&& (65280:Int32)) + (T &&& (255:Int32)) ∧ vp_in ((p &&& (65280:Int32)) + (T &&& (255:Int32))) 65536 ∧ T = (((p &&& (65280:Int32)) + (T &&& (255:Int32))) + sm) &&& (65535:Int32))) := by
  obtain ⟨a, b, ha, hb, e1, e2, e3, e4⟩ := hl_and hp
  obtain ⟨l, hl2, el⟩ := by_of hl
  have hX : ∃ X : Nat, (l < 128 ∧ X = l ∨ 128 ≤ l ∧ X = l + 4294967040) ∧ (if (128:Int32) ≤ lo then (lo - (256:Int32)) else lo) = nI X ∧ (if lo ≤ (127:Int32) then lo else (lo - (256:Int32))) = nI X := by
    rw [el]
    have c1 : ((128:Int32) ≤ nI l) ↔ 128 ≤ l := nI_leI (by decide) (by omega)
    have c2 : (nI l ≤ (127:Int32)) ↔ l ≤ 127 := nI_leI (by omega) (by decide)
    by_cases h : l < 128
    · exact ⟨l, Or.inl ⟨h, rfl⟩, if_neg (fun q => by have := c1.mp q; omega), if_pos (c2.mpr (by omega))⟩
    · refine ⟨l + 4294967040, Or.inr ⟨by omega, rfl⟩, ?_, ?_⟩
      · rw [if_pos (c1.mpr (by omega))]; exact ng_sub (b := 256) (by omega)
      · rw [if_neg (fun q => by have := c2.mp q; omega)]; exact ng_sub (b := 256) (by omega)
  obtain ⟨X, hX, d1, d2⟩ := hX
  have hs : ((p &&& (255:Int32)) + nI X) &&& (255:Int32) = nI ((b + X) % 256) := by
    rw [e4, nI_add]; exact ng_and _ (m := 255) 8 (by decide) (by decide)
  have hsm : (((p &&& (255:Int32)) + nI X) - (((p &&& (255:Int32)) + nI X) &&& (255:Int32))) = nI (b + X + (4294967296 - (b + X) % 256)) := by
    rw [hs, e4, nI_add]; exact ng_sub (by omega)
  have hT : ((p + nI X) &&& (65535:Int32)) = nI ((256 * a + b + X) % 65536) := by
    rw [e1, nI_add]; exact ng_and _ (m := 65535) 16 (by decide) (by decide)
  have hTi : (256 * a + b + X) % 65536 < 65536 := Nat.mod_lt _ (by decide)
  have hTh : nI ((256 * a + b + X) % 65536) >>> ((8:Int32) &&& (31:Int32)) = nI ((256 * a + b + X) % 65536 / 256) := pk_shrN (by omega) ((8:Int32) &&& 31) 8 (by decide)
  have hTl : nI ((256 * a + b + X) % 65536) &&& (255:Int32) = nI ((256 * a + b + X) % 65536 % 256) := pk_andN (by omega) (m := 255) 8 (by decide)
  have hw := lo_new hp (r := nI ((b + X) % 256)) (by_in (Nat.mod_lt _ (by decide)))
  have hm : (256 * a + b + X) % 65536 % 256 = (b + X) % 256 := by omega
  refine ⟨nI X, _, _, d1, d2, rfl, rfl, ?_, ?_⟩
  · rw [hT]; exact vp_in_nI hTi (by decide)
  · rw [hsm, hT, hTh, hTl, hs, hm, e3]
    rw [e3] at hw
    rw [hw.1]
    by_cases h : b + X < 256 ∨ (4294967296 ≤ b + X ∧ b + X < 4294967552)
    · refine Or.inl ⟨ng_cong (b := 0) (by omega), ?_, ?_⟩
      · congr 1; omega
      · rw [e2, nI_add]; congr 1; omega
    · refine Or.inr ⟨fun q => ?_, fun q => ?_, rfl, hw.2, ?_⟩
      · have := ng_0 q
        omega
      · have := (nI_eq (by omega) (by omega)).mp q
        omega
      · rw [e2, nI_add, nI_add, ng_and _ (m := 65535) 16 (by decide) (by decide)]
        congr 1
        omega
theorem us_eq {q cd a x y fl po ln rs ro f2 en ac : Int32} {ra rA rc rk pi co ky la cn ct : Nat → Int32} (hq : ¬ q < 0) (n1 : ¬ cd = 134) (n2 : ¬ cd = 132) (ja : vp_in a 256) (jf : vp_in fl 256) (hM : MI po ln rs ro f2 ra rA rc rk pi co la cn ct) : ∃ (a' fl' po' lt' rs' ro' f2' en' : Int32) (ra' pi' co' la' cn' ct' : Nat → Int32), fX7_operand q po ln rs ro f2 en a fl cd ac ra rA rc rk pi co ky la cn ct = (po', rs', ro', f2', en', a', fl', 0, lt', ac + 1, ra', pi', co', la', cn', ct') ∧ fX3_useOperandAt q cd a x y fl po ln (pi 0) (pi 1) (pi 2) (pi 3) (pi 6) rs (pi 5) ro (kbv ro ky 8) f2 en 9 (ct 0) (cn 0) (la 0) 73 (ct 1) (cn 1) (la 1) ra rA rc rk co ky = (0, 0, a', fl', po', lt', pi' 0, pi' 1, pi' 2, pi' 3, pi' 6, rs', pi' 5, ro', kbv ro' ky 8, f2', en', ct' 0, cn' 0, la' 0, ct' 1, cn' 1, la' 1, ra', co') ∧ vp_in a' 256 ∧ vp_in fl' 256 ∧ MI po' ln rs' ro' f2' ra' rA rc rk pi' co' la' cn' ct' := by
  unfold fX7_operand fX3_useOperandAt
  by_cases h4 : (cd >>> ((5:Int32) &&& (31:Int32))) = 4
  · have hs : ¬ fX3_stores cd = 0 := by unfold fX3_stores; rw [if_pos h4]; decide
    obtain ⟨po', rs', ro', en', ra', pi', co', la', cn', ct', e7, e6, hM'⟩ := wr_eq (en := en) (ac := ac) (ky := ky) hq ja hM
    simp (disch := first | decide | assumption) only [↓if_pos, ↓if_neg, e7, e6, fX3_endInstruction]
    exact ⟨a, fl, po', (q &&& 8191) + 8192, rs', ro', f2, en', ra', pi', co', la', cn', ct', rfl, rfl, ja, jf, hM'⟩
  · have hs : fX3_stores cd = 0 := by unfold fX3_stores; rw [if_neg h4]
    obtain ⟨r, f', e7, e6, hr, hM'⟩ := rd_eq (en := en) (ac := ac) (ky := ky) hq hM
    obtain ⟨v, g, o7, o6, hv, hg⟩ := op_eq cd hr ja jf
    simp (disch := first | decide | assumption) only [↓if_pos, ↓if_neg, e7, e6, o7, o6, fX3_endInstruction]
    exact ⟨v, g, po, q &&& 8191, rs, ro, f', en, ra, pi, co, la, cn, ct, rfl, rfl, hv, hg, hM'⟩
theorem lx_id {lo x : Int32} (hl : vp_in lo 256) (hx : vp_in x 256) (h : ¬ (255:Int32) < lo + x) : (lo + x) &&& 255 = lo + x := by
  obtain ⟨n, hn, rfl⟩ := by_of hl
  obtain ⟨k, hk, rfl⟩ := by_of hx
  rw [nI_add, show (255:Int32) = nI 255 from rfl, nI_ltI (by decide) (by omega)] at h
  rw [nI_add]
  exact by_m (by_in (by omega))
