-- both runs together
def RT (c : Int32) (rA rc rk ky : Nat → Int32) (t6 : TX6run) (t7 : TX7run) : Prop :=
  match t6, t7 with
  | (made, jm6, w6, ib6, kd, st6, cd, lo, hi, ch, ms, a6, x6, y6, s6, fl6, p6, po6, lt6, ln6, cy6, q0, q1, q2, q3, q6, rs6, q5, id6, bad6, gl6, row, ro6, ks, f26, en6, c0, n0, l0, c1, n1, l1, ra6, pt6, co6, wc6, wo6), (po, ln, cy, rs, idl, bad, gl, fe, ro, f2, en, a, x, y, s, fl, p, jm, mcd, st, mlo, mhi, old, lt, cyc, w, ib, ac, ra, pi, wc, wo, co, pt, la, cn, ct) => ac = made ∧ cyc = c ∧ Rel c jm6 w6 ib6 kd st6 cd lo hi ch ms a6 x6 y6 s6 fl6 p6 po6 lt6 ln6 cy6 q0 q1 q2 q3 q6 rs6 q5 id6 bad6 gl6 row ro6 ks f26 en6 9 c0 n0 l0 73 c1 n1 l1 po ln cy rs idl bad gl fe ro f2 en a x y s fl p jm mcd st mlo mhi old lt cyc w ib ac ra6 rA rc rk pt6 co6 wc6 wo6 ky ra rA rc rk pi wc wo co pt ky la cn ct
set_option maxHeartbeats 2000000 in
theorem rt_step {c : Int32} {rA rc rk ky : Nat → Int32} {t6 : TX6run} {t7 : TX7run} (h : RT c rA rc rk ky t6 t7) : RT (c + 1) rA rc rk ky (tX6_run 9 73 rA rc rk ky t6) (tX7_run rA rc rk ky t7) := by
  obtain ⟨made, jm6, w6, ib6, kd, st6, cd, lo, hi, ch, ms, a6, x6, y6, s6, fl6, p6, po6, lt6, ln6, cy6, q0, q1, q2, q3, q6, rs6, q5, id6, bad6, gl6, row, ro6, ks, f26, en6, c0, n0, l0, c1, n1, l1, ra6, pt6, co6, wc6, wo6⟩ := t6
  obtain ⟨po, ln, cy, rs, idl, bad, gl, fe, ro, f2, en, a, x, y, s, fl, p, jm, mcd, st, mlo, mhi, old, lt, cyc, w, ib, ac, ra, pi, wc, wo, co, pt, la, cn, ct⟩ := t7
  obtain ⟨rfl, rfl, hR⟩ := h
  obtain ⟨-, rfl, rfl, rfl, rfl, rfl, rfl, rfl, rfl, rfl, rfl, rfl, rfl, rfl, rfl, rfl, rfl, rfl, rfl, rfl, rfl, rfl, rfl, rfl, rfl, rfl, rfl, rfl, -, rfl, rfl, rfl, -, rfl, rfl, rfl, rfl, -, -, -, rfl, rfl, rfl, rfl, -, hRP, hRG, hrs, ha, hx, hy, hs, hfl, hp, hpo, hlc, hlo, hhi, hro, hf2, hpi, hp5, hp6, hcn, hla, hct, hra, hrA, hrc, hrk, hwc, hco⟩ := hR
  obtain ⟨l, cc, f, rfl, rfl, rfl, hl, hc, hf⟩ := hlc
  unfold tX6_run tX7_run
  dsimp only
  unfold bX6_run bX7_run
  have hf40 : f ≤ 41 := by omega
  rw [m3 (by omega)]
  obtain ⟨rs', idl', bad', mbad', gl', mgl', f', wc', wo', pt', p7, p2, hrs', hwc', hf', hb, hb2, hg', h8', h9'⟩ := pic_eq (rc := rc) (pi := pi) (wo := wo) (co := co) (po := pt) hl hc hf hRG hrs hra hwc
  obtain ⟨f2', cn', ct', u7, u6, hf2', hcn', hct'⟩ := tm_eq hf2 hla hcn hct
  have hwb := wb_eq hc hb2
  simp only [p7, p2, u7, u6, hwb]
  have hMI : MI po (nI l) rs' ro f2' ra rA rc rk pi co la cn' ct' := ⟨⟨hpo, hrs', hro, hra, hpi, hp5, hp6, hco, hla, hcn', hct'⟩, vp_in_nI hl (by decide), hf2', hrA, hrc, hrk⟩
  have hq := pr_eq (cy := nI cc) (bad := mbad') (w := w) (ib := ib) (lt := lt) (en := en) (ac := ac) (ky := ky) hRP ⟨ha, hx, hy, hs, hfl, hp, hlo, hhi⟩ hMI
  generalize fX7_processorCycle po (nI l) (nI cc) rs' mbad' ro f2' en a x y s fl p jm mcd st mlo mhi old lt w ib ac ra rA rc rk pi co ky la cn' ct' = v7 at hq ⊢
  generalize fX3_makeAccess (fX7_wanted (nI cc) mbad') jm w ib kd st cd lo hi ch ms a x y s fl p po lt (nI l) (pi 0) (pi 1) (pi 2) (pi 3) (pi 6) rs' (pi 5) ro (kbv ro ky 8) f2' en 9 (ct' 0) (cn' 0) (la 0) 73 (ct' 1) (cn' 1) (la 1) ra rA rc rk co ky = v6 at hq ⊢
  obtain ⟨Po, Rs, Ro, F2, En, Aa, Xx, Yy, Ss, Fl, Pp, Jm, Mcd, St, Mlo, Mhi, Old, Lt, Ww, Ib, Ac, Ra, Pi, Co, La, Cn, Ct⟩ := v7
  obtain ⟨Rr, Jm6, Ww6, Ib6, Kd, St6, Cd, Lo, Hi, Ch, Ms, Aa6, Xx6, Yy6, Ss6, Fl6, Pp6, Po6, Lt6, Q0, Q1, Q2, Q3, Q6, Rs6, Q5, Ro6, Ks, F26, En6, C0, N0, L0, C1, N1, L1, Ra6, Co6⟩ := v6
  obtain ⟨hr, rfl, rfl, rfl, rfl, rfl, rfl, rfl, rfl, rfl, rfl, rfl, rfl, rfl, rfl, rfl, rfl, rfl, rfl, rfl, rfl, rfl, rfl, rfl, rfl, rfl, rfl, rfl, rfl, rfl, rfl, rfl, hP2, ⟨ja, jx, jy, js, jf, jp, jl, jh⟩, ⟨b1, b2, b3, b4, b5, b6, b7, b8, b9, b10, b11⟩, -, hf2b, -, -, -⟩ := hq
  obtain ⟨ln2, cy2, a1, a2, a3, hF2, hG2, hl2⟩ := nxt_eq hl hc hf' hb hb2 hg' h8' h9'
  have hf41 : f' ≤ 41 := by omega
  rcases hr with ⟨rfl, rfl⟩ | ⟨rfl, rfl⟩
  · simp only [a1, a2, a3, ↓reduceIte]
    exact ⟨rfl, rfl, rfl, rfl, rfl, rfl, rfl, rfl, rfl, rfl, rfl, rfl, rfl, rfl, rfl, rfl, rfl, rfl, rfl, rfl, rfl, rfl, rfl, rfl, rfl, (m3 (by omega)).symm, rfl, rfl, rfl, rfl, rfl, rfl, rfl, rfl, rfl, rfl, rfl, rfl, rfl, rfl, rfl, rfl, rfl, rfl, rfl, rfl, rfl, hP2, hG2, b2, ja, jx, jy, js, jf, jp, b1, hF2, jl, jh, b3, hf2b, b5, b6, b7, b10, b9, b11, b4, hrA, hrc, hrk, hwc', b8⟩
  · simp only [a1, a2, a3, if_neg (show ¬ (1:Int32) = 0 by decide)]
    exact ⟨rfl, rfl, rfl, rfl, rfl, rfl, rfl, rfl, rfl, rfl, rfl, rfl, rfl, rfl, rfl, rfl, rfl, rfl, rfl, rfl, rfl, rfl, rfl, rfl, rfl, (m3 (by omega)).symm, rfl, rfl, rfl, rfl, rfl, rfl, rfl, rfl, rfl, rfl, rfl, rfl, rfl, rfl, rfl, rfl, rfl, rfl, rfl, rfl, rfl, hP2, hG2, b2, ja, jx, jy, js, jf, jp, b1, hF2, jl, jh, b3, hf2b, b5, b6, b7, b10, b9, b11, b4, hrA, hrc, hrk, hwc', b8⟩
theorem rt_all {c : Int32} {rA rc rk ky : Nat → Int32} {t6 : TX6run} {t7 : TX7run} (h : RT c rA rc rk ky t6 t7) : ∀ n, RT (c + nI n) rA rc rk ky (itX6_run 9 73 rA rc rk ky t6 n) (itX7_run rA rc rk ky t7 n) := by
  intro n
  induction n with
  | zero =>
    have e : c + nI 0 = c := Int32.add_zero c
    rw [e]
    exact h
  | succ n ih =>
    have h2 := rt_step ih
    rw [Int32.add_assoc, nI_1] at h2
    exact h2
theorem rt_I6 {c : Int32} {rA rc rk ky : Nat → Int32} {t6 : TX6run} {t7 : TX7run} (h : RT c rA rc rk ky t6 t7) : IX6 t6 := by
  obtain ⟨made, jm6, w6, ib6, kd, st6, cd, lo, hi, ch, ms, a6, x6, y6, s6, fl6, p6, po6, lt6, ln6, cy6, q0, q1, q2, q3, q6, rs6, q5, id6, bad6, gl6, row, ro6, ks, f26, en6, c0, n0, l0, c1, n1, l1, ra6, pt6, co6, wc6, wo6⟩ := t6
  obtain ⟨po, ln, cy, rs, idl, bad, gl, fe, ro, f2, en, a, x, y, s, fl, p, jm, mcd, st, mlo, mhi, old, lt, cyc, w, ib, ac, ra, pi, wc, wo, co, pt, la, cn, ct⟩ := t7
  obtain ⟨rfl, rfl, hR⟩ := h
  obtain ⟨-, rfl, rfl, rfl, rfl, rfl, rfl, rfl, rfl, rfl, rfl, rfl, rfl, rfl, rfl, rfl, rfl, rfl, rfl, rfl, rfl, rfl, rfl, rfl, rfl, rfl, rfl, rfl, -, rfl, rfl, rfl, -, rfl, rfl, rfl, rfl, -, -, -, rfl, rfl, rfl, rfl, -, hRP, hRG, hrs, ha, hx, hy, hs, hfl, hp, hpo, hlc, hlo, hhi, hro, hf2, hpi, hp5, hp6, hcn, hla, hct, hra, hrA, hrc, hrk, hwc, hco⟩ := hR
  obtain ⟨l, cc, f, rfl, rfl, rfl, hl, hc, hf⟩ := hlc
  have hf40 : f ≤ 41 := by omega
  refine ⟨vp_in_nI hl (by decide), hp6, ?_, hRG.2.2.1⟩
  show vp_in (nI f - nI f / 3 * 3) 3
  rw [m3 (by omega)]
  exact vp_in_nI (Nat.mod_lt _ (by decide)) (by decide)
theorem rt_I7 {c : Int32} {rA rc rk ky : Nat → Int32} {t6 : TX6run} {t7 : TX7run} (h : RT c rA rc rk ky t6 t7) : IX7 t7 := by
  obtain ⟨made, jm6, w6, ib6, kd, st6, cd, lo, hi, ch, ms, a6, x6, y6, s6, fl6, p6, po6, lt6, ln6, cy6, q0, q1, q2, q3, q6, rs6, q5, id6, bad6, gl6, row, ro6, ks, f26, en6, c0, n0, l0, c1, n1, l1, ra6, pt6, co6, wc6, wo6⟩ := t6
  obtain ⟨po, ln, cy, rs, idl, bad, gl, fe, ro, f2, en, a, x, y, s, fl, p, jm, mcd, st, mlo, mhi, old, lt, cyc, w, ib, ac, ra, pi, wc, wo, co, pt, la, cn, ct⟩ := t7
  obtain ⟨rfl, rfl, hR⟩ := h
  obtain ⟨-, rfl, rfl, rfl, rfl, rfl, rfl, rfl, rfl, rfl, rfl, rfl, rfl, rfl, rfl, rfl, rfl, rfl, rfl, rfl, rfl, rfl, rfl, rfl, rfl, rfl, rfl, rfl, -, rfl, rfl, rfl, -, rfl, rfl, rfl, rfl, -, -, -, rfl, rfl, rfl, rfl, -, hRP, hRG, hrs, ha, hx, hy, hs, hfl, hp, hpo, hlc, hlo, hhi, hro, hf2, hpi, hp5, hp6, hcn, hla, hct, hra, hrA, hrc, hrk, hwc, hco⟩ := hR
  obtain ⟨l, cc, f, rfl, rfl, rfl, hl, hc, hf⟩ := hlc
  have hf40 : f ≤ 41 := by omega
  exact ⟨vp_in_nI hl (by decide), rg_nn hRG.2.2.2, hwc, nI_pos (by omega), hra, hp6, hp, hs, hlo, hhi, hx⟩
theorem rt_z {c k d : Int32} {rA rc rk ky : Nat → Int32} {t6 : TX6run} {t7 : TX7run} (h : RT c rA rc rk ky t6 t7) (hc : c = k + d) {zbo r7 zmade zjm6 zw6 zib6 zkd zst6 zcd zlo zhi zch zms za6 zx6 zy6 zs6 zfl6 zp6 zpo6 zlt6 zln6 zcy6 zq0 zq1 zq2 zq3 zq6 zrs6 zq5 zid6 zbad6 zgl6 zrow zro6 zks zf26 zen6 zc0 zn0 zl0 zc1 zn1 zl1 ypo yln ycy yrs yidl ybad ygl yfe yro yf2 yen ya yx yy ys yfl yp yjm ymcd yst ymlo ymhi yold ylt ycyc yw yib yac : Int32} {zra6 zpt6 zco6 zwc6 zwo6 yra ypi ywc ywo yco ypt yla ycn yct : Nat → Int32} (e6 : (zmade, zbo, zjm6, zw6, zib6, zkd, zst6, zcd, zlo, zhi, zch, zms, za6, zx6, zy6, zs6, zfl6, zp6, zpo6, zlt6, zln6, zcy6, zq0, zq1, zq2, zq3, zq6, zrs6, zq5, zid6, zbad6, zgl6, zrow, zro6, zks, zf26, zen6, zc0, zn0, zl0, zc1, zn1, zl1, zra6, zpt6, zco6, zwc6, zwo6) = zX6_run k d t6) (e7 : (r7, ypo, yln, ycy, yrs, yidl, ybad, ygl, yfe, yro, yf2, yen, ya, yx, yy, ys, yfl, yp, yjm, ymcd, yst, ymlo, ymhi, yold, ylt, ycyc, yw, yib, yac, yra, ypi, ywc, ywo, yco, ypt, yla, ycn, yct) = zX7_run t7) : zmade = r7 ∧ Rel zbo zjm6 zw6 zib6 zkd zst6 zcd zlo zhi zch zms za6 zx6 zy6 zs6 zfl6 zp6 zpo6 zlt6 zln6 zcy6 zq0 zq1 zq2 zq3 zq6 zrs6 zq5 zid6 zbad6 zgl6 zrow zro6 zks zf26 zen6 9 zc0 zn0 zl0 73 zc1 zn1 zl1 ypo yln ycy yrs yidl ybad ygl yfe yro yf2 yen ya yx yy ys yfl yp yjm ymcd yst ymlo ymhi yold ylt ycyc yw yib yac zra6 rA rc rk zpt6 zco6 zwc6 zwo6 ky yra rA rc rk ypi ywc ywo yco ypt ky yla ycn yct := by
  obtain ⟨made, jm6, w6, ib6, kd, st6, cd, lo, hi, ch, ms, a6, x6, y6, s6, fl6, p6, po6, lt6, ln6, cy6, q0, q1, q2, q3, q6, rs6, q5, id6, bad6, gl6, row, ro6, ks, f26, en6, c0, n0, l0, c1, n1, l1, ra6, pt6, co6, wc6, wo6⟩ := t6
  obtain ⟨po, ln, cy, rs, idl, bad, gl, fe, ro, f2, en, a, x, y, s, fl, p, jm, mcd, st, mlo, mhi, old, lt, cyc, w, ib, ac, ra, pi, wc, wo, co, pt, la, cn, ct⟩ := t7
  unfold zX6_run at e6
  unfold zX7_run at e7
  dsimp only at e6 e7
  simp only [Prod.mk.injEq] at e6 e7
  obtain ⟨rfl, rfl, rfl, rfl, rfl, rfl, rfl, rfl, rfl, rfl, rfl, rfl, rfl, rfl, rfl, rfl, rfl, rfl, rfl, rfl, rfl, rfl, rfl, rfl, rfl, rfl, rfl, rfl, rfl, rfl, rfl, rfl, rfl, rfl, rfl, rfl, rfl, rfl, rfl, rfl, rfl, rfl, rfl, rfl, rfl, rfl, rfl, rfl⟩ := e6
  obtain ⟨rfl, rfl, rfl, rfl, rfl, rfl, rfl, rfl, rfl, rfl, rfl, rfl, rfl, rfl, rfl, rfl, rfl, rfl, rfl, rfl, rfl, rfl, rfl, rfl, rfl, rfl, rfl, rfl, rfl, rfl, rfl, rfl, rfl, rfl, rfl, rfl, rfl, rfl⟩ := e7
  obtain ⟨h1, h2, hR⟩ := h
  subst hc
  exact ⟨h1.symm, hR⟩
