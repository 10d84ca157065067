-- accesses, with their bytes
theorem ky_by (ro : Int32) (ky : Nat → Int32) : ∀ n, vp_in (kbv ro ky n) 256 := by
  intro n
  induction n with
  | zero => show vp_in (255:Int32) 256; unfold vp_in; decide
  | succ n ih => exact by_an ih
theorem in_up {x : Int32} {n : Nat} (h : vp_in x n) (hn : n ≤ 256) : vp_in x 256 := by
  rw [vp_in_iff] at h ⊢
  omega
theorem hi8 {x : Int32} (h : vp_in x 65536) : vp_in (x >>> ((8:Int32) &&& (31:Int32))) 256 := by
  obtain ⟨n, hn, rfl⟩ := vp_in_of h (by decide)
  rw [pk_shrN (by omega) ((8:Int32) &&& 31) 8 (by decide)]
  exact by_in (by omega)
theorem w16 (x : Int32) : vp_in (x &&& 65535) 65536 := pk_andIn x 16 (by decide) (by decide)
theorem f2_by {f en : Int32} (h : vp_in f 4) : vp_in (f + (if (f &&& en) = (0:Int32) then (0:Int32) else (128:Int32))) 256 := by
  obtain ⟨n, hn, rfl⟩ := vp_in_of h (by decide)
  by_cases c : (nI n &&& en) = (0:Int32)
  · rw [if_pos c, show (0:Int32) = nI 0 from rfl, nI_add]; exact by_in (by omega)
  · rw [if_neg c, show (128:Int32) = nI 128 from rfl, nI_add]; exact by_in (by omega)
/-- what holds of memory, port, chips, line and ROMs at any time -/
def MI (po ln rs ro f2 : Int32) (ra rA rc rk pi co la cn ct : Nat → Int32) : Prop := BI po rs ro ra pi co la cn ct ∧ vp_in ln 40 ∧ vp_in f2 4 ∧ Byt rA ∧ Byt rc ∧ Byt rk
theorem z_by : vp_in (0:Int32) 256 := by unfold vp_in; decide
theorem o_by : vp_in (1:Int32) 256 := by unfold vp_in; decide
theorem n_by : vp_in (129:Int32) 256 := by unfold vp_in; decide
theorem pm_by {q po : Int32} {ra rA rc rk : Nat → Int32} (hp : vp_in po 256) (hra : Byt ra) (hA : Byt rA) (hc : Byt rc) (hk : Byt rk) : vp_in (fX0_peekMemory q po ra rA rc rk) 256 := by
  unfold fX0_peekMemory
  exact ite_in hp (ite_in (ite_in (ite_in (hra _) (ite_in (hra _) (hc _))) (ite_in (hra _) (hk _))) (ite_in (ite_in (ite_in (hra _) (ite_in (hra _) (hc _))) (ite_in (hra _) (hk _))) (ite_in (ite_in (ite_in (hra _) (ite_in (hra _) (hc _))) (ite_in (hra _) (hk _))) (ite_in (ite_in (ite_in (hra _) (ite_in (hra _) (hc _))) (hra _)) (hA _)))))
theorem pr2_by {q ln p0 p2 p3 p6 rs p5 : Int32} (h0 : vp_in p0 256) (h1 : vp_in ln 256) (h2 : vp_in p2 256) (h3 : vp_in p3 256) (h6 : vp_in p6 256) : vp_in (fX2_peekRegister q ln p0 p2 p3 p6 rs p5) 256 := by
  unfold fX2_peekRegister
  exact ite_in h0 (ite_in h1 (ite_in h2 (ite_in h3 (ite_in (ite_in z_by (ite_in o_by n_by)) (ite_in (ite_in z_by o_by) (ite_in h6 z_by))))))
theorem pr1_by {q ro ks f2 en c0 n0 c1 n1 : Int32} (h0 : vp_in ro 256) (h1 : vp_in ks 256) (h2 : vp_in f2 4) (h3 : vp_in c0 256) (h4 : vp_in c1 256) (h5 : vp_in n0 65536) (h6 : vp_in n1 65536) : vp_in (fX1_peekRegister q ro ks f2 en c0 n0 c1 n1) 256 := by
  unfold fX1_peekRegister
  exact ite_in h0 (ite_in h1 (ite_in (by_and _) (ite_in (hi8 h5) (ite_in (by_and _) (ite_in (hi8 h6) (ite_in (f2_by h2) (ite_in h3 (ite_in h4 z_by))))))))
theorem cc_by {q : Int32} {co : Nat → Int32} (h : Byt co) : vp_in (fX2_cellColour q co) 256 := by
  unfold fX2_cellColour
  exact ite_in z_by (ite_in z_by (h _))
theorem peek_by {q po ln rs ro f2 en : Int32} {ra rA rc rk pi co ky la cn ct : Nat → Int32} (hM : MI po ln rs ro f2 ra rA rc rk pi co la cn ct) : vp_in (fX0_peek q po ln (pi 0) (pi 2) (pi 3) (pi 6) rs (pi 5) ro (kbv ro ky 8) f2 en (ct 0) (cn 0) (ct 1) (cn 1) ra rA rc rk co) 256 := by
  obtain ⟨⟨b1, b2, b3, b4, b5, b6, b7, b8, b9, b10, b11⟩, hl, hf, hA, hc, hk⟩ := hM
  unfold fX0_peek
  exact ite_in (pm_by (in_up b1 (by decide)) b4 hA hc hk) (ite_in (ite_in (cc_by b8) (pr1_by b3 (ky_by _ _ _) hf (in_up (b11 0) (by decide)) (in_up (b11 1) (by decide)) (b10 0) (b10 1))) (pr2_by (b5 0) (in_up hl (by decide)) (b5 2) (b5 3) (b5 6)))
theorem rd1 (q po ln p0 p2 p3 p6 rs p5 ro ks f2 en c0 n0 c1 n1 : Int32) (ra rA rc rk co : Nat → Int32) : (fX0_read q po ln p0 p2 p3 p6 rs p5 ro ks f2 en c0 n0 c1 n1 ra rA rc rk co).1 = fX0_peek (q &&& 8191) po ln p0 p2 p3 p6 rs p5 ro ks f2 en c0 n0 c1 n1 ra rA rc rk co := by
  unfold fX0_read
  by_cases h : fX0_showsRegisters (q &&& 8191) po = 0
  · simp only [if_pos h]
  · simp only [if_neg h]
    by_cases h2 : fX0_isInterfacePlace ((q &&& 8191) - 6656) = 0
    · simp only [if_pos h2]
    · simp only [if_neg h2]
theorem rd_eq {q po ln rs ro f2 en ac : Int32} {ra rA rc rk pi co ky la cn ct : Nat → Int32} (hq : ¬ q < 0) (hM : MI po ln rs ro f2 ra rA rc rk pi co la cn ct) : ∃ r f : Int32, fX7_read q po ln rs ro f2 en ac ra rA rc rk pi co ky cn ct = (r, f, q &&& 8191, ac + 1) ∧ fX0_read q po ln (pi 0) (pi 2) (pi 3) (pi 6) rs (pi 5) ro (kbv ro ky 8) f2 en (ct 0) (cn 0) (ct 1) (cn 1) ra rA rc rk co = (r, q &&& 8191, f) ∧ vp_in r 256 ∧ MI po ln rs ro f ra rA rc rk pi co la cn ct := by
  have hM0 := hM
  obtain ⟨⟨b1, b2, b3, b4, b5, b6, b7, b8, b9, b10, b11⟩, hl, hf, hA, hc, hk⟩ := hM
  obtain ⟨r, f, e7, e6, h⟩ := read_eq (mo_line := ln) (mo_raised := rs) (mo_rows := ro) (mo_flags2 := f2) (mo_enabled := en) (mo_accesses := ac) (f_mra := ra) (f_mrA := rA) (f_mrc := rc) (f_mrk := rk) (f_mco := co) (f_mky := ky) (f_mct := ct) hq b1 b6 b10
  refine ⟨r, f, e7, e6, ?_, ⟨b1, b2, b3, b4, b5, b6, b7, b8, b9, b10, b11⟩, hl, ?_, hA, hc, hk⟩
  · have hr := rd1 q po ln (pi 0) (pi 2) (pi 3) (pi 6) rs (pi 5) ro (kbv ro ky 8) f2 en (ct 0) (cn 0) (ct 1) (cn 1) ra rA rc rk co
    rw [e6] at hr
    have hr : r = _ := hr
    rw [hr]
    exact peek_by hM0
  · rcases h with h | h
    · rw [h]; exact hf
    · rw [h]; unfold vp_in; decide
theorem nx_eq {p po ln rs ro f2 en ac : Int32} {ra rA rc rk pi co ky la cn ct : Nat → Int32} (hp : vp_in p 65536) (hM : MI po ln rs ro f2 ra rA rc rk pi co la cn ct) : ∃ r f : Int32, fX7_next po ln rs ro f2 en p ac ra rA rc rk pi co ky cn ct = (r, f, (p + 1) &&& 65535, p &&& 8191, ac + 1) ∧ fX3_nextByte p po ln (pi 0) (pi 2) (pi 3) (pi 6) rs (pi 5) ro (kbv ro ky 8) f2 en (ct 0) (cn 0) (ct 1) (cn 1) ra rA rc rk co = (r, (p + 1) &&& 65535, p &&& 8191, f) ∧ vp_in r 256 ∧ MI po ln rs ro f ra rA rc rk pi co la cn ct := by
  obtain ⟨r, f, e7, e6, hr, h⟩ := rd_eq (q := p) (en := en) (ac := ac) (ky := ky) (rg_nn hp) hM
  unfold fX7_next fX3_nextByte
  rw [e7, e6]
  exact ⟨r, f, rfl, rfl, hr, h⟩
theorem pl_eq (k : Int32) {s po ln rs ro f2 en ac : Int32} {ra rA rc rk pi co ky la cn ct : Nat → Int32} (hs : vp_in s 256) (hM : MI po ln rs ro f2 ra rA rc rk pi co la cn ct) : ∃ r f : Int32, fX7_pull k po ln rs ro f2 en s ac ra rA rc rk pi co ky cn ct = (r, f, (if k = (0:Int32) then s else ((s + (1:Int32)) &&& (255:Int32))), (256 + s) &&& 8191, ac + 1) ∧ fX3_readStack s po ln (pi 0) (pi 2) (pi 3) (pi 6) rs (pi 5) ro (kbv ro ky 8) f2 en (ct 0) (cn 0) (ct 1) (cn 1) ra rA rc rk co = (r, (256 + s) &&& 8191, f) ∧ vp_in r 256 ∧ MI po ln rs ro f ra rA rc rk pi co la cn ct := by
  obtain ⟨r, f, e7, e6, hr, h⟩ := rd_eq (q := 256 + s) (en := en) (ac := ac) (ky := ky) (rg_s hs) hM
  unfold fX7_pull fX3_readStack
  rw [e7, e6]
  exact ⟨r, f, rfl, rfl, hr, h⟩
theorem wr_eq {q v po ln rs ro f2 en ac : Int32} {ra rA rc rk pi co ky la cn ct : Nat → Int32} (hq : ¬ q < 0) (hv : vp_in v 256) (hM : MI po ln rs ro f2 ra rA rc rk pi co la cn ct) : ∃ (po' rs' ro' en' : Int32) (ra' pi' co' la' cn' ct' : Nat → Int32), fX7_write q v po rs ro en ac ra pi co la cn ct = (po', rs', ro', en', (q &&& 8191) + 8192, ac + 1, ra', pi', co', la', cn', ct') ∧ fX0_write q v po (pi 0) (pi 1) (pi 2) (pi 3) (pi 6) rs (pi 5) ro (kbv ro ky 8) en 9 (ct 0) (cn 0) (la 0) 73 (ct 1) (cn 1) (la 1) ra co ky = (po', (q &&& 8191) + 8192, pi' 0, pi' 1, pi' 2, pi' 3, pi' 6, rs', pi' 5, ro', kbv ro' ky 8, en', ct' 0, cn' 0, la' 0, ct' 1, cn' 1, la' 1, ra', co') ∧ MI po' ln rs' ro' f2 ra' rA rc rk pi' co' la' cn' ct' := by
  obtain ⟨hB, hl, hf, hA, hc, hk⟩ := hM
  obtain ⟨po', rs', ro', en', ra', pi', co', la', cn', ct', e7, e6, hB'⟩ := write_eq (en := en) (ac := ac) (ky := ky) hq hv hB
  exact ⟨po', rs', ro', en', ra', pi', co', la', cn', ct', e7, e6, hB', hl, hf, hA, hc, hk⟩
theorem s1_aux : ∀ n : Nat, n < 256 → (nI n - 1) &&& 255 = (nI n + 255) &&& 255 := by decide +kernel
theorem s1 {s : Int32} (h : vp_in s 256) : (s - 1) &&& 255 = (s + 255) &&& 255 := by
  obtain ⟨n, hn, rfl⟩ := by_of h
  exact s1_aux n hn
theorem ps_eq {s v po ln rs ro f2 en ac : Int32} {ra rA rc rk pi co ky la cn ct : Nat → Int32} (hs : vp_in s 256) (hv : vp_in v 256) (hM : MI po ln rs ro f2 ra rA rc rk pi co la cn ct) : ∃ (po' rs' ro' en' : Int32) (ra' pi' co' la' cn' ct' : Nat → Int32), fX7_push v po rs ro en s ac ra pi co la cn ct = (po', rs', ro', en', (s + 255) &&& 255, ((256 + s) &&& 8191) + 8192, ac + 1, ra', pi', co', la', cn', ct') ∧ fX3_push v s po (pi 0) (pi 1) (pi 2) (pi 3) (pi 6) rs (pi 5) ro (kbv ro ky 8) en 9 (ct 0) (cn 0) (la 0) 73 (ct 1) (cn 1) (la 1) ra co ky = ((s + 255) &&& 255, po', ((256 + s) &&& 8191) + 8192, pi' 0, pi' 1, pi' 2, pi' 3, pi' 6, rs', pi' 5, ro', kbv ro' ky 8, en', ct' 0, cn' 0, la' 0, ct' 1, cn' 1, la' 1, ra', co') ∧ MI po' ln rs' ro' f2 ra' rA rc rk pi' co' la' cn' ct' := by
  obtain ⟨po', rs', ro', en', ra', pi', co', la', cn', ct', e7, e6, h⟩ := wr_eq (q := 256 + s) (en := en) (ac := ac) (ky := ky) (rg_s hs) hv hM
  unfold fX7_push fX3_push
  rw [e7, e6, s1 hs]
  exact ⟨po', rs', ro', en', ra', pi', co', la', cn', ct', rfl, rfl, h⟩
theorem word_eq {lo hi : Int32} (hl : vp_in lo 256) (hh : vp_in hi 256) : fX3_word lo hi = lo + 256 * hi ∧ vp_in (lo + 256 * hi) 65536 := by
  obtain ⟨l, hl2, rfl⟩ := by_of hl
  obtain ⟨h, hh2, rfl⟩ := by_of hh
  unfold fX3_word
  rw [pk_shlN ((8:Int32) &&& 31) 8 (by decide) (by omega), show (256 : Int32) = nI 256 from rfl, pk_mul, nx_or, nI_add]
  refine ⟨?_, vp_in_nI (by omega) (by decide)⟩
  congr 1
  rw [show h * 2 ^ 8 = 2 ^ 8 * h by omega, ← Nat.two_pow_add_eq_or_of_lt hl2]
  omega
theorem hl_and {p : Int32} (h : vp_in p 65536) : ∃ a b : Nat, a < 256 ∧ b < 256 ∧ p = nI (256 * a + b) ∧ p &&& 65280 = nI (256 * a) ∧ p >>> ((8:Int32) &&& (31:Int32)) = nI a ∧ p &&& 255 = nI b := by
  obtain ⟨n, hn, rfl⟩ := vp_in_of h (by decide)
  refine ⟨n / 256, n % 256, by omega, by omega, ?_, ?_, ?_, ?_⟩
  · congr 1; omega
  · rw [show (65280 : Int32) = nI 65280 from rfl, nx_and]
    congr 1
    have h := hb_and (n / 256) (by omega) (n % 256) (Nat.mod_lt _ (by decide))
    rw [show 256 * (n / 256) + n % 256 = n by omega] at h
    exact h
  · exact pk_shrN (by omega) ((8:Int32) &&& 31) 8 (by decide)
  · exact pk_andN (by omega) (m := 255) 8 (by decide)
/-- a new low byte -/
theorem lo_new {p r : Int32} (h : vp_in p 65536) (hr : vp_in r 256) : fX3_word r (p >>> ((8:Int32) &&& (31:Int32))) = (p &&& 65280) + r ∧ vp_in ((p &&& 65280) + r) 65536 := by
  obtain ⟨a, b, ha, hb, -, e2, e3, -⟩ := hl_and h
  have hw := word_eq hr (hi8 h)
  obtain ⟨k, hk, rfl⟩ := by_of hr
  rw [hw.1, e2, e3, show (256 : Int32) = nI 256 from rfl, pk_mul, nI_add, nI_add]
  refine ⟨?_, vp_in_nI (by omega) (by decide)⟩
  congr 1
  omega
