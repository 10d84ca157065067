-- timers
theorem c_m1 : ∀ n : Nat, n < 128 → (nI n &&& 1 = 1) → nI n - 1 = nI n &&& -2 ∧ (nI n &&& -2) &&& 127 = nI n &&& -2 := by decide +kernel
theorem c_in {c : Int32} (h : vp_in c 128) (h1 : (c &&& 1) = 1) : c - 1 = c &&& -2 ∧ vp_in (c &&& -2) 128 := by
  obtain ⟨n, hn, rfl⟩ := vp_in_of h (by decide)
  obtain ⟨e1, e2⟩ := c_m1 n hn h1
  refine ⟨e1, ?_⟩
  rw [← e2]
  exact pk_andIn _ 7 (by decide) (by decide)
theorem n_le0 {x : Int32} (h : vp_in x 65536) : (x ≤ 0) ↔ (x = 0) := by
  obtain ⟨n, hn, rfl⟩ := vp_in_of h (by decide)
  rw [show (0:Int32) = nI 0 from rfl, nI_leI (by omega) (by decide), nI_eq (by omega) (by decide)]
  omega
theorem n_dec {x : Int32} (h : vp_in x 65536) (h0 : ¬ x = 0) : vp_in (x - 1) 65536 := by
  obtain ⟨n, hn, rfl⟩ := vp_in_of h (by decide)
  have h1 : n ≠ 0 := fun e => h0 (by rw [e]; rfl)
  rw [show (1:Int32) = nI 1 from rfl, pk_sub (by omega)]
  exact vp_in_nI (by omega) (by decide)
theorem td0 {f2 : Int32} {la cn ct : Nat → Int32} (h1 : (ct 0 &&& 1) = 1) (hc : vp_in (ct 0) 128) (hn : vp_in (cn 0) 65536) (hl : vp_in (la 0) 65536) : ∃ (r c n : Int32) (ct' : Nat → Int32), fX5_countDown (ct 0) (cn 0) (la 0) = (r, c, n) ∧ fX7_timer 0 f2 la cn ct = (r, (if r = 0 then f2 else (f2 ||| 1)), upd cn 0 n, ct') ∧ (r = 0 ∨ r = 1) ∧ ct' 0 = c ∧ ct' 1 = ct 1 ∧ (∀ i, vp_in (ct i) 128 → vp_in (ct' i) 128) ∧ vp_in n 65536 := by
  have e7 : fX7_timer 0 f2 la cn ct = (if cn 0 ≤ 0 then ((1:Int32), f2 ||| 1, upd cn 0 (la 0), upd ct 0 (if (ct 0 &&& 8) = 0 then ct 0 else (ct 0 - 1))) else ((0:Int32), f2, upd cn 0 (cn 0 - 1), ct)) := rfl
  obtain ⟨k1, k2⟩ := c_in hc h1
  unfold fX5_countDown
  rw [e7]
  by_cases hz : cn 0 = 0
  · rw [if_pos ((n_le0 hn).mpr hz), if_pos hz]
    by_cases h8 : (ct 0 &&& 8) = 0
    · rw [if_pos h8, if_pos h8]
      exact ⟨1, ct 0, la 0, upd ct 0 (ct 0), rfl, by rw [if_neg (by decide)], Or.inr rfl, rfl, rfl, fun i hi => up_in hi hc, hl⟩
    · rw [if_neg h8, if_neg h8, k1]
      exact ⟨1, ct 0 &&& -2, la 0, upd ct 0 (ct 0 &&& -2), rfl, by rw [if_neg (by decide)], Or.inr rfl, rfl, rfl, fun i hi => up_in hi k2, hl⟩
  · rw [if_neg (fun h => hz ((n_le0 hn).mp h)), if_neg hz]
    exact ⟨0, ct 0, cn 0 - 1, ct, rfl, by rw [if_pos rfl], Or.inl rfl, rfl, rfl, fun i hi => hi, n_dec hn hz⟩
theorem td1 {f2 : Int32} {la cn ct : Nat → Int32} (h1 : (ct 1 &&& 1) = 1) (hc : vp_in (ct 1) 128) (hn : vp_in (cn 1) 65536) (hl : vp_in (la 1) 65536) : ∃ (r c n : Int32) (ct' : Nat → Int32), fX5_countDown (ct 1) (cn 1) (la 1) = (r, c, n) ∧ fX7_timer 1 f2 la cn ct = (r, (if r = 0 then f2 else (f2 ||| 2)), upd cn 1 n, ct') ∧ (r = 0 ∨ r = 1) ∧ ct' 1 = c ∧ ct' 0 = ct 0 ∧ (∀ i, vp_in (ct i) 128 → vp_in (ct' i) 128) ∧ vp_in n 65536 := by
  have e7 : fX7_timer 1 f2 la cn ct = (if cn 1 ≤ 0 then ((1:Int32), f2 ||| 2, upd cn 1 (la 1), upd ct 1 (if (ct 1 &&& 8) = 0 then ct 1 else (ct 1 - 1))) else ((0:Int32), f2, upd cn 1 (cn 1 - 1), ct)) := rfl
  obtain ⟨k1, k2⟩ := c_in hc h1
  unfold fX5_countDown
  rw [e7]
  by_cases hz : cn 1 = 0
  · rw [if_pos ((n_le0 hn).mpr hz), if_pos hz]
    by_cases h8 : (ct 1 &&& 8) = 0
    · rw [if_pos h8, if_pos h8]
      exact ⟨1, ct 1, la 1, upd ct 1 (ct 1), rfl, by rw [if_neg (by decide)], Or.inr rfl, rfl, rfl, fun i hi => up_in hi hc, hl⟩
    · rw [if_neg h8, if_neg h8, k1]
      exact ⟨1, ct 1 &&& -2, la 1, upd ct 1 (ct 1 &&& -2), rfl, by rw [if_neg (by decide)], Or.inr rfl, rfl, rfl, fun i hi => up_in hi k2, hl⟩
  · rw [if_neg (fun h => hz ((n_le0 hn).mp h)), if_neg hz]
    exact ⟨0, ct 1, cn 1 - 1, ct, rfl, by rw [if_pos rfl], Or.inl rfl, rfl, rfl, fun i hi => hi, n_dec hn hz⟩
theorem f4_1 {x : Int32} (h : vp_in x 4) : vp_in (x ||| 1) 4 := by
  obtain ⟨n, hn, rfl⟩ := vp_in_of h (by decide)
  rw [show (1:Int32) = nI 1 from rfl, nx_or]
  exact vp_in_nI (Nat.or_lt_two_pow (n := 2) hn (by decide)) (by decide)
theorem f4_2 {x : Int32} (h : vp_in x 4) : vp_in (x ||| 2) 4 := by
  obtain ⟨n, hn, rfl⟩ := vp_in_of h (by decide)
  rw [show (2:Int32) = nI 2 from rfl, nx_or]
  exact vp_in_nI (Nat.or_lt_two_pow (n := 2) hn (by decide)) (by decide)
theorem tm_eq {f2 : Int32} {la cn ct : Nat → Int32} (hf : vp_in f2 4) (hla : ∀ i, vp_in (la i) 65536) (hcn : ∀ i, vp_in (cn i) 65536) (hct : ∀ i, vp_in (ct i) 128) : ∃ (f' : Int32) (cn' ct' : Nat → Int32), fX7_timers f2 la cn ct = (f', cn', ct') ∧ fX1_countTimers f2 (ct 0) (cn 0) (la 0) (ct 1) (cn 1) (la 1) = (f', ct' 0, cn' 0, ct' 1, cn' 1) ∧ vp_in f' 4 ∧ (∀ i, vp_in (cn' i) 65536) ∧ (∀ i, vp_in (ct' i) 128) := by
  unfold fX7_timers fX1_countTimers fX5_isRunning fX5_isCascaded
  simp only [show (0:Int32).toNatClampNeg = 0 from rfl, show (1:Int32).toNatClampNeg = 1 from rfl]
  rcases bit1 (ct 0) with h0 | h0
  · rcases bit1 (ct 1) with h1 | h1
    · simp only [h0, h1]
      simp (disch := decide) only [if_pos, if_neg]
      exact ⟨f2, cn, ct, rfl, rfl, hf, hcn, hct⟩
    · by_cases h64 : (ct 1 &&& 64) = 0
      · obtain ⟨r, c, n, ct', e6, e7, hr, g1, g0, gr, hn⟩ := td1 (f2 := f2) h1 (hct 1) (hcn 1) (hla 1)
        simp only [h0, h1, h64]
        simp (disch := decide) only [if_pos, if_neg, e6, e7]
        rcases hr with rfl | rfl
        · simp (disch := decide) only [if_pos, if_neg]
          exact ⟨f2, upd cn 1 n, ct', rfl, by rw [g0, g1]; rfl, hf, rg_upd hcn hn, fun i => gr i (hct i)⟩
        · simp (disch := decide) only [if_pos, if_neg]
          exact ⟨f2 ||| 2, upd cn 1 n, ct', rfl, by rw [g0, g1]; rfl, f4_2 hf, rg_upd hcn hn, fun i => gr i (hct i)⟩
      · simp only [h0, h1]
        simp (disch := first | decide | assumption) only [if_pos, if_neg]
        exact ⟨f2, cn, ct, rfl, rfl, hf, hcn, hct⟩
  · obtain ⟨r, c, n, ct', e6, e7, hr, g0, g1, gr, hn⟩ := td0 (f2 := f2) h0 (hct 0) (hcn 0) (hla 0)
    have hcn' := rg_upd (k := 0) hcn hn
    have hct' : ∀ i, vp_in (ct' i) 128 := fun i => gr i (hct i)
    rcases bit1 (ct 1) with h1 | h1
    · simp only [h0, h1, e6, e7, g1]
      rcases hr with rfl | rfl
      · simp (disch := decide) only [if_pos, if_neg]
        exact ⟨f2, upd cn 0 n, ct', rfl, by rw [g0, g1]; rfl, hf, hcn', hct'⟩
      · simp (disch := decide) only [if_pos, if_neg]
        exact ⟨f2 ||| 1, upd cn 0 n, ct', rfl, by rw [g0, g1]; rfl, f4_1 hf, hcn', hct'⟩
    · obtain ⟨r2, c2, n2, ct2, d6, d7, hr2, k1, k0, kr, hn2⟩ := td1 (f2 := (if r = 0 then f2 else (f2 ||| 1))) (cn := upd cn 0 n) (ct := ct') (la := la) (by rw [g1]; exact h1) (hct' 1) (hcn' 1) (hla 1)
      rw [g1] at d6
      have d6 : fX5_countDown (ct 1) (cn 1) (la 1) = (r2, c2, n2) := d6
      rw [g0] at k0
      have hcn2 := rg_upd (k := 1) hcn' hn2
      have hct2 : ∀ i, vp_in (ct2 i) 128 := fun i => kr i (hct' i)
      have w0 : upd (upd cn 0 n) 1 n2 0 = n := rfl
      have w1 : upd (upd cn 0 n) 1 n2 1 = n2 := rfl
      by_cases h64 : (ct 1 &&& 64) = 0
      · simp only [h0, h1, e6, e7, g1, h64]
        rcases hr with rfl | rfl
        · simp (disch := decide) only [if_pos, if_neg] at d7 ⊢
          simp only [d6, d7]
          rcases hr2 with rfl | rfl
          · simp (disch := decide) only [if_pos, if_neg]
            exact ⟨_, _, _, rfl, by rw [k0, k1, w0, w1], hf, hcn2, hct2⟩
          · simp (disch := decide) only [if_pos, if_neg]
            exact ⟨_, _, _, rfl, by rw [k0, k1, w0, w1], f4_2 hf, hcn2, hct2⟩
        · simp (disch := decide) only [if_pos, if_neg] at d7 ⊢
          simp only [d6, d7]
          rcases hr2 with rfl | rfl
          · simp (disch := decide) only [if_pos, if_neg]
            exact ⟨_, _, _, rfl, by rw [k0, k1, w0, w1], f4_1 hf, hcn2, hct2⟩
          · simp (disch := decide) only [if_pos, if_neg]
            exact ⟨_, _, _, rfl, by rw [k0, k1, w0, w1], f4_2 (f4_1 hf), hcn2, hct2⟩
      · simp only [h0, h1, e6, e7, g1]
        rcases hr with rfl | rfl
        · simp (disch := first | decide | assumption) only [if_pos, if_neg]
          exact ⟨f2, upd cn 0 n, ct', rfl, by rw [g0, g1]; rfl, hf, hcn', hct'⟩
        · simp (disch := first | decide | assumption) only [if_pos, if_neg] at d7 ⊢
          simp only [d6, d7]
          rcases hr2 with rfl | rfl
          · simp (disch := decide) only [if_pos, if_neg]
            exact ⟨_, _, _, rfl, by rw [k0, k1, w0, w1], f4_1 hf, hcn2, hct2⟩
          · simp (disch := decide) only [if_pos, if_neg]
            exact ⟨_, _, _, rfl, by rw [k0, k1, w0, w1], f4_2 (f4_1 hf), hcn2, hct2⟩
