theorem bit1 (x : Int32) : (x &&& 1) = 0 ∨ (x &&& 1) = 1 := by
  obtain ⟨j, hj, he⟩ := pk_andE x (m := 1) 1 (by decide)
  rw [he]
  have hj : j < 2 := hj
  rcases (show j = 0 ∨ j = 1 by omega) with rfl | rfl
  · exact Or.inl rfl
  · exact Or.inr rfl
theorem lt_16 {x : Int32} (h : vp_in x 16) : vp_in x 256 := by
  rw [vp_in_iff] at h ⊢
  omega
theorem and15 (x : Int32) : vp_in (x &&& 15) 16 := pk_andIn x 4 (by decide) (by decide)
/-- what a write of a picture register does -/
theorem setp_eq {o : Nat} (ho : o < 64) {v rs ro en : Int32} {pi co la cn ct : Nat → Int32} (hv : vp_in v 256) (hrs : rs = 0 ∨ rs = 1) (hpi : Byt pi) (h5 : pi 5 = 0 ∨ pi 5 = 1) (h6 : vp_in (pi 6) 16) : ∃ (rs' : Int32) (pi' : Nat → Int32), fX7_set (nI o) v rs ro en pi co la cn ct = (rs', ro, en, pi', co, la, cn, ct) ∧ fX2_writeRegister (nI o &&& 15) v (pi 0) (pi 1) (pi 2) (pi 3) (pi 6) rs (pi 5) = (pi' 0, pi' 1, pi' 2, pi' 3, pi' 6, rs', pi' 5) ∧ (rs' = 0 ∨ rs' = 1) ∧ Byt pi' ∧ (pi' 5 = 0 ∨ pi' 5 = 1) ∧ vp_in (pi' 6) 16 := by
  have a1 : ¬ (64 : Int32) ≤ nI o := by rw [show (64 : Int32) = nI 64 from rfl, nI_leI (by decide) (by omega)]; omega
  unfold fX7_set fX2_writeRegister
  rw [r16 (by omega), m16 (by omega), if_neg a1]
  have hr : o % 16 < 16 := Nat.mod_lt _ (by decide)
  generalize o % 16 = r at hr ⊢
  rcases (show r = 0 ∨ r = 1 ∨ r = 2 ∨ r = 3 ∨ r = 4 ∨ r = 5 ∨ r = 6 ∨ r = 7 ∨ r = 8 ∨ r = 9 ∨ r = 10 ∨ r = 11 ∨ r = 12 ∨ r = 13 ∨ r = 14 ∨ r = 15 by omega) with rfl | rfl | rfl | rfl | rfl | rfl | rfl | rfl | rfl | rfl | rfl | rfl | rfl | rfl | rfl | rfl <;> simp (disch := decide) only [if_pos, if_neg]
  · exact ⟨rs, upd pi 0 (v &&& 23), rfl, rfl, hrs, rg_upd hpi (by_an hv), h5, h6⟩
  · exact ⟨rs, upd pi 1 v, rfl, rfl, hrs, rg_upd hpi hv, h5, h6⟩
  · exact ⟨rs, upd pi 2 (v &&& 15), rfl, rfl, hrs, rg_upd hpi (by_an hv), h5, h6⟩
  · exact ⟨rs, upd pi 3 (v &&& 15), rfl, rfl, hrs, rg_upd hpi (by_an hv), h5, h6⟩
  · rcases bit1 v with h | h
    · rw [if_neg (show ¬ (v &&& 1) = 1 by rw [h]; decide), if_pos h]
      rcases hrs with rfl | rfl
      · exact ⟨0, pi, rfl, rfl, Or.inl rfl, hpi, h5, h6⟩
      · exact ⟨1, pi, rfl, rfl, Or.inr rfl, hpi, h5, h6⟩
    · rw [if_pos h, if_neg (show ¬ (v &&& 1) = 0 by rw [h]; decide), ite_self]
      exact ⟨0, pi, rfl, rfl, Or.inl rfl, hpi, h5, h6⟩
  · refine ⟨rs, upd pi 5 (v &&& 1), rfl, ?_, hrs, rg_upd hpi (by_an hv), bit1 v, h6⟩
    rcases bit1 v with h | h
    · rw [if_pos h, h]; rfl
    · rw [if_neg (show ¬ (v &&& 1) = 0 by rw [h]; decide), h]; rfl
  · exact ⟨rs, upd pi 6 (v &&& 15), rfl, rfl, hrs, rg_upd hpi (by_an hv), h5, and15 v⟩
  all_goals exact ⟨rs, pi, rfl, rfl, hrs, hpi, h5, h6⟩
theorem hb_and : ∀ h : Nat, h < 256 → ∀ l : Nat, l < 256 → (256 * h + l) &&& 65280 = 256 * h := by decide +kernel
theorem lat_lo {x v : Int32} (hx : vp_in x 65536) (hv : vp_in v 256) : (x &&& 65280) ||| v = (x &&& 65280) + v ∧ vp_in ((x &&& 65280) + v) 65536 := by
  obtain ⟨n, hn, rfl⟩ := vp_in_of hx (by decide)
  obtain ⟨w, hw, rfl⟩ := by_of hv
  have e : nI n &&& 65280 = nI (256 * (n / 256)) := by
    rw [show (65280 : Int32) = nI 65280 from rfl, nx_and]
    congr 1
    have h := hb_and (n / 256) (by omega) (n % 256) (Nat.mod_lt _ (by decide))
    rw [show 256 * (n / 256) + n % 256 = n by omega] at h
    exact h
  rw [e, nx_or, nI_add]
  refine ⟨?_, vp_in_nI (by omega) (by decide)⟩
  rw [show 256 * (n / 256) = 2 ^ 8 * (n / 256) from rfl, Nat.two_pow_add_eq_or_of_lt hw]
theorem lat_hi {x v : Int32} (hv : vp_in v 256) : (x &&& 255) ||| (v <<< ((8:Int32) &&& 31)) = (x &&& 255) + 256 * v ∧ vp_in ((x &&& 255) + 256 * v) 65536 := by
  obtain ⟨w, hw, rfl⟩ := by_of hv
  obtain ⟨l, hl, he⟩ := pk_andE x (m := 255) 8 (by decide)
  have hl : l < 256 := hl
  rw [he, pk_shlN ((8:Int32) &&& 31) 8 (by decide) (by omega), show (256 : Int32) = nI 256 from rfl, pk_mul, nx_or, nI_add]
  refine ⟨?_, vp_in_nI (by omega) (by decide)⟩
  congr 1
  rw [Nat.or_comm, show w * 2 ^ 8 = 2 ^ 8 * w by omega, ← Nat.two_pow_add_eq_or_of_lt hl]
  omega
theorem gt127 : ∀ v : Nat, v < 256 → ((v &&& 128 = 0) ↔ v ≤ 127) := by decide +kernel
theorem en_eq {v : Int32} (en : Int32) (hv : vp_in v 256) : (if v ≤ 127 then (en &&& ((v &&& 3) ^^^ (-1:Int32))) else (en ||| (v &&& 3))) = fX1_setEnabled v en := by
  unfold fX1_setEnabled
  obtain ⟨w, hw, rfl⟩ := by_of hv
  have h := gt127 w hw
  have e : (nI w &&& 128 = (0:Int32)) ↔ nI w ≤ (127:Int32) := by
    rw [show (128 : Int32) = nI 128 from rfl, nx_and, show (0 : Int32) = nI 0 from rfl, nI_eq (Nat.lt_of_le_of_lt Nat.and_le_right (by decide)) (by decide), show (127 : Int32) = nI 127 from rfl, nI_leI (by omega) (by decide)]
    exact h
  by_cases q : nI w ≤ (127:Int32)
  · rw [if_pos q, if_pos (e.mpr q)]
  · rw [if_neg q, if_neg (fun z => q (e.mp z))]
theorem c_128 (v : Int32) : vp_in (v &&& 9) 128 ∧ vp_in (v &&& 73) 128 := by
  have h : ∀ m : Int32, m &&& 127 = m → vp_in (v &&& m) 128 := by
    intro m hm
    have e : v &&& m = (v &&& m) &&& 127 := by
      apply Int32.toBitVec_inj.1
      have h1 := congrArg Int32.toBitVec hm
      rw [Int32.toBitVec_and] at h1
      simp only [Int32.toBitVec_and]
      rw [BitVec.and_assoc, h1]
    rw [e]
    exact pk_andIn _ 7 (by decide) (by decide)
  exact ⟨h 9 (by decide), h 73 (by decide)⟩
/-- what a write of an interface register does -/
theorem seti_eq {o : Nat} (h1 : 64 ≤ o) (h2 : o < 128) {v rs ro en : Int32} {pi co la cn ct ky : Nat → Int32} (hv : vp_in v 256) (hro : vp_in ro 256) (hla : ∀ i, vp_in (la i) 65536) (hcn : ∀ i, vp_in (cn i) 65536) (hct : ∀ i, vp_in (ct i) 128) : ∃ (ro' en' : Int32) (la' cn' ct' : Nat → Int32), fX7_set (nI o) v rs ro en pi co la cn ct = (rs, ro', en', pi, co, la', cn', ct') ∧ fX1_writeRegister (nI o &&& 15) v ro (kbv ro ky 8) en 9 (ct 0) (cn 0) (la 0) 73 (ct 1) (cn 1) (la 1) ky = (ro', kbv ro' ky 8, en', ct' 0, cn' 0, la' 0, ct' 1, cn' 1, la' 1) ∧ vp_in ro' 256 ∧ (∀ i, vp_in (la' i) 65536) ∧ (∀ i, vp_in (cn' i) 65536) ∧ (∀ i, vp_in (ct' i) 128) := by
  have a1 : (64 : Int32) ≤ nI o := by rw [show (64 : Int32) = nI 64 from rfl, nI_leI (by decide) (by omega)]; omega
  have a2 : ¬ (128 : Int32) ≤ nI o := by rw [show (128 : Int32) = nI 128 from rfl, nI_leI (by decide) (by omega)]; omega
  unfold fX7_set fX1_writeRegister
  rw [r16 (by omega), m16 (by omega), if_pos a1, if_neg a2]
  have hr : o % 16 < 16 := Nat.mod_lt _ (by decide)
  generalize o % 16 = r at hr ⊢
  have l0 := lat_lo (hla 0) hv
  have l1 := lat_lo (hla 1) hv
  have g0 := lat_hi (x := la 0) hv
  have g1 := lat_hi (x := la 1) hv
  have s0 : fX5_setLowLatch v (la 0) = (la 0 &&& 65280) + v := l0.1
  have s1 : fX5_setLowLatch v (la 1) = (la 1 &&& 65280) + v := l1.1
  have t0 : fX5_setHighLatch v (ct 0) (cn 0) (la 0) = (if (ct 0 &&& 1) = 0 then ((la 0 &&& 255) + 256 * v) else cn 0, (la 0 &&& 255) + 256 * v) := by
    unfold fX5_setHighLatch
    rw [g0.1]
    by_cases q : (ct 0 &&& 1) = 0
    · rw [if_pos q, if_pos q]
    · rw [if_neg q, if_neg q]
  have t1 : fX5_setHighLatch v (ct 1) (cn 1) (la 1) = (if (ct 1 &&& 1) = 0 then ((la 1 &&& 255) + 256 * v) else cn 1, (la 1 &&& 255) + 256 * v) := by
    unfold fX5_setHighLatch
    rw [g1.1]
    by_cases q : (ct 1 &&& 1) = 0
    · rw [if_pos q, if_pos q]
    · rw [if_neg q, if_neg q]
  have u0 : fX5_setControl v 9 (cn 0) (la 0) = (v &&& 9, if (v &&& 16) = 0 then cn 0 else la 0) := by
    unfold fX5_setControl
    by_cases q : (v &&& 16) = 0
    · rw [if_pos q, if_pos q]
    · rw [if_neg q, if_neg q]
  have u1 : fX5_setControl v 73 (cn 1) (la 1) = (v &&& 73, if (v &&& 16) = 0 then cn 1 else la 1) := by
    unfold fX5_setControl
    by_cases q : (v &&& 16) = 0
    · rw [if_pos q, if_pos q]
    · rw [if_neg q, if_neg q]
  have ic : ∀ {q : Prop} [Decidable q] {a b : Int32} {n : Nat}, vp_in a n → vp_in b n → vp_in (if q then a else b) n := by
    intro q _ a b n ha hb
    by_cases h : q
    · rw [if_pos h]; exact ha
    · rw [if_neg h]; exact hb
  rw [s0, s1, t0, t1, u0, u1]
  rcases (show r = 0 ∨ r = 1 ∨ r = 2 ∨ r = 3 ∨ r = 4 ∨ r = 5 ∨ r = 6 ∨ r = 7 ∨ r = 8 ∨ r = 9 ∨ r = 10 ∨ r = 11 ∨ r = 12 ∨ r = 13 ∨ r = 14 ∨ r = 15 by omega) with rfl | rfl | rfl | rfl | rfl | rfl | rfl | rfl | rfl | rfl | rfl | rfl | rfl | rfl | rfl | rfl <;> simp (disch := decide) only [if_pos, if_neg]
  · exact ⟨v, en, la, cn, ct, rfl, rfl, hv, hla, hcn, hct⟩
  · exact ⟨ro, en, la, cn, ct, rfl, rfl, hro, hla, hcn, hct⟩
  · exact ⟨ro, en, la, cn, ct, rfl, rfl, hro, hla, hcn, hct⟩
  · exact ⟨ro, en, la, cn, ct, rfl, rfl, hro, hla, hcn, hct⟩
  · exact ⟨ro, en, upd la 0 ((la 0 &&& 65280) + v), cn, ct, rfl, rfl, hro, rg_upd hla l0.2, hcn, hct⟩
  · exact ⟨ro, en, upd la 0 ((la 0 &&& 255) + 256 * v), upd cn 0 (if (ct 0 &&& 1) = 0 then ((la 0 &&& 255) + 256 * v) else cn 0), ct, rfl, rfl, hro, rg_upd hla g0.2, rg_upd hcn (ic g0.2 (hcn 0)), hct⟩
  · exact ⟨ro, en, upd la 1 ((la 1 &&& 65280) + v), cn, ct, rfl, rfl, hro, rg_upd hla l1.2, hcn, hct⟩
  · exact ⟨ro, en, upd la 1 ((la 1 &&& 255) + 256 * v), upd cn 1 (if (ct 1 &&& 1) = 0 then ((la 1 &&& 255) + 256 * v) else cn 1), ct, rfl, rfl, hro, rg_upd hla g1.2, rg_upd hcn (ic g1.2 (hcn 1)), hct⟩
  · exact ⟨ro, en, la, cn, ct, rfl, rfl, hro, hla, hcn, hct⟩
  · exact ⟨ro, en, la, cn, ct, rfl, rfl, hro, hla, hcn, hct⟩
  · exact ⟨ro, en, la, cn, ct, rfl, rfl, hro, hla, hcn, hct⟩
  · exact ⟨ro, en, la, cn, ct, rfl, rfl, hro, hla, hcn, hct⟩
  · exact ⟨ro, en, la, cn, ct, rfl, rfl, hro, hla, hcn, hct⟩
  · exact ⟨ro, fX1_setEnabled v en, la, cn, ct, by rw [en_eq en hv], rfl, hro, hla, hcn, hct⟩
  · exact ⟨ro, en, la, upd cn 0 (if (v &&& 16) = 0 then cn 0 else la 0), upd ct 0 (v &&& 9), rfl, rfl, hro, hla, rg_upd hcn (ic (hcn 0) (hla 0)), rg_upd hct (c_128 v).1⟩
  · exact ⟨ro, en, la, upd cn 1 (if (v &&& 16) = 0 then cn 1 else la 1), upd ct 1 (v &&& 73), rfl, rfl, hro, hla, rg_upd hcn (ic (hcn 1) (hla 1)), rg_upd hct (c_128 v).2⟩
theorem setc_eq {o : Nat} (h1 : 128 ≤ o) (h2 : o < 512) {v rs ro en : Int32} {pi co la cn ct : Nat → Int32} (hv : vp_in v 256) (hco : Byt co) : ∃ co' : Nat → Int32, fX7_set (nI o) v rs ro en pi co la cn ct = (rs, ro, en, pi, co', la, cn, ct) ∧ fX2_setCellColour (nI o - 128) v co = co' ∧ Byt co' := by
  have a1 : (64 : Int32) ≤ nI o := by rw [show (64 : Int32) = nI 64 from rfl, nI_leI (by decide) (by omega)]; omega
  have a2 : (128 : Int32) ≤ nI o := by rw [show (128 : Int32) = nI 128 from rfl, nI_leI (by decide) (by omega)]; omega
  unfold fX7_set fX2_setCellColour
  have b1 : ¬ (nI o - 128) < 0 := by rw [show (128 : Int32) = nI 128 from rfl, sb_lt0 (by omega) (by decide)]; omega
  rw [if_pos a1, if_pos a2, if_neg b1]
  by_cases h3 : o < 152
  · rw [if_neg (show ¬ (152 : Int32) ≤ nI o by rw [show (152 : Int32) = nI 152 from rfl, nI_leI (by decide) (by omega)]; omega), if_neg (show ¬ (24 : Int32) ≤ nI o - 128 by rw [show (128 : Int32) = nI 128 from rfl, show (24 : Int32) = nI 24 from rfl, sb_le (by omega) (by decide) (by decide)]; omega)]
    exact ⟨_, rfl, rfl, rg_upd hco (by_an hv)⟩
  · rw [if_pos (show (152 : Int32) ≤ nI o by rw [show (152 : Int32) = nI 152 from rfl, nI_leI (by decide) (by omega)]; omega), if_pos (show (24 : Int32) ≤ nI o - 128 by rw [show (128 : Int32) = nI 128 from rfl, show (24 : Int32) = nI 24 from rfl, sb_le (by omega) (by decide) (by decide)]; omega)]
    exact ⟨_, rfl, rfl, hco⟩
/-- what holds of memory, port and chips at any time -/
def BI (po rs ro : Int32) (ra pi co la cn ct : Nat → Int32) : Prop := vp_in po 8 ∧ (rs = 0 ∨ rs = 1) ∧ vp_in ro 256 ∧ Byt ra ∧ Byt pi ∧ (pi 5 = 0 ∨ pi 5 = 1) ∧ vp_in (pi 6) 16 ∧ Byt co ∧ (∀ i, vp_in (la i) 65536) ∧ (∀ i, vp_in (cn i) 65536) ∧ (∀ i, vp_in (ct i) 128)
/-- a write, as an access -/
theorem write_eq {po rs ro en ac p1 v : Int32} {ra pi co la cn ct ky : Nat → Int32} (hp : ¬ p1 < 0) (hv : vp_in v 256) (hB : BI po rs ro ra pi co la cn ct) : ∃ (po' rs' ro' en' : Int32) (ra' pi' co' la' cn' ct' : Nat → Int32), fX7_write p1 v po rs ro en ac ra pi co la cn ct = (po', rs', ro', en', (p1 &&& 8191) + 8192, ac + 1, ra', pi', co', la', cn', ct') ∧ fX0_write p1 v po (pi 0) (pi 1) (pi 2) (pi 3) (pi 6) rs (pi 5) ro (kbv ro ky 8) en 9 (ct 0) (cn 0) (la 0) 73 (ct 1) (cn 1) (la 1) ra co ky = (po', (p1 &&& 8191) + 8192, pi' 0, pi' 1, pi' 2, pi' 3, pi' 6, rs', pi' 5, ro', kbv ro' ky 8, en', ct' 0, cn' 0, la' 0, ct' 1, cn' 1, la' 1, ra', co') ∧ BI po' rs' ro' ra' pi' co' la' cn' ct' := by
  obtain ⟨b1, b2, b3, b4, b5, b6, b7, b8, b9, b10, b11⟩ := hB
  unfold fX7_write fX0_write
  rw [ad_eq hp, Int32.add_comm 8192 (p1 &&& 8191)]
  obtain ⟨a, ha, he⟩ := ad_in p1
  rw [he, sr_eq]
  by_cases h1 : nI a = (1:Int32)
  · rw [if_pos h1, if_pos h1]
    exact ⟨_, _, _, _, _, _, _, _, _, _, rfl, rfl, pk_andIn v 3 (by decide) (by decide), b2, b3, b4, b5, b6, b7, b8, b9, b10, b11⟩
  · rw [if_neg h1, if_neg h1]
    by_cases h : fX0_showsRegisters (nI a) po = 0
    · rw [if_pos h, if_pos h]
      exact ⟨_, _, _, _, _, _, _, _, _, _, rfl, rfl, b1, b2, b3, rg_upd b4 hv, b5, b6, b7, b8, b9, b10, b11⟩
    · rw [if_neg h, if_neg h]
      have hw := regAt_off (x := nI a) (q := po) h
      obtain ⟨o, ho, hoe⟩ := vp_in_of hw (by decide)
      rw [hoe]
      by_cases h2 : o < 64
      · have a1 : ¬ (64 : Int32) ≤ nI o := by rw [show (64 : Int32) = nI 64 from rfl, nI_leI (by decide) (by omega)]; omega
        obtain ⟨rs', pi', e1, e2, q1, q2, q3, q4⟩ := setp_eq (ro := ro) (en := en) (co := co) (la := la) (cn := cn) (ct := ct) h2 hv b2 b5 b6 b7
        rw [if_neg a1, e1, e2]
        exact ⟨_, _, _, _, _, _, _, _, _, _, rfl, rfl, b1, q1, b3, b4, q2, q3, q4, b8, b9, b10, b11⟩
      · have a1 : (64 : Int32) ≤ nI o := by rw [show (64 : Int32) = nI 64 from rfl, nI_leI (by decide) (by omega)]; omega
        rw [if_pos a1]
        by_cases h3 : o < 128
        · have a3 : ¬ fX0_isInterfacePlace (nI o) = 0 := by
            unfold fX0_isInterfacePlace
            rw [if_neg (show ¬ nI o < (64:Int32) by rw [show (64 : Int32) = nI 64 from rfl, nI_ltI (by omega) (by decide)]; omega), if_neg (show ¬ (128:Int32) ≤ nI o by rw [show (128 : Int32) = nI 128 from rfl, nI_leI (by decide) (by omega)]; omega)]
            decide
          obtain ⟨ro', en', la', cn', ct', e1, e2, q1, q2, q3, q4⟩ := seti_eq (rs := rs) (en := en) (pi := pi) (co := co) (ky := ky) (by omega) h3 hv b3 b9 b10 b11
          rw [if_neg a3, e1, e2]
          exact ⟨_, _, _, _, _, _, _, _, _, _, rfl, rfl, b1, b2, q1, b4, b5, b6, b7, b8, q2, q3, q4⟩
        · have a3 : fX0_isInterfacePlace (nI o) = 0 := by
            unfold fX0_isInterfacePlace
            rw [if_neg (show ¬ nI o < (64:Int32) by rw [show (64 : Int32) = nI 64 from rfl, nI_ltI (by omega) (by decide)]; omega), if_pos (show (128:Int32) ≤ nI o by rw [show (128 : Int32) = nI 128 from rfl, nI_leI (by decide) (by omega)]; omega)]
          obtain ⟨co', e1, e2, q1⟩ := setc_eq (rs := rs) (ro := ro) (en := en) (pi := pi) (la := la) (cn := cn) (ct := ct) (by omega) ho hv b8
          rw [if_pos a3, e1, e2]
          exact ⟨_, _, _, _, _, _, _, _, _, _, rfl, rfl, b1, b2, b3, b4, b5, b6, b7, q1, b9, b10, b11⟩
