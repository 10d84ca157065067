theorem sb_lt0 {a b : Nat} (ha : a < 2 ^ 30) (hb : b < 2 ^ 30) : nI a - nI b < 0 ↔ a < b := by
  rw [Int32.lt_iff_toInt_lt, pk_sub_toInt ha hb, Int32.toInt_zero]
  omega
theorem sb_le {a b c : Nat} (ha : a < 2 ^ 30) (hb : b < 2 ^ 30) (hc : c < 2 ^ 30) : nI c ≤ nI a - nI b ↔ c + b ≤ a := by
  rw [Int32.le_iff_toInt_le, pk_sub_toInt ha hb, nI_toInt (by omega)]
  omega
theorem ad_eq {x : Int32} (h : ¬ x < 0) : x - x / 8192 * 8192 = x &&& 8191 := by
  obtain ⟨j, hj, rfl⟩ := nI_of h
  rw [pk_andN (by omega) (m := 8191) 13 (by decide)]
  exact pk_rem hj (by decide) (by decide)
theorem ad_in (x : Int32) : ∃ a : Nat, a < 8192 ∧ x &&& 8191 = nI a := pk_andE x 13 (by decide)
theorem ad_id {a : Nat} (h : a < 8192) : nI a &&& 8191 = nI a := by
  rw [pk_andN (by omega) (m := 8191) 13 (by decide)]
  rw [Nat.mod_eq_of_lt h]
theorem sr_eq (x q : Int32) : fX7_registersAt x q = fX0_showsRegisters x q := rfl
theorem r16 {o : Nat} (h : o < 512) : nI o - nI o / 16 * 16 = nI (o % 16) := pk_rem (by omega) (by decide) (by decide)
theorem m16 {o : Nat} (h : o < 512) : nI o &&& 15 = nI (o % 16) := pk_andN (by omega) (m := 15) 4 (by decide)
theorem shr_0 (x : Int32) : x >>> (0:Int32) = x := by
  apply Int32.toInt_inj.mp
  rw [pk_shr x 0 0 (by decide)]
  simp
theorem cn_lo {x s : Int32} (hs : s = 0) : (x >>> s) &&& 255 = x &&& 255 := by rw [hs, shr_0]
theorem cn_hi {x s : Int32} (hx : vp_in x 65536) (hs : s = (8 &&& 31)) : (x >>> s) &&& 255 = x >>> ((8:Int32) &&& 31) := by
  obtain ⟨n, hn, rfl⟩ := vp_in_of hx (by decide)
  rw [hs, pk_shrN (by omega) (8 &&& 31) 8 (by decide), pk_andN (by omega) (m := 255) 8 (by decide), Nat.mod_eq_of_lt (by omega)]
/-- what a register of the chips answers, and the flags behind it -/
theorem chip_eq {mo_line mo_raised mo_rows mo_flags2 mo_enabled : Int32} {f_mpi f_mco f_mky f_mcn f_mct : Nat → Int32} {o : Nat} (ho : o < 512) (z : Int32) (hp5 : f_mpi 5 = 0 ∨ f_mpi 5 = 1) (hcn : ∀ i, vp_in (f_mcn i) 65536) : fX7_chip (nI o) z mo_line mo_raised mo_rows mo_flags2 mo_enabled f_mpi f_mco f_mky f_mcn f_mct = ((if (64:Int32) ≤ nI o then (if fX0_isInterfacePlace (nI o) = 0 then fX2_cellColour (nI o - 128) f_mco else fX1_peekRegister (nI o &&& 15) mo_rows (kbv mo_rows f_mky 8) mo_flags2 mo_enabled (f_mct 0) (f_mcn 0) (f_mct 1) (f_mcn 1)) else fX2_peekRegister (nI o &&& 15) mo_line (f_mpi 0) (f_mpi 2) (f_mpi 3) (f_mpi 6) mo_raised (f_mpi 5)), (if fX0_isInterfacePlace (nI o) = 0 then mo_flags2 else if z = 0 then mo_flags2 else fX1_clearBehindRead (nI o &&& 15) mo_flags2)) := by
  have l64 : (64 : Int32) = nI 64 := rfl
  have l128 : (128 : Int32) = nI 128 := rfl
  have l152 : (152 : Int32) = nI 152 := rfl
  have l24 : (24 : Int32) = nI 24 := rfl
  unfold fX7_chip fX0_isInterfacePlace
  rw [r16 ho, m16 ho]
  by_cases h1 : o < 64
  · have a1 : ¬ (64 : Int32) ≤ nI o := by rw [l64, nI_leI (by decide) (by omega)]; omega
    have a2 : nI o < (64 : Int32) := by rw [l64, nI_ltI (by omega) (by decide)]; omega
    rw [if_neg a1, if_neg a1, if_pos a2, if_pos rfl]
    have hr : o % 16 < 16 := Nat.mod_lt _ (by decide)
    generalize o % 16 = r at hr ⊢
    unfold fX2_peekRegister
    rcases (show r = 0 ∨ r = 1 ∨ r = 2 ∨ r = 3 ∨ r = 4 ∨ r = 5 ∨ r = 6 ∨ r = 7 ∨ r = 8 ∨ r = 9 ∨ r = 10 ∨ r = 11 ∨ r = 12 ∨ r = 13 ∨ r = 14 ∨ r = 15 by omega) with rfl | rfl | rfl | rfl | rfl | rfl | rfl | rfl | rfl | rfl | rfl | rfl | rfl | rfl | rfl | rfl <;> simp (disch := decide) only [if_pos, if_neg]
    case inr.inr.inr.inr.inl =>
      by_cases hz : mo_raised = 0
      · rw [if_pos hz, if_pos hz, if_pos hz]; rfl
      · rw [if_neg hz, if_neg hz, if_neg hz]
        rcases hp5 with h5 | h5
        · rw [if_pos h5, if_neg (show ¬ f_mpi (5:Int32).toNatClampNeg = 1 from fun e => by rw [show f_mpi (5:Int32).toNatClampNeg = f_mpi 5 from rfl, h5] at e; exact absurd e (by decide))]; rfl
        · rw [if_neg (show ¬ f_mpi 5 = 0 from fun e => by rw [h5] at e; exact absurd e (by decide)), if_pos (show f_mpi (5:Int32).toNatClampNeg = 1 from h5)]; rfl
    case inr.inr.inr.inr.inr.inl =>
      rcases hp5 with h5 | h5
      · rw [if_pos h5]; exact congrArg (fun x => (x, mo_flags2)) h5
      · rw [if_neg (show ¬ f_mpi 5 = 0 from fun e => by rw [h5] at e; exact absurd e (by decide))]; exact congrArg (fun x => (x, mo_flags2)) h5
    all_goals rfl
  · by_cases h2 : o < 128
    · have a1 : (64 : Int32) ≤ nI o := by rw [l64, nI_leI (by decide) (by omega)]; omega
      have a2 : ¬ nI o < (64 : Int32) := by rw [l64, nI_ltI (by omega) (by decide)]; omega
      have a3 : nI o < (128 : Int32) := by rw [l128, nI_ltI (by omega) (by decide)]; omega
      have a4 : ¬ (128 : Int32) ≤ nI o := by rw [l128, nI_leI (by decide) (by omega)]; omega
      simp only [if_pos a1, if_neg a2, if_neg a4, if_pos a3, if_neg (show ¬ (1:Int32) = 0 by decide)]
      have hr : o % 16 < 16 := Nat.mod_lt _ (by decide)
      generalize o % 16 = r at hr ⊢
      unfold fX1_peekRegister fX1_clearBehindRead
      rcases (show r = 0 ∨ r = 1 ∨ r = 2 ∨ r = 3 ∨ r = 4 ∨ r = 5 ∨ r = 6 ∨ r = 7 ∨ r = 8 ∨ r = 9 ∨ r = 10 ∨ r = 11 ∨ r = 12 ∨ r = 13 ∨ r = 14 ∨ r = 15 by omega) with rfl | rfl | rfl | rfl | rfl | rfl | rfl | rfl | rfl | rfl | rfl | rfl | rfl | rfl | rfl | rfl <;> simp (disch := decide) only [if_pos, if_neg, ite_self]
      case inr.inr.inr.inr.inl => exact congrArg (fun x => (x, mo_flags2)) (cn_lo (x := f_mcn 0) (by decide))
      case inr.inr.inr.inr.inr.inl => exact congrArg (fun x => (x, mo_flags2)) (cn_hi (x := f_mcn 0) (hcn 0) (by decide))
      case inr.inr.inr.inr.inr.inr.inl => exact congrArg (fun x => (x, mo_flags2)) (cn_lo (x := f_mcn 1) (by decide))
      case inr.inr.inr.inr.inr.inr.inr.inl => exact congrArg (fun x => (x, mo_flags2)) (cn_hi (x := f_mcn 1) (hcn 1) (by decide))
      all_goals rfl
    · have a1 : (64 : Int32) ≤ nI o := by rw [l64, nI_leI (by decide) (by omega)]; omega
      have a2 : ¬ nI o < (64 : Int32) := by rw [l64, nI_ltI (by omega) (by decide)]; omega
      have a3 : ¬ nI o < (128 : Int32) := by rw [l128, nI_ltI (by omega) (by decide)]; omega
      have a4 : (128 : Int32) ≤ nI o := by rw [l128, nI_leI (by decide) (by omega)]; omega
      rw [if_pos a1, if_pos a1, if_neg a2, if_pos a4, if_neg a3, if_pos rfl, if_pos rfl]
      unfold fX2_cellColour
      have b1 : ¬ (nI o - 128) < 0 := by rw [l128, sb_lt0 (by omega) (by decide)]; omega
      rw [if_neg b1]
      by_cases h3 : o < 152
      · rw [if_neg (show ¬ (152 : Int32) ≤ nI o by rw [l152, nI_leI (by decide) (by omega)]; omega), if_neg (show ¬ (24 : Int32) ≤ nI o - 128 by rw [l128, l24, sb_le (by omega) (by decide) (by decide)]; omega)]
      · rw [if_pos (show (152 : Int32) ≤ nI o by rw [l152, nI_leI (by decide) (by omega)]; omega), if_pos (show (24 : Int32) ≤ nI o - 128 by rw [l128, l24, sb_le (by omega) (by decide) (by decide)]; omega)]
/-- the port's bits -/
theorem port_c {q : Int32} (h : vp_in q 8) : q = 0 ∨ q = 1 ∨ q = 2 ∨ q = 3 ∨ q = 4 ∨ q = 5 ∨ q = 6 ∨ q = 7 := by
  obtain ⟨n, hn, rfl⟩ := vp_in_of h (by decide)
  rcases (show n = 0 ∨ n = 1 ∨ n = 2 ∨ n = 3 ∨ n = 4 ∨ n = 5 ∨ n = 6 ∨ n = 7 by omega) with rfl | rfl | rfl | rfl | rfl | rfl | rfl | rfl <;> decide
/-- what reading an address gives -/
theorem seen_eq {mo_port mo_line mo_raised mo_rows mo_flags2 mo_enabled : Int32} {f_mra f_mrA f_mrc f_mrk f_mpi f_mco f_mky f_mcn f_mct : Nat → Int32} {a : Nat} (ha : a < 8192) (hpo : vp_in mo_port 8) (hp5 : f_mpi 5 = 0 ∨ f_mpi 5 = 1) (hcn : ∀ i, vp_in (f_mcn i) 65536) : fX7_seen (nI a) mo_port mo_line mo_raised mo_rows mo_flags2 mo_enabled f_mra f_mrA f_mrc f_mrk f_mpi f_mco f_mky f_mcn f_mct = (fX0_peek (nI a) mo_port mo_line (f_mpi 0) (f_mpi 2) (f_mpi 3) (f_mpi 6) mo_raised (f_mpi 5) mo_rows (kbv mo_rows f_mky 8) mo_flags2 mo_enabled (f_mct 0) (f_mcn 0) (f_mct 1) (f_mcn 1) f_mra f_mrA f_mrc f_mrk f_mco, mo_flags2) := by
  unfold fX0_peek fX0_peekMemory fX7_seen
  simp only [sr_eq, ad_id ha]
  have e1 : (nI a = (1:Int32)) ↔ a = 1 := nI_eq (by omega) (by decide)
  have e2 : (nI a < (5120:Int32)) ↔ a < 5120 := nI_ltI (by omega) (by decide)
  have e3 : (nI a < (7168:Int32)) ↔ a < 7168 := nI_ltI (by omega) (by decide)
  have e4 : (nI a < (6656:Int32)) ↔ a < 6656 := nI_ltI (by omega) (by decide)
  have e5 : ((7168:Int32) ≤ nI a) ↔ 7168 ≤ a := nI_leI (by decide) (by omega)
  have e6 : ((6144:Int32) ≤ nI a) ↔ 6144 ≤ a := nI_leI (by decide) (by omega)
  have e7 : ((nI a - (5120:Int32)) < 0) ↔ a < 5120 := sb_lt0 (by omega) (by decide)
  have e8 : ((1024:Int32) ≤ nI a - (5120:Int32)) ↔ 1024 + 5120 ≤ a := sb_le (by omega) (by decide) (by decide)
  have sh : fX0_showsRegisters (nI a) mo_port = (if a < 6656 then 0 else (if 7168 ≤ a then 0 else (if (mo_port &&& 3) = 0 then 0 else (if (mo_port &&& 4) = 0 then 0 else 1)))) := by
    unfold fX0_showsRegisters
    simp only [e4, e5]
  simp only [e1, e2, e3, e4, e5, e6, e7, e8, sh]
  rcases (show a = 1 ∨ (a ≠ 1 ∧ a < 5120) ∨ (5120 ≤ a ∧ a < 6144) ∨ (6144 ≤ a ∧ a < 6656) ∨ (6656 ≤ a ∧ a < 7168) ∨ 7168 ≤ a by omega) with h | h | h | h | h | h
  · simp (disch := omega) only [if_pos, if_neg, ↓reduceIte]
  · simp (disch := omega) only [if_pos, if_neg, ↓reduceIte]
  · rcases port_c hpo with rfl | rfl | rfl | rfl | rfl | rfl | rfl | rfl <;> simp (disch := first | omega | decide) only [if_pos, if_neg, ↓reduceIte]
  · rcases port_c hpo with rfl | rfl | rfl | rfl | rfl | rfl | rfl | rfl <;> simp (disch := first | omega | decide) only [if_pos, if_neg, ↓reduceIte]
  · obtain ⟨o, ho, hoe⟩ : ∃ o : Nat, o < 512 ∧ nI a - (6656:Int32) = nI o := ⟨a - 6656, by omega, pk_sub (a := a) (b := 6656) (by omega)⟩
    rw [hoe, chip_eq ho 0 hp5 hcn]
    rcases port_c hpo with rfl | rfl | rfl | rfl | rfl | rfl | rfl | rfl <;> simp (disch := first | omega | decide) only [if_pos, if_neg, ite_self, ↓reduceIte]
  · rcases port_c hpo with rfl | rfl | rfl | rfl | rfl | rfl | rfl | rfl <;> simp (disch := first | omega | decide) only [if_pos, if_neg, ↓reduceIte]
/-- a read, as an access -/
theorem read_eq {mo_port mo_line mo_raised mo_rows mo_flags2 mo_enabled mo_accesses p1 : Int32} {f_mra f_mrA f_mrc f_mrk f_mpi f_mco f_mky f_mcn f_mct : Nat → Int32} (hp : ¬ p1 < 0) (hpo : vp_in mo_port 8) (hp5 : f_mpi 5 = 0 ∨ f_mpi 5 = 1) (hcn : ∀ i, vp_in (f_mcn i) 65536) : ∃ r fl : Int32, fX7_read p1 mo_port mo_line mo_raised mo_rows mo_flags2 mo_enabled mo_accesses f_mra f_mrA f_mrc f_mrk f_mpi f_mco f_mky f_mcn f_mct = (r, fl, p1 &&& 8191, mo_accesses + 1) ∧ fX0_read p1 mo_port mo_line (f_mpi 0) (f_mpi 2) (f_mpi 3) (f_mpi 6) mo_raised (f_mpi 5) mo_rows (kbv mo_rows f_mky 8) mo_flags2 mo_enabled (f_mct 0) (f_mcn 0) (f_mct 1) (f_mcn 1) f_mra f_mrA f_mrc f_mrk f_mco = (r, p1 &&& 8191, fl) ∧ (fl = mo_flags2 ∨ fl = 0) := by
  unfold fX7_read fX0_read
  rw [ad_eq hp]
  obtain ⟨a, ha, he⟩ := ad_in p1
  rw [he, sr_eq]
  by_cases h : fX0_showsRegisters (nI a) mo_port = 0
  · rw [if_pos h, if_pos h, seen_eq ha hpo hp5 hcn]
    exact ⟨_, _, rfl, rfl, Or.inl rfl⟩
  · rw [if_neg h, if_neg h]
    have hv := regAt_off (x := nI a) (q := mo_port) h
    obtain ⟨o, ho, hoe⟩ := vp_in_of hv (by decide)
    rw [hoe, chip_eq ho 1 hp5 hcn]
    unfold fX0_peek
    rw [ad_id ha, if_neg h, hoe]
    by_cases h2 : fX0_isInterfacePlace (nI o) = 0
    · by_cases h3 : (64:Int32) ≤ nI o
      · simp only [if_pos h2, if_pos h3]
        exact ⟨_, _, rfl, rfl, Or.inl rfl⟩
      · simp only [if_pos h2, if_neg h3]
        exact ⟨_, _, rfl, rfl, Or.inl rfl⟩
    · have h3 : (64:Int32) ≤ nI o := by
        unfold fX0_isInterfacePlace at h2
        by_cases h4 : nI o < (64:Int32)
        · rw [if_pos h4] at h2; exact absurd rfl h2
        · exact Int32.not_lt.mp h4
      simp only [if_neg h2, if_pos h3, if_neg (show ¬ (1:Int32) = 0 by decide)]
      refine ⟨_, _, rfl, rfl, ?_⟩
      unfold fX1_clearBehindRead
      by_cases h5 : (nI o &&& 15) = (13:Int32)
      · rw [if_pos h5]; exact Or.inr rfl
      · rw [if_neg h5]; exact Or.inl rfl
