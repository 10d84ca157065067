-- the picture chip's cycle
theorem wb_eq {c : Nat} (hc : c < 24) {bad mbad : Int32} (hb2 : 3 ≤ c → bad = mbad) : fX2_wantsBus (nI c) bad = fX7_wanted (nI c) mbad := by
  by_cases h : c < 3
  · have h3 : nI c < (3:Int32) := (nI_ltI (b := 3) (by omega) (by decide)).mpr h
    unfold fX2_wantsBus fX7_wanted
    simp only [if_pos h3, ite_self]
  · rw [hb2 (by omega)]; rfl
theorem nxt_eq {l c f : Nat} (hl : l < 40) (hc : c < 24) {bad mbad idle gl mgl : Int32} (hf : f ≤ l ∨ (14 ≤ c ∧ f ≤ l + 1)) (hb : c < 3 → mbad = 0) (hb2 : 3 ≤ c → bad = mbad) (hg : idle = 0 → gl = mgl ∧ vp_in mgl 8) (h8 : vp_in gl 8) (h9 : vp_in mgl 9) : ∃ ln2 cy2 : Int32, fX2_endCycle (nI l) (nI c) = (ln2, cy2) ∧ (if (nI c + 1) = (24:Int32) then ((nI l + 1) - (nI l + 1) / 40 * 40) else nI l) = ln2 ∧ ((nI c + 1) - (nI c + 1) / 24 * 24) = cy2 ∧ RelF ln2 cy2 (nI f) ∧ RelG cy2 bad mbad idle gl mgl ∧ vp_in ln2 40 := by
  obtain ⟨l', c', hl', hc', hcase, e1, e2, e3⟩ := adv_eq hl hc
  refine ⟨nI l', nI c', e1, e2, e3, ⟨l', c', f, rfl, rfl, rfl, hl', hc', by omega⟩, ⟨?_, hg, h8, h9⟩, vp_in_nI hl' (by decide)⟩
  rcases (show c' = 0 ∨ (c' = 1 ∨ c' = 2 ∨ c' = 3) ∨ 4 ≤ c' by omega) with h | h | h
  · rw [h]; exact Or.inl rfl
  · refine Or.inr (Or.inl ⟨?_, hb (by omega)⟩)
    rcases h with h | h | h
    · rw [h]; exact Or.inl rfl
    · rw [h]; exact Or.inr (Or.inl rfl)
    · rw [h]; exact Or.inr (Or.inr rfl)
  · refine Or.inr (Or.inr ⟨?_, hb2 (by omega)⟩)
    rw [show (4:Int32) = nI 4 from rfl, pk_sub h]
    exact vp_in_nI (by omega) (by decide)
/-- what a cycle of the two picture chips leaves -/
def PO (l c : Nat) (t7 t2 : Int32 × Int32 × Int32 × Int32 × Int32 × (Nat → Int32) × (Nat → Int32) × (Nat → Int32)) : Prop :=
  ∃ (rs idle bad mbad gl mgl : Int32) (f : Nat) (wc wo po : Nat → Int32), t7 = (rs, idle, mbad, mgl, nI f, wc, wo, po) ∧ t2 = (rs, idle, bad, gl, nI (f % 3), po, wc, wo) ∧ (rs = 0 ∨ rs = 1) ∧ Byt wc ∧ (f ≤ l ∨ (14 ≤ c ∧ f ≤ l + 1)) ∧ (c < 3 → mbad = 0) ∧ (3 ≤ c → bad = mbad) ∧ (idle = 0 → gl = mgl ∧ vp_in mgl 8) ∧ vp_in gl 8 ∧ vp_in mgl 9
theorem pic_eq {l c f : Nat} (hl : l < 40) (hc : c < 24) (hf : f ≤ l ∨ (15 ≤ c ∧ f ≤ l + 1) ∨ (l = 0 ∧ c = 0 ∧ f ≤ 40)) {rs idle bad mbad gl mgl : Int32} {ra rc pi wc wo co po : Nat → Int32} (hG : RelG (nI c) bad mbad idle gl mgl) (hrs : rs = 0 ∨ rs = 1) (hra : Byt ra) (hw : Byt wc) : PO l c (fX7_pictureCycle (nI l) (nI c) rs idle mbad mgl (nI f) ra rc pi wc wo co po) (fX2_beginCycle (nI l) (nI c) (pi 0) (pi 1) (pi 2) (pi 3) (pi 6) rs idle bad gl (nI (f % 3)) ra rc po co wc wo) := by
  obtain ⟨hG1, hg, h8, h9⟩ := hG
  have hb0 : 1 ≤ c → c ≤ 3 → mbad = 0 := by
    intro a b
    rcases hG1 with h | ⟨-, h⟩ | ⟨h, -⟩
    · have := (nI_eq (b := 0) (by omega) (by decide)).mp h
      omega
    · exact h
    · have h2 := rg_nn h
      exact absurd ((sb_lt0 (a := c) (b := 4) (by omega) (by decide)).mpr (by omega)) h2
  have hb1 : 4 ≤ c → bad = mbad := by
    intro a
    rcases hG1 with h | ⟨h, -⟩ | ⟨-, h⟩
    · have := (nI_eq (b := 0) (by omega) (by decide)).mp h
      omega
    · rcases h with h | h | h
      · have := (nI_eq (b := 1) (by omega) (by decide)).mp h
        omega
      · have := (nI_eq (b := 2) (by omega) (by decide)).mp h
        omega
      · have := (nI_eq (b := 3) (by omega) (by decide)).mp h
        omega
    · exact h
  have e0 : (nI c = (0:Int32)) ↔ c = 0 := nI_eq (by omega) (by decide)
  have e3 : (nI c = (3:Int32)) ↔ c = 3 := nI_eq (by omega) (by decide)
  have e6 : (nI c < (6:Int32)) ↔ c < 6 := nI_ltI (by omega) (by decide)
  have e13 : ((13:Int32) < nI c) ↔ 13 < c := nI_ltI (by decide) (by omega)
  have e14 : (nI c = (14:Int32)) ↔ c = 14 := nI_eq (by omega) (by decide)
  have e15 : ((14:Int32) ≤ nI c) ↔ 14 ≤ c := nI_leI (by decide) (by omega)
  have e23 : (nI c = (23:Int32)) ↔ c = 23 := nI_eq (by omega) (by decide)
  have el : (nI l = (0:Int32)) ↔ l = 0 := nI_eq (by omega) (by decide)
  unfold fX7_pictureCycle fX2_beginCycle
  simp only [show (0:Int32).toNatClampNeg = 0 from rfl, show (1:Int32).toNatClampNeg = 1 from rfl, show (6:Int32).toNatClampNeg = 6 from rfl, e0, e3, e6, e13, e14, e15, e23, el]
  rcases (show c = 0 ∨ c = 3 ∨ (c = 1 ∨ c = 2 ∨ c = 4 ∨ c = 5) ∨ (6 ≤ c ∧ c ≤ 13) ∨ c = 14 ∨ (15 ≤ c ∧ c ≤ 22) ∨ c = 23 by omega) with h | h | h | h | h | h | h
  · unfold fX2_beginLine
    simp only [el]
    have hr : (if rs = (0:Int32) then (if nI l = pi 1 then (1:Int32) else (0:Int32)) else (1:Int32)) = (if nI l = pi 1 then (1:Int32) else rs) := by
      rcases hrs with rfl | rfl
      · rw [if_pos rfl]
      · rw [if_neg (by decide)]
        by_cases hp : nI l = pi 1
        · rw [if_pos hp]
        · rw [if_neg hp]
    rw [hr]
    by_cases hp : nI l = pi 1
    · by_cases hz : l = 0
      · simp (disch := first | omega | decide | assumption) only [if_pos, if_neg]
        exact ⟨1, 1, bad, 0, gl, mgl, 0, wc, wo, po, rfl, rfl, Or.inr rfl, hw, Or.inl (Nat.zero_le _), fun _ => rfl, fun q => absurd q (by omega), fun q => absurd q (by decide), h8, h9⟩
      · simp (disch := first | omega | decide | assumption) only [if_pos, if_neg]
        exact ⟨1, idle, bad, 0, gl, mgl, f, wc, wo, po, rfl, rfl, Or.inr rfl, hw, Or.inl (by omega), fun _ => rfl, fun q => absurd q (by omega), hg, h8, h9⟩
    · by_cases hz : l = 0
      · simp (disch := first | omega | decide | assumption) only [if_pos, if_neg]
        exact ⟨rs, 1, bad, 0, gl, mgl, 0, wc, wo, po, rfl, rfl, hrs, hw, Or.inl (Nat.zero_le _), fun _ => rfl, fun q => absurd q (by omega), fun q => absurd q (by decide), h8, h9⟩
      · simp (disch := first | omega | decide | assumption) only [if_pos, if_neg]
        exact ⟨rs, idle, bad, 0, gl, mgl, f, wc, wo, po, rfl, rfl, hrs, hw, Or.inl (by omega), fun _ => rfl, fun q => absurd q (by omega), hg, h8, h9⟩
  · have hm := hb0 (by omega) (by omega)
    have hs : fX7_shows (nI l) pi = fX2_isShowing (nI l) (pi 0) := rfl
    unfold fX2_judgeLine
    rw [hs]
    generalize fX2_isShowing (nI l) (pi 0) = sw
    by_cases c1 : sw = 0
    · simp only [if_pos c1]
      simp (disch := first | omega | decide | assumption) only [if_pos, if_neg, ↓reduceIte]
      exact ⟨rs, idle, 0, mbad, gl, mgl, f, wc, wo, po, rfl, rfl, hrs, hw, Or.inl (by omega), fun q => absurd q (by omega), fun _ => hm.symm, hg, h8, h9⟩
    · by_cases c2 : (nI l - nI l / 8 * 8) = (pi 0 &&& 7)
      · simp only [if_neg c1, if_pos c2]
        simp (disch := first | omega | decide | assumption) only [if_pos, if_neg]
        exact ⟨rs, 0, 1, 1, 0, 0, f, wc, wo, po, rfl, rfl, hrs, hw, Or.inl (by omega), fun q => absurd q (by omega), fun _ => rfl, fun _ => ⟨rfl, by unfold vp_in; decide⟩, by unfold vp_in; decide, by unfold vp_in; decide⟩
      · simp only [if_neg c1, if_neg c2]
        simp (disch := first | omega | decide | assumption) only [if_pos, if_neg, ↓reduceIte]
        exact ⟨rs, idle, 0, mbad, gl, mgl, f, wc, wo, po, rfl, rfl, hrs, hw, Or.inl (by omega), fun q => absurd q (by omega), fun _ => hm.symm, hg, h8, h9⟩
  · simp (disch := omega) only [if_pos, if_neg]
    exact ⟨rs, idle, bad, mbad, gl, mgl, f, wc, wo, po, rfl, rfl, hrs, hw, Or.inl (by omega), fun q => hb0 (by omega) (by omega), fun q => hb1 (by omega), hg, h8, h9⟩
  · have hbb := hb1 (by omega)
    rw [hbb]
    by_cases hz : mbad = 0
    · simp (disch := first | omega | decide | assumption) only [if_pos, if_neg]
      exact ⟨rs, idle, mbad, mbad, gl, mgl, f, wc, wo, fX7_paint (nI c - 6) (nI l) idle mgl rc pi wc wo po, rfl, by rw [paint_eq hg hw], hrs, hw, Or.inl (by omega), fun q => absurd q (by omega), fun _ => rfl, hg, h8, h9⟩
    · simp (disch := first | omega | decide | assumption) only [if_pos, if_neg]
      unfold fX2_fetchCell
      rw [m3 (by omega)]
      have hw' := rg_upd (k := (nI c - 6).toNatClampNeg) hw (hra ((64 * pi 6) + ((8 * nI (f % 3)) + (nI c - 6))).toNatClampNeg)
      refine ⟨rs, idle, mbad, mbad, gl, mgl, f, _, _, _, rfl, ?_, hrs, hw', Or.inl (by omega), fun q => absurd q (by omega), fun _ => rfl, hg, h8, h9⟩
      dsimp only
      rw [paint_eq hg hw']
  · have hbb := hb1 (by omega)
    rw [hbb]
    by_cases hz : mbad = 0
    · simp (disch := first | omega | decide | assumption) only [if_pos, if_neg]
      exact ⟨rs, idle, mbad, mbad, gl, mgl, f, wc, wo, po, rfl, rfl, hrs, hw, Or.inl (by omega), fun q => absurd q (by omega), fun _ => rfl, hg, h8, h9⟩
    · simp (disch := first | omega | decide | assumption) only [if_pos, if_neg]
      refine ⟨rs, idle, mbad, mbad, gl, mgl, f + 1, wc, wo, po, by rw [nI_1], ?_, hrs, hw, Or.inr ⟨by omega, by omega⟩, fun q => absurd q (by omega), fun _ => rfl, hg, h8, h9⟩
      rw [nI_1, m3 (by omega)]
      rw [show (f % 3 + 1) % 3 = (f + 1) % 3 by omega]
  · simp (disch := omega) only [if_pos, if_neg]
    exact ⟨rs, idle, bad, mbad, gl, mgl, f, wc, wo, po, rfl, rfl, hrs, hw, by omega, fun q => absurd q (by omega), fun q => hb1 (by omega), hg, h8, h9⟩
  · by_cases hz : idle = 0
    · obtain ⟨g1, g2⟩ := hg hz
      unfold fX2_endGlyphLine
      simp (disch := first | omega | decide | assumption) only [if_pos, if_neg]
      subst g1
      obtain ⟨g, hg8, rfl⟩ := vp_in_of g2 (by decide)
      by_cases h7 : nI g = (7:Int32)
      · simp only [if_pos h7]
        refine ⟨rs, 1, bad, mbad, nI g, nI (g + 1), f, wc, wo, po, by rw [nI_1], rfl, hrs, hw, by omega, fun q => absurd q (by omega), fun q => hb1 (by omega), fun q => absurd q (by decide), h8, vp_in_nI (by omega) (by decide)⟩
      · simp only [if_neg h7]
        have h77 : g ≠ 7 := fun e => h7 (by rw [e]; rfl)
        exact ⟨rs, 0, bad, mbad, nI (g + 1), nI (g + 1), f, wc, wo, po, by rw [nI_1], by rw [hz, nI_1], hrs, hw, by omega, fun q => absurd q (by omega), fun q => hb1 (by omega), fun _ => ⟨rfl, vp_in_nI (by omega) (by decide)⟩, vp_in_nI (by omega) (by decide), vp_in_nI (by omega) (by decide)⟩
    · simp (disch := first | omega | decide | assumption) only [if_pos, if_neg]
      exact ⟨rs, idle, bad, mbad, gl, mgl, f, wc, wo, po, rfl, rfl, hrs, hw, by omega, fun q => absurd q (by omega), fun q => hb1 (by omega), hg, h8, h9⟩
