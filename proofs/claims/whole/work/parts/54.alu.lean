-- arithmetic
theorem ite_in {q : Prop} [Decidable q] {a b : Int32} {n : Nat} (ha : vp_in a n) (hb : vp_in b n) : vp_in (if q then a else b) n := by
  by_cases h : q
  · rw [if_pos h]; exact ha
  · rw [if_neg h]; exact hb
theorem up_in {f : Nat → Int32} {k i n : Nat} {x : Int32} (hf : vp_in (f i) n) (hx : vp_in x n) : vp_in (upd f k x i) n := by
  unfold upd
  exact ite_in hx hf
/-- a decimal sum, out of the digits' sums -/
def dS (l h : Int32) : Int32 :=
  if l ≤ (9:Int32) then
   if (h + (0:Int32)) ≤ (9:Int32) then
    (((16:Int32) * (h + (0:Int32))) + (l &&& (15:Int32)))
   else
    (((16:Int32) * ((h + (0:Int32)) + (6:Int32))) + (l &&& (15:Int32)))
  else
   if (h + (if (l + (6:Int32)) ≤ (15:Int32) then (0:Int32) else (1:Int32))) ≤ (9:Int32) then
    (((16:Int32) * (h + (if (l + (6:Int32)) ≤ (15:Int32) then (0:Int32) else (1:Int32)))) + ((l + (6:Int32)) &&& (15:Int32)))
   else
    (((16:Int32) * ((h + (if (l + (6:Int32)) ≤ (15:Int32) then (0:Int32) else (1:Int32))) + (6:Int32))) + ((l + (6:Int32)) &&& (15:Int32)))
theorem d_aux : ∀ l : Nat, l < 32 → ∀ h : Nat, h < 31 → (((16:Int32) * ((if ((nI h) + (if (if (nI l) ≤ (9:Int32) then (nI l) else ((nI l) + (6:Int32))) ≤ (15:Int32) then (0:Int32) else (1:Int32))) ≤ (9:Int32) then ((nI h) + (if (if (nI l) ≤ (9:Int32) then (nI l) else ((nI l) + (6:Int32))) ≤ (15:Int32) then (0:Int32) else (1:Int32))) else (((nI h) + (if (if (nI l) ≤ (9:Int32) then (nI l) else ((nI l) + (6:Int32))) ≤ (15:Int32) then (0:Int32) else (1:Int32))) + (6:Int32))) - (if ((nI h) + (if (if (nI l) ≤ (9:Int32) then (nI l) else ((nI l) + (6:Int32))) ≤ (15:Int32) then (0:Int32) else (1:Int32))) ≤ (9:Int32) then ((nI h) + (if (if (nI l) ≤ (9:Int32) then (nI l) else ((nI l) + (6:Int32))) ≤ (15:Int32) then (0:Int32) else (1:Int32))) else (((nI h) + (if (if (nI l) ≤ (9:Int32) then (nI l) else ((nI l) + (6:Int32))) ≤ (15:Int32) then (0:Int32) else (1:Int32))) + (6:Int32))) / (16:Int32) * (16:Int32))) + ((if (nI l) ≤ (9:Int32) then (nI l) else ((nI l) + (6:Int32))) - (if (nI l) ≤ (9:Int32) then (nI l) else ((nI l) + (6:Int32))) / (16:Int32) * (16:Int32))) = dS (nI l) (nI h) &&& 255 ∧ (if (if ((nI h) + (if (if (nI l) ≤ (9:Int32) then (nI l) else ((nI l) + (6:Int32))) ≤ (15:Int32) then (0:Int32) else (1:Int32))) ≤ (9:Int32) then ((nI h) + (if (if (nI l) ≤ (9:Int32) then (nI l) else ((nI l) + (6:Int32))) ≤ (15:Int32) then (0:Int32) else (1:Int32))) else (((nI h) + (if (if (nI l) ≤ (9:Int32) then (nI l) else ((nI l) + (6:Int32))) ≤ (15:Int32) then (0:Int32) else (1:Int32))) + (6:Int32))) ≤ (15:Int32) then (0:Int32) else (1:Int32)) = (if dS (nI l) (nI h) ≤ (255:Int32) then (0:Int32) else (1:Int32)) := by decide +kernel
theorem s128 (x : Int32) : (x &&& 255) &&& 128 = x &&& 128 := by
  apply Int32.toBitVec_inj.1
  simp only [Int32.toBitVec_and]
  rw [BitVec.and_assoc, show (255:Int32).toBitVec &&& (128:Int32).toBitVec = (128:Int32).toBitVec by decide]
theorem pp_aux : ∀ f : Nat, f < 256 → ∀ x : Nat, x < 2 → ∀ y : Nat, y < 2 → fX4_put 1 (nI x) (fX4_put 1 (nI y) (nI f)) = fX4_put 1 (nI x) (nI f) := by decide +kernel
theorem b01 {q : Prop} [Decidable q] : ∃ k : Nat, k < 2 ∧ (if q then (0:Int32) else 1) = nI k := by
  by_cases h : q
  · exact ⟨0, by decide, if_pos h⟩
  · exact ⟨1, by decide, if_neg h⟩
theorem pp_eq {p q : Prop} [Decidable p] [Decidable q] {f : Int32} (hf : vp_in f 256) : fX4_put 1 (if p then (0:Int32) else 1) (fX4_put 1 (if q then (0:Int32) else 1) f) = fX4_put 1 (if p then (0:Int32) else 1) f := by
  obtain ⟨n, hn, rfl⟩ := by_of hf
  obtain ⟨x, hx, ex⟩ := b01 (q := p)
  obtain ⟨y, hy, ey⟩ := b01 (q := q)
  rw [ex, ey]
  exact pp_aux n hn x hx y hy
theorem add_eq {a p fl : Int32} (d : Int32) (ha : vp_in a 256) (hp : vp_in p 256) (hf : vp_in fl 256) : ∃ r f : Int32, fX7_add_L40 a p fl d = (r, f) ∧ fX4_add p d a fl = (r, f) ∧ vp_in r 256 ∧ vp_in f 256 := by
  obtain ⟨i, hi, ei⟩ := pk_andE a (m := 15) 4 (by decide)
  obtain ⟨j, hj, ej⟩ := pk_andE p (m := 15) 4 (by decide)
  obtain ⟨c, hc, ec⟩ := pk_andE fl (m := 1) 1 (by decide)
  have hi : i < 16 := hi
  have hj : j < 16 := hj
  have hc : c < 2 := hc
  obtain ⟨A, hA, eA⟩ := by_of ha
  obtain ⟨P, hP, eP⟩ := by_of hp
  have el : ((a &&& (15:Int32)) + (p &&& (15:Int32))) + (fl &&& (1:Int32)) = nI (i + j + c) := by rw [ei, ej, ec, nI_add, nI_add]
  have sa : a >>> ((4:Int32) &&& (31:Int32)) = nI (A / 16) := by rw [eA]; exact pk_shrN (by omega) ((4:Int32) &&& 31) 4 (by decide)
  have sp : p >>> ((4:Int32) &&& (31:Int32)) = nI (P / 16) := by rw [eP]; exact pk_shrN (by omega) ((4:Int32) &&& 31) 4 (by decide)
  have eh : (a >>> ((4:Int32) &&& (31:Int32))) + (p >>> ((4:Int32) &&& (31:Int32))) = nI (A / 16 + P / 16) := by rw [sa, sp, nI_add]
  have dx := d_aux (i + j + c) (by omega) (A / 16 + P / 16) (by omega)
  rw [← el, ← eh] at dx
  have eS : fX4_decimalSum a p (fl &&& (1:Int32)) = dS (((a &&& (15:Int32)) + (p &&& (15:Int32))) + (fl &&& (1:Int32))) ((a >>> ((4:Int32) &&& (31:Int32))) + (p >>> ((4:Int32) &&& (31:Int32)))) := rfl
  rw [← eS] at dx
  unfold fX7_add_L40 fX7_add_L99 fX7_add_L143 fX4_add
  generalize (a + p) + (fl &&& (1:Int32)) = S
  have hV : (if (a &&& (128:Int32)) = (p &&& (128:Int32)) then (if (S &&& (128:Int32)) = (a &&& (128:Int32)) then (0:Int32) else (1:Int32)) else (0:Int32)) = (if ((a ^^^ p) &&& (128:Int32)) = (0:Int32) then (if ((a ^^^ (S &&& (255:Int32))) &&& (128:Int32)) = (0:Int32) then (0:Int32) else (1:Int32)) else (0:Int32)) := by
    have i1 := v_iff ha hp
    have i2 := v_iff ha (by_and S)
    rw [s128] at i2
    by_cases c1 : (a &&& (128:Int32)) = (p &&& (128:Int32))
    · rw [if_pos c1, if_pos (i1.mpr c1)]
      by_cases c2 : (S &&& (128:Int32)) = (a &&& (128:Int32))
      · rw [if_pos c2, if_pos (i2.mpr c2.symm)]
      · rw [if_neg c2, if_neg (fun h => c2 (i2.mp h).symm)]
    · rw [if_neg c1, if_neg (fun h => c1 (i1.mp h))]
  have hv : ((if ((a ^^^ p) &&& (128:Int32)) = (0:Int32) then (if ((a ^^^ (S &&& (255:Int32))) &&& (128:Int32)) = (0:Int32) then (0:Int32) else (1:Int32)) else (0:Int32)) = 0 ∨ (if ((a ^^^ p) &&& (128:Int32)) = (0:Int32) then (if ((a ^^^ (S &&& (255:Int32))) &&& (128:Int32)) = (0:Int32) then (0:Int32) else (1:Int32)) else (0:Int32)) = 1) := by
    by_cases c1 : ((a ^^^ p) &&& (128:Int32)) = (0:Int32)
    · rw [if_pos c1]
      by_cases c2 : ((a ^^^ (S &&& (255:Int32))) &&& (128:Int32)) = (0:Int32)
      · rw [if_pos c2]; exact Or.inl rfl
      · rw [if_neg c2]; exact Or.inr rfl
    · rw [if_neg c1]; exact Or.inl rfl
  rw [hV]
  have hJ : fX4_judged S fl = (S &&& 255, (fX4_judged S fl).2) := rfl
  have hb := by_jd S hf
  generalize (fX4_judged S fl).2 = J at hJ hb
  rw [hJ]
  dsimp only
  generalize (if ((a ^^^ p) &&& (128:Int32)) = (0:Int32) then (if ((a ^^^ (S &&& (255:Int32))) &&& (128:Int32)) = (0:Int32) then (0:Int32) else (1:Int32)) else (0:Int32)) = V at hv ⊢
  have hK : fX7_judged (S &&& 255) (fX7_put 64 V fl) = (S &&& 255, fX4_put 64 V J) := by
    rw [put_eq, jd_eq S (by_put (by unfold vp_in; decide) hf)]
    have h := jv_eq S hv hf
    rw [hJ] at h
    exact Prod.ext rfl h
  rw [hK]
  dsimp only
  simp only [put_eq]
  have hW : vp_in (fX4_put 64 V J) 256 := by_put (by unfold vp_in; decide) hb
  by_cases hd : d = 0
  · rw [if_pos hd, if_pos hd]
    exact ⟨_, _, rfl, rfl, by_and _, by_put (by unfold vp_in; decide) hW⟩
  · rw [if_neg hd, if_neg hd]
    rw [pp_eq hW, dx.1, dx.2]
    exact ⟨_, _, rfl, rfl, by_and _, by_put (by unfold vp_in; decide) hW⟩
theorem sub255 {v : Int32} (hv : vp_in v 256) : vp_in (255 - v) 256 := by
  obtain ⟨n, hn, rfl⟩ := by_of hv
  rw [show (255:Int32) = nI 255 from rfl, pk_sub (by omega)]
  exact by_in (by omega)
theorem op_eq {v a fl : Int32} (cd : Int32) (hv : vp_in v 256) (ha : vp_in a 256) (hf : vp_in fl 256) : ∃ r f : Int32, fX7_operate v a fl cd = (r, f) ∧ fX4_calculate (cd >>> ((5:Int32) &&& (31:Int32))) v a fl = (r, f) ∧ vp_in r 256 ∧ vp_in f 256 := by
  unfold fX7_operate fX4_calculate fX7_add
  generalize cd >>> ((5:Int32) &&& (31:Int32)) = q
  by_cases q0 : q = 0
  · rw [if_pos q0, if_pos q0, jd_eqb (by_or ha hv) hf]
    exact ⟨(a ||| v) &&& 255, (fX4_judged (a ||| v) fl).2, rfl, rfl, by_and _, by_jd _ hf⟩
  rw [if_neg q0, if_neg q0]
  by_cases q1 : q = 1
  · rw [if_pos q1, if_pos q1, jd_eqb (by_an ha) hf]
    exact ⟨(a &&& v) &&& 255, (fX4_judged (a &&& v) fl).2, rfl, rfl, by_and _, by_jd _ hf⟩
  rw [if_neg q1, if_neg q1]
  by_cases q2 : q = 2
  · rw [if_pos q2, if_pos q2, jd_eqb (by_xo ha hv) hf]
    exact ⟨(a ^^^ v) &&& 255, (fX4_judged (a ^^^ v) fl).2, rfl, rfl, by_and _, by_jd _ hf⟩
  rw [if_neg q2, if_neg q2]
  by_cases q3 : q = 3
  · have hd : (if (fX7_is (8:Int32) fl) = (0:Int32) then (0:Int32) else (1:Int32)) = fX4_has 8 fl := by
      rw [is_eq]
      unfold fX4_has
      by_cases h : (fl &&& (8:Int32)) = (0:Int32)
      · rw [if_pos h]; decide
      · rw [if_neg h]; decide
    obtain ⟨r, f, e1, e2, h1, h2⟩ := add_eq (fX4_has 8 fl) ha hv hf
    simp only [if_pos q3, hd, e1, e2]
    exact ⟨r, f, rfl, rfl, h1, h2⟩
  by_cases q5 : q = 5
  · simp only [if_neg q3, if_pos q5, jd_eqb hv hf]
    exact ⟨v &&& 255, (fX4_judged v fl).2, rfl, rfl, by_and _, by_jd _ hf⟩
  by_cases q6 : q = 6
  · simp only [if_neg q3, if_neg q5, if_pos q6, cmp_eq a v hf]
    exact ⟨a, fX4_compare a v fl, rfl, rfl, ha, by_cmp a v hf⟩
  by_cases q7 : q = 7
  · obtain ⟨r, f, e1, e2, h1, h2⟩ := add_eq 0 ha (sub255 hv) hf
    simp only [if_neg q3, if_neg q5, if_neg q6, if_pos q7, ite_self, e1, e2]
    exact ⟨r, f, rfl, rfl, h1, h2⟩
  · simp only [if_neg q3, if_neg q5, if_neg q6, if_neg q7]
    exact ⟨a, fl, rfl, rfl, ha, hf⟩
