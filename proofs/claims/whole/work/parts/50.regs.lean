-- numbers
def Byt (f : Nat → Int32) : Prop := ∀ i, vp_in (f i) 256
theorem nx_and (a b : Nat) : nI a &&& nI b = nI (a &&& b) := by
  apply Int32.toBitVec_inj.1
  show BitVec.ofNat 32 a &&& BitVec.ofNat 32 b = BitVec.ofNat 32 (a &&& b)
  apply BitVec.eq_of_getLsbD_eq
  intro i hi
  simp [hi]
theorem nx_xor (a b : Nat) : nI a ^^^ nI b = nI (a ^^^ b) := by
  apply Int32.toBitVec_inj.1
  show BitVec.ofNat 32 a ^^^ BitVec.ofNat 32 b = BitVec.ofNat 32 (a ^^^ b)
  apply BitVec.eq_of_getLsbD_eq
  intro i hi
  simp [hi]
theorem nx_or (a b : Nat) : nI a ||| nI b = nI (a ||| b) := by
  apply Int32.toBitVec_inj.1
  show BitVec.ofNat 32 a ||| BitVec.ofNat 32 b = BitVec.ofNat 32 (a ||| b)
  apply BitVec.eq_of_getLsbD_eq
  intro i hi
  simp [hi]
theorem by_of {x : Int32} (h : vp_in x 256) : ∃ n : Nat, n < 256 ∧ x = nI n := vp_in_of h (by decide)
theorem by_and (x : Int32) : vp_in (x &&& 255) 256 := pk_andIn x 8 (by decide) (by decide)
theorem by_in {n : Nat} (h : n < 256) : vp_in (nI n) 256 := vp_in_nI h (by decide)
theorem by_m {x : Int32} (h : vp_in x 256) : x &&& 255 = x := by
  obtain ⟨n, hn, rfl⟩ := by_of h
  rw [pk_andN (by omega) (m := 255) 8 (by decide), Nat.mod_eq_of_lt hn]
theorem by_or {x y : Int32} (h : vp_in x 256) (g : vp_in y 256) : vp_in (x ||| y) 256 := by
  obtain ⟨n, hn, rfl⟩ := by_of h
  obtain ⟨k, hk, rfl⟩ := by_of g
  rw [nx_or]
  exact by_in (Nat.or_lt_two_pow (n := 8) hn hk)
theorem by_an {x y : Int32} (h : vp_in x 256) : vp_in (x &&& y) 256 := by
  have e : x &&& y = (x &&& y) &&& 255 := by
    apply Int32.toBitVec_inj.1
    have h1 := congrArg Int32.toBitVec (by_m h)
    rw [Int32.toBitVec_and] at h1
    simp only [Int32.toBitVec_and]
    rw [BitVec.and_assoc, BitVec.and_comm y.toBitVec, ← BitVec.and_assoc, h1]
  rw [e]
  exact by_and _
theorem by_xo {x y : Int32} (h : vp_in x 256) (g : vp_in y 256) : vp_in (x ^^^ y) 256 := by
  obtain ⟨n, hn, rfl⟩ := by_of h
  obtain ⟨k, hk, rfl⟩ := by_of g
  rw [nx_xor]
  exact by_in (Nat.xor_lt_two_pow (n := 8) hn hk)
theorem le_127 (x : Int32) : (x ≤ 127) ↔ (x < 128) := by
  rw [Int32.le_iff_toInt_le, Int32.lt_iff_toInt_lt]
  have h1 : (127 : Int32).toInt = 127 := by decide
  have h2 : (128 : Int32).toInt = 128 := by decide
  omega
-- flags
theorem put_eq (a b c : Int32) : fX7_put a b c = fX4_put a b c := rfl
theorem is_eq (a b : Int32) : fX7_is a b = fX4_has a b := rfl
theorem jd_aux : ∀ f : Nat, f < 256 → (fX7_put 128 0 (fX7_put 2 1 (nI f)) = ((((nI f) &&& -131) ||| 2) ||| 0)) ∧ (fX7_put 128 1 (fX7_put 2 1 (nI f)) = ((((nI f) &&& -131) ||| 2) ||| 128)) ∧ (fX7_put 128 0 (fX7_put 2 0 (nI f)) = ((((nI f) &&& -131) ||| 0) ||| 0)) ∧ (fX7_put 128 1 (fX7_put 2 0 (nI f)) = ((((nI f) &&& -131) ||| 0) ||| 128)) := by decide +kernel
theorem jd_eq {fl : Int32} (p : Int32) (hf : vp_in fl 256) : fX7_judged (p &&& 255) fl = fX4_judged p fl := by
  obtain ⟨f, hf2, rfl⟩ := by_of hf
  unfold fX7_judged fX4_judged
  generalize (p &&& 255) = q
  obtain ⟨a1, a2, a3, a4⟩ := jd_aux f hf2
  by_cases h0 : q = 0 <;> by_cases h1 : q < 128
  · rw [if_pos ((le_127 q).mpr h1), if_pos h0, if_pos h0, if_pos h1, a1]
  · rw [if_neg (fun h => h1 ((le_127 q).mp h)), if_pos h0, if_pos h0, if_neg h1, a2]
  · rw [if_pos ((le_127 q).mpr h1), if_neg h0, if_neg h0, if_pos h1, a3]
  · rw [if_neg (fun h => h1 ((le_127 q).mp h)), if_neg h0, if_neg h0, if_neg h1, a4]
theorem jd_eqb {fl p : Int32} (hp : vp_in p 256) (hf : vp_in fl 256) : fX7_judged p fl = fX4_judged p fl := by
  have h := jd_eq p hf
  rw [by_m hp] at h
  exact h
theorem by_put {a b fl : Int32} (ha : vp_in a 256) (hf : vp_in fl 256) : vp_in (fX4_put a b fl) 256 := by
  unfold fX4_put
  by_cases h : b = 0
  · rw [if_pos h]; exact by_an hf
  · rw [if_neg h]; exact by_or hf ha
theorem by_jd {fl : Int32} (p : Int32) (hf : vp_in fl 256) : vp_in (fX4_judged p fl).2 256 := by
  rw [← jd_eq p hf]
  show vp_in (fX4_put 128 _ (fX4_put 2 _ fl)) 256
  exact by_put (by unfold vp_in; decide) (by_put (by unfold vp_in; decide) hf)
theorem jd_1 (p fl : Int32) : (fX4_judged p fl).1 = (p &&& 255) := rfl
theorem cmp_eq {fl : Int32} (a v : Int32) (hf : vp_in fl 256) : fX7_compare a v fl = fX4_compare a v fl := by
  unfold fX7_compare fX4_compare
  rw [jd_eq (a - v) hf]
  rfl
theorem by_cmp {fl : Int32} (a v : Int32) (hf : vp_in fl 256) : vp_in (fX4_compare a v fl) 256 := by
  unfold fX4_compare
  have h := by_jd (a - v) hf
  generalize fX4_judged (a - v) fl = t at h ⊢
  obtain ⟨t1, t2⟩ := t
  exact by_put (by unfold vp_in; decide) h
-- addition
theorem jv_aux : ∀ f : Nat, f < 256 → ∀ v : Nat, v < 2 → ((((fX4_put 64 (nI v) (nI f)) &&& -131) ||| 2) ||| 0 = fX4_put 64 (nI v) ((((nI f) &&& -131) ||| 2) ||| 0)) ∧ ((((fX4_put 64 (nI v) (nI f)) &&& -131) ||| 2) ||| 128 = fX4_put 64 (nI v) ((((nI f) &&& -131) ||| 2) ||| 128)) ∧ ((((fX4_put 64 (nI v) (nI f)) &&& -131) ||| 0) ||| 0 = fX4_put 64 (nI v) ((((nI f) &&& -131) ||| 0) ||| 0)) ∧ ((((fX4_put 64 (nI v) (nI f)) &&& -131) ||| 0) ||| 128 = fX4_put 64 (nI v) ((((nI f) &&& -131) ||| 0) ||| 128)) := by decide +kernel
theorem jv_eq {fl : Int32} (p : Int32) {v : Int32} (hv : v = 0 ∨ v = 1) (hf : vp_in fl 256) : (fX4_judged p (fX4_put 64 v fl)).2 = fX4_put 64 v (fX4_judged p fl).2 := by
  obtain ⟨f, hf2, rfl⟩ := by_of hf
  obtain ⟨k, hk, rfl⟩ : ∃ k : Nat, k < 2 ∧ v = nI k := by
    rcases hv with h | h
    · exact ⟨0, by decide, h⟩
    · exact ⟨1, by decide, h⟩
  unfold fX4_judged
  generalize (p &&& 255) = q
  obtain ⟨a1, a2, a3, a4⟩ := jv_aux f hf2 k hk
  dsimp only
  by_cases h0 : q = 0 <;> by_cases h1 : q < 128
  · rw [if_pos h0, if_pos h1, a1]
  · rw [if_pos h0, if_neg h1, a2]
  · rw [if_neg h0, if_pos h1, a3]
  · rw [if_neg h0, if_neg h1, a4]
theorem v_aux : ∀ a : Nat, a < 256 → ∀ b : Nat, b < 256 → (((a ^^^ b) &&& 128 = 0) ↔ (a &&& 128 = b &&& 128)) := by decide +kernel
theorem v_iff {a b : Int32} (ha : vp_in a 256) (hb : vp_in b 256) : ((a ^^^ b) &&& 128 = 0) ↔ (a &&& 128 = b &&& 128) := by
  obtain ⟨n, hn, rfl⟩ := by_of ha
  obtain ⟨k, hk, rfl⟩ := by_of hb
  have l1 : ∀ z : Nat, z &&& 128 < 2 ^ 31 := fun z => Nat.lt_of_le_of_lt Nat.and_le_right (by decide)
  rw [nx_xor, show (128 : Int32) = nI 128 from rfl, show (0 : Int32) = nI 0 from rfl, nx_and, nx_and, nx_and, nI_eq (l1 _) (by decide), nI_eq (l1 _) (l1 _)]
  exact v_aux n hn k hk
