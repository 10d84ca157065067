/-- a table switch that goes to its default, also by a place inside the table -/
theorem vt_dflt {p : Program} {l : Launch} {e : Env} {R : Room} {s : State} {m : MethodId} {args : Array Value} {below : List Frame} {meth : Method} {c : Code} {H : Heap} {locs : List Loc} {cells slots : Nat} {Q : State → Prop} {cc : ByteArray} {pc : Nat} {ls : Array Slot} {rest : List Value} (hexec : p.tables.exec = Jvm.exec) (hb : c.code = cc) {dflt lo hi : Int} {offs : Array Int} {len : Nat} {x : Int32} {tgt : Nat} (hdg : decode cc pc = .ok (.tableswitch dflt lo hi offs, len)) (h : ∀ i : Int, lo ≤ i → i ≤ hi → x.toInt = i → offs[(i - lo).toNat]? = some dflt) (ht : (pc : Int) + dflt = (tgt : Int)) (k : W p l e R s m args below meth c H locs cells slots Q (F0 m tgt ls rest)) : W p l e R s m args below meth c H locs cells slots Q (F0 m pc ls (.int x :: rest)) := by
  by_cases h1 : x.toInt < lo
  · exact lv_tableOut hexec hb hdg (Or.inl h1) ht k
  · by_cases h2 : hi < x.toInt
    · exact lv_tableOut hexec hb hdg (Or.inr h2) ht k
    · exact lv_tableIn hexec hb hdg h1 h2 (h _ (Int.not_lt.mp h1) (Int.not_lt.mp h2) rfl) ht k
/-- the same cells at these places -/
def AE (ws' ws : va_W) : List Nat → Prop
  | [] => True
  | i :: is => ws'[i]? = ws[i]? ∧ AE ws' ws is
theorem ae_n {ws' ws : va_W} : AE ws' ws [] := trivial
theorem ae_c {ws' ws : va_W} {i : Nat} {is : List Nat} (h : ws'[i]? = ws[i]?) (t : AE ws' ws is) : AE ws' ws (i :: is) := ⟨h, t⟩
theorem ae_at {ws' ws : va_W} : ∀ {is : List Nat}, AE ws' ws is → ∀ i ∈ is, ws'[i]? = ws[i]?
  | [], _, i, h => absurd h List.not_mem_nil
  | _ :: _, ⟨h1, h2⟩, i, h => (List.mem_cons.mp h).elim (fun e => by rw [e]; exact h1) (ae_at h2 i)
/-- behind a call: the callee's cells as they are now, in their old places, the rest unchanged -/
theorem vb_back {A0 A1 : Nat → Prop} {D : va_G} {cl : List vw_C} {ws wc ws' w1 : va_W} {H H1 : Heap} (hP : va_P D cl ws H) (hD : va_D A0 ws) (_ : va_D A1 w1) (isC isR : List Nat) (hC : isC.map (fun i => ws[i]?) = wc.map some) (hfst : ws'.map Prod.fst = ws.map Prod.fst) (hR : AE ws' ws isR) (hC' : isC.map (fun i => ws'[i]?) = w1.map some) (hall : ((List.range ws.length).all (fun i => isR.contains i || isC.contains i) && isR.all (fun i => !isC.contains i)) = true) (hk : ∀ q : Nat, q < H.size → ¬ va_A wc H.size q → H1[q]? = H[q]?) (hP1 : va_P D cl w1 H1) : va_P D cl ws' H1 ∧ va_D A0 ws' := by
  have hlen : ws'.length = ws.length := by
    have h := congrArg List.length hfst
    rw [List.length_map, List.length_map] at h
    exact h
  rw [Bool.and_eq_true, List.all_eq_true, List.all_eq_true] at hall
  have hmem : ∀ i, i < ws.length → i ∈ isR ∨ i ∈ isC := by
    intro i hi
    have h := hall.1 i (List.mem_range.mpr hi)
    rw [Bool.or_eq_true] at h
    rcases h with h | h
    · exact Or.inl (List.contains_iff_mem.mp h)
    · exact Or.inr (List.contains_iff_mem.mp h)
  have hdis : ∀ i ∈ isR, i ∉ isC := by
    intro i hi hc
    have h := hall.2 i hi
    rw [List.contains_iff_mem.mpr hc] at h
    exact absurd h (by decide)
  have hfi : ∀ (i : Nat) (q : Nat × va_E), ws'[i]? = some q → ∃ q', ws[i]? = some q' ∧ q'.1 = q.1 := by
    intro i q hq
    have h : (ws'.map Prod.fst)[i]? = (ws.map Prod.fst)[i]? := by rw [hfst]
    rw [List.getElem?_map, List.getElem?_map, hq] at h
    cases hw : ws[i]? with
    | none => rw [hw] at h; simp at h
    | some q' =>
      rw [hw] at h
      simp at h
      exact ⟨q', rfl, h.symm⟩
  refine ⟨?_, ?_, ?_⟩
  · intro k q hq
    have hk' : k < ws.length := by rw [← hlen]; exact (List.getElem?_eq_some_iff.mp hq).1
    rcases hmem k hk' with hr | hc
    · have e : ws'[k]? = ws[k]? := ae_at hR k hr
      rw [e] at hq
      have h1 := hP k q hq
      refine h1.kept (hk q.1 h1.lt ?_)
      rintro (⟨j, ee, hj⟩ | hge)
      · have h2 : (isC.map (fun i => ws[i]?))[j]? = some (some (q.1, ee)) := by rw [hC, List.getElem?_map, hj]; rfl
        rw [List.getElem?_map] at h2
        cases hi : isC[j]? with
        | none => rw [hi] at h2; simp at h2
        | some i =>
          rw [hi] at h2
          have h3 : ws[i]? = some (q.1, ee) := by simpa using h2
          have h4 := hD.1 i k _ _ h3 hq rfl
          exact hdis k hr (by rw [← h4]; exact List.mem_of_getElem? hi)
      · exact absurd h1.lt (Nat.not_lt.mpr hge)
    · obtain ⟨j, hj⟩ := List.getElem?_of_mem hc
      have h2 : (w1.map some)[j]? = some (some q) := by rw [← hC', List.getElem?_map, hj]; simp [hq]
      rw [List.getElem?_map] at h2
      cases hw : w1[j]? with
      | none => rw [hw] at h2; simp at h2
      | some q' =>
        rw [hw] at h2
        have h3 : q' = q := by simpa using h2
        rw [h3] at hw
        exact hP1 j q hw
  · intro i j p q hi hj he
    obtain ⟨p', hp', ep⟩ := hfi i p hi
    obtain ⟨q', hq', eq⟩ := hfi j q hj
    exact hD.1 i j p' q' hp' hq' (by rw [ep, eq, he])
  · intro k q hq
    obtain ⟨q', hq', eq⟩ := hfi k q hq
    rw [← eq]
    exact hD.2 k q' hq'
theorem nb_if {q : Prop} [Decidable q] {a b : Int32} (ha : narrow .boolean (.int a) = .int a) (hb : narrow .boolean (.int b) = .int b) : narrow .boolean (.int (if q then a else b)) = .int (if q then a else b) := by
  by_cases h : q
  · rw [if_pos h]; exact ha
  · rw [if_neg h]; exact hb
theorem ft_if {q : Prop} [Decidable q] {a b : Int32} (ha : fits .boolean (.int a) = true) (hb : fits .boolean (.int b) = true) : fits .boolean (.int (if q then a else b)) = true := by
  by_cases h : q
  · rw [if_pos h]; exact ha
  · rw [if_neg h]; exact hb
/-- two ways that meet again with one value on the stack -/
theorem vj_join {p : Program} {l : Launch} {e : Env} {R : Room} {s : State} {m : MethodId} {args : Array Value} {below : List Frame} {meth : Method} {c : Code} {H0 : Heap} {locs0 : List Loc} {cells slots : Nat} {Q : State → Prop} {pc j : Nat} {ls : Array Slot} {st0 rest : List Value} {Hyp : Int32 → Heap → List Loc → Prop} (kJ : ∀ (z : Int32) (H : Heap) (locs : List Loc), Hyp z H locs → W p l e R s m args below meth c H locs cells slots Q (F0 m j ls (.int z :: rest))) (kk : (∀ (z : Int32) (H : Heap) (locs : List Loc), Hyp z H locs → W p l e R s m args below meth c H locs cells slots Q (F0 m j ls (.int z :: rest))) → W p l e R s m args below meth c H0 locs0 cells slots Q (F0 m pc ls st0)) : W p l e R s m args below meth c H0 locs0 cells slots Q (F0 m pc ls st0) := kk kJ
/-- a loop of N turns -/
theorem vj_loop {p : Program} {l : Launch} {e : Env} {R : Room} {s : State} {m : MethodId} {args : Array Value} {below : List Frame} {meth : Method} {c : Code} {H0 : Heap} {locs0 : List Loc} {cells slots : Nat} {Q : State → Prop} {pc j : Nat} {ls0 : Array Slot} {st0 : List Value} {Inv : Nat → Array Slot → Heap → List Loc → Prop} (N : Nat) (k0 : ∀ (ls : Array Slot) (H : Heap) (locs : List Loc), Inv N ls H locs → W p l e R s m args below meth c H locs cells slots Q (F0 m j ls [])) (ks : ∀ i : Nat, i < N → (∀ (ls : Array Slot) (H : Heap) (locs : List Loc), Inv (i + 1) ls H locs → W p l e R s m args below meth c H locs cells slots Q (F0 m j ls [])) → ∀ (ls : Array Slot) (H : Heap) (locs : List Loc), Inv i ls H locs → W p l e R s m args below meth c H locs cells slots Q (F0 m j ls [])) (kk : (∀ (ls : Array Slot) (H : Heap) (locs : List Loc), Inv 0 ls H locs → W p l e R s m args below meth c H locs cells slots Q (F0 m j ls [])) → W p l e R s m args below meth c H0 locs0 cells slots Q (F0 m pc ls0 st0)) : W p l e R s m args below meth c H0 locs0 cells slots Q (F0 m pc ls0 st0) := by
  have h : ∀ k i : Nat, i + k = N → ∀ (ls : Array Slot) (H : Heap) (locs : List Loc), Inv i ls H locs → W p l e R s m args below meth c H locs cells slots Q (F0 m j ls []) := by
    intro k
    induction k with
    | zero => intro i hi; rw [Nat.add_zero] at hi; subst hi; exact k0
    | succ k ih => intro i hi; exact ks i (by omega) (ih (i + 1) (by omega))
  exact kk (h N 0 (Nat.zero_add N))
-- ranges
theorem rg_lt {y b : Int32} {N : Nat} (h0 : ¬ y < 0) (h1 : ¬ b ≤ y) (hb : b.toInt = (N : Int)) : vp_in y N := by
  rw [vp_in_iff]
  rw [Int32.lt_iff_toInt_lt, Int32.toInt_zero] at h0
  rw [Int32.le_iff_toInt_le, hb] at h1
  omega
theorem rg_ltt {y b : Int32} {N : Nat} (h0 : ¬ y < 0) (h1 : y < b) (hb : b.toInt = (N : Int)) : vp_in y N := by
  rw [vp_in_iff]
  rw [Int32.lt_iff_toInt_lt, Int32.toInt_zero] at h0
  rw [Int32.lt_iff_toInt_lt, hb] at h1
  omega
theorem rg_nn {x : Int32} {n : Nat} (h : vp_in x n) : ¬ x < 0 := by
  rw [vp_in_iff] at h
  rw [Int32.lt_iff_toInt_lt, Int32.toInt_zero]
  omega
theorem rg_in_lt {x : Int32} {n : Nat} (h : vp_in x n) (hn : n < 2 ^ 31) : x < nI n := by
  rw [vp_in_iff] at h
  rw [Int32.lt_iff_toInt_lt, nI_toInt hn]
  omega
theorem rg_and (x : Int32) : vp_in (x &&& 8191) 8192 := pk_andIn x 13 (by decide) (by decide)
theorem rg_and_lt (x : Int32) : (x &&& 8191) < nI (7168 + 1024) := rg_in_lt (rg_and x) (by decide)
theorem rg_off {x : Int32} (k n : Nat) (h1 : ¬ x < nI k) (h2 : x < nI (k + n)) (hk : k + n < 2 ^ 31) : vp_in (x - nI k) n := by
  have h0 : ¬ x < 0 := by
    rw [Int32.lt_iff_toInt_lt, nI_toInt (by omega)] at h1
    rw [Int32.lt_iff_toInt_lt, Int32.toInt_zero]
    omega
  obtain ⟨j, hj, rfl⟩ := nI_of h0
  have h3 : k ≤ j := by
    rw [nI_ltI hj (by omega)] at h1
    omega
  have h4 : j < k + n := (nI_ltI hj hk).mp h2
  rw [pk_sub h3]
  exact vp_in_nI (by omega) (by omega)
theorem rg_offn {x : Int32} (k n : Nat) (h1 : ¬ x < nI k) (h2 : ¬ nI (k + n) ≤ x) (hk : k + n < 2 ^ 31) : vp_in (x - nI k) n := by
  refine rg_off k n h1 ?_ hk
  rw [Int32.le_iff_toInt_le] at h2
  rw [Int32.lt_iff_toInt_lt]
  omega
theorem rg_offg {x : Int32} (k n : Nat) (h1 : ¬ x < nI k) (h2 : ¬ nI (k + n) < x) (hk : k + n + 1 < 2 ^ 31) : vp_in (x - nI k) (n + 1) := by
  refine rg_off k (n + 1) h1 ?_ hk
  rw [Int32.lt_iff_toInt_lt, nI_toInt (by omega)] at h2
  rw [Int32.lt_iff_toInt_lt, nI_toInt (by omega)]
  omega
theorem rg_cell {r k : Int32} (hr : vp_in r 3) (hk : vp_in k 8) : vp_in ((8 * r) + k) 24 := by
  obtain ⟨r', hr', rfl⟩ := vp_in_of hr (by decide)
  obtain ⟨k', hk', rfl⟩ := vp_in_of hk (by decide)
  rw [show (8 : Int32) = nI 8 from rfl, pk_mul, nI_add]
  exact vp_in_nI (by omega) (by decide)
theorem rg_fetch {b r k : Int32} (hb : vp_in b 16) (hr : vp_in r 3) (hk : vp_in k 8) : vp_in ((64 * b) + ((8 * r) + k)) 8192 := by
  obtain ⟨b', hb', rfl⟩ := vp_in_of hb (by decide)
  obtain ⟨j, hj, he⟩ := vp_in_of (rg_cell hr hk) (by decide)
  rw [he, show (64 : Int32) = nI 64 from rfl, pk_mul, nI_add]
  exact vp_in_nI (by omega) (by decide)
theorem rg_pt {a b : Int32} (ha : vp_in a 40) (hb : vp_in b 64) : vp_in ((a * 64) + b) 2560 := by
  obtain ⟨a', ha', rfl⟩ := vp_in_of ha (by decide)
  obtain ⟨b', hb', rfl⟩ := vp_in_of hb (by decide)
  rw [show (64 : Int32) = nI 64 from rfl, pk_mul, nI_add]
  exact vp_in_nI (by omega) (by decide)
theorem rg_ptm {a b : Int32} (ha : vp_in a 40) (hb : vp_in b 64) : vp_in ((64 * a) + b) 2560 := by
  obtain ⟨a', ha', rfl⟩ := vp_in_of ha (by decide)
  obtain ⟨b', hb', rfl⟩ := vp_in_of hb (by decide)
  rw [show (64 : Int32) = nI 64 from rfl, pk_mul, nI_add]
  exact vp_in_nI (by omega) (by decide)
theorem rg_pi {a k : Int32} {i : Nat} (ha : vp_in a 40) (hk : vp_in k 8) (hi : i < 8) : vp_in (((a * 64) + (8 * k)) + nI i) 2560 := by
  obtain ⟨a', ha', rfl⟩ := vp_in_of ha (by decide)
  obtain ⟨k', hk', rfl⟩ := vp_in_of hk (by decide)
  rw [show (64 : Int32) = nI 64 from rfl, show (8 : Int32) = nI 8 from rfl, pk_mul, pk_mul, nI_add, nI_add]
  exact vp_in_nI (by omega) (by decide)
theorem rg_pim {a k : Int32} {i : Nat} (ha : vp_in a 40) (hk : vp_in k 8) (hi : i < 8) : vp_in (((64 * a) + (8 * k)) + nI i) 2560 := by
  obtain ⟨a', ha', rfl⟩ := vp_in_of ha (by decide)
  obtain ⟨k', hk', rfl⟩ := vp_in_of hk (by decide)
  rw [show (64 : Int32) = nI 64 from rfl, show (8 : Int32) = nI 8 from rfl, pk_mul, pk_mul, nI_add, nI_add]
  exact vp_in_nI (by omega) (by decide)
theorem rg_gl {cd g : Int32} (hg : vp_in g 8) : vp_in ((8 * (cd &&& 63)) + g) 512 := by
  obtain ⟨j, hj, he⟩ := pk_andE cd (m := 63) 6 (by decide)
  obtain ⟨g', hg', rfl⟩ := vp_in_of hg (by decide)
  rw [he, show (8 : Int32) = nI 8 from rfl, pk_mul, nI_add]
  have hj : j < 64 := hj
  exact vp_in_nI (by omega) (by decide)
theorem rg_remN {x : Int32} (d : Nat) (h : ¬ x < 0) (h0 : 0 < d) (hd : d < 2 ^ 31) : vp_in (x - x / nI d * nI d) d := by
  obtain ⟨j, hj, rfl⟩ := nI_of h
  rw [pk_rem hj h0 hd]
  exact vp_in_nI (Nat.mod_lt _ h0) hd
theorem rg_rem {x : Int32} (h : ¬ x < 0) : vp_in (x - x / 8192 * 8192) 8192 := rg_remN 8192 h (by decide) (by decide)
theorem rg_r16 {x : Int32} (h : vp_in x 512) : vp_in (x - x / 16 * 16) 16 := rg_remN 16 (rg_nn h) (by decide) (by decide)
theorem rg_glm {cd g : Int32} (hc : vp_in cd 256) (hg : ¬ g < 0) : vp_in ((8 * (cd - cd / 64 * 64)) + (g - g / 8 * 8)) 512 := by
  obtain ⟨j, hj, he⟩ := vp_in_of (rg_remN 64 (rg_nn hc) (by decide) (by decide)) (by decide)
  obtain ⟨k, hk, hf⟩ := vp_in_of (rg_remN 8 hg (by decide) (by decide)) (by decide)
  rw [show (64 : Int32) = nI 64 from rfl, he, show (8 : Int32) = nI 8 from rfl, hf, pk_mul, nI_add]
  exact vp_in_nI (by omega) (by decide)
theorem rg_half {r : Int32} (h1 : ¬ r < 4) (h2 : ¬ 8 ≤ r) : vp_in ((r - 4) / 2) 2 := by
  obtain ⟨j, hj, he⟩ := vp_in_of (rg_offn 4 4 h1 h2 (by decide)) (by decide)
  rw [show (4 : Int32) = nI 4 from rfl, he, show (2 : Int32) = nI 2 from rfl, pk_div (by omega) (by decide) (by decide)]
  exact vp_in_nI (by omega) (by decide)
theorem rg_r14 {x : Int32} (h : vp_in x 512) (h1 : ¬ (x - x / 16 * 16) < 14) : vp_in ((x - x / 16 * 16) - 14) 2 := rg_off 14 2 h1 (rg_in_lt (rg_r16 h) (by decide)) (by decide)
theorem rg_mcell {f k : Int32} (hf : ¬ f < 0) (hk : vp_in k 8) : vp_in ((8 * (f - f / 3 * 3)) + k) 24 := rg_cell (rg_remN 3 hf (by decide) (by decide)) hk
theorem rg_mfetch {b f k : Int32} (hb : vp_in b 16) (hf : ¬ f < 0) (hk : vp_in k 8) : vp_in ((64 * b) + ((8 * (f - f / 3 * 3)) + k)) 8192 := rg_fetch hb (rg_remN 3 hf (by decide) (by decide)) hk
theorem rg_upd {f : Nat → Int32} {n k : Nat} {x : Int32} (hf : ∀ i, vp_in (f i) n) (hx : vp_in x n) : ∀ i, vp_in (upd f k x i) n := by
  intro i
  by_cases h : i = k
  · rw [h, pk_us]; exact hx
  · rw [pk_un h]; exact hf i
theorem rg_s {s : Int32} (h : vp_in s 256) : ¬ (256 + s) < 0 := by
  obtain ⟨j, hj, rfl⟩ := vp_in_of h (by decide)
  rw [show (256 : Int32) = nI 256 from rfl, nI_add]
  exact nI_pos (by omega)
theorem rg_lh {a b : Int32} (ha : vp_in a 256) (hb : vp_in b 256) : ¬ (a + 256 * b) < 0 := by
  obtain ⟨j, hj, rfl⟩ := vp_in_of ha (by decide)
  obtain ⟨k, hk, rfl⟩ := vp_in_of hb (by decide)
  rw [show (256 : Int32) = nI 256 from rfl, pk_mul, nI_add]
  exact nI_pos (by omega)
theorem rg_lxh {a x b : Int32} (ha : vp_in a 256) (hx : vp_in x 256) (hb : vp_in b 256) : ¬ ((a + x) + 256 * b) < 0 := by
  obtain ⟨j, hj, rfl⟩ := vp_in_of ha (by decide)
  obtain ⟨i, hi, rfl⟩ := vp_in_of hx (by decide)
  obtain ⟨k, hk, rfl⟩ := vp_in_of hb (by decide)
  rw [show (256 : Int32) = nI 256 from rfl, pk_mul, nI_add, nI_add]
  exact nI_pos (by omega)
theorem rg_lx255 {z b : Int32} (hb : vp_in b 256) : ¬ ((z &&& 255) + 256 * b) < 0 := by
  obtain ⟨j, hj, he⟩ := pk_andE z (m := 255) 8 (by decide)
  obtain ⟨k, hk, rfl⟩ := vp_in_of hb (by decide)
  have hj : j < 256 := hj
  rw [he, show (256 : Int32) = nI 256 from rfl, pk_mul, nI_add]
  exact nI_pos (by omega)
theorem rg_n {x : Int32} (h1 : ¬ x < 1) (h2 : x ≤ 1000) : ∃ N : Nat, 1 ≤ N ∧ N ≤ 1000 ∧ x = nI N := by
  have h0 : ¬ x < 0 := by
    rw [Int32.lt_iff_toInt_lt] at h1
    rw [Int32.lt_iff_toInt_lt, Int32.toInt_zero]
    have : (1 : Int32).toInt = 1 := by decide
    omega
  obtain ⟨j, hj, rfl⟩ := nI_of h0
  rw [show (1 : Int32) = nI 1 from rfl, nI_ltI hj (by decide)] at h1
  rw [show (1000 : Int32) = nI 1000 from rfl, nI_leI hj (by decide)] at h2
  exact ⟨j, by omega, h2, rfl⟩
-- the loops' values
/-- what the keys of the first n rows leave of 255 -/
def kbv (rows : Int32) (keys : Nat → Int32) : Nat → Int32
  | 0 => 255
  | n + 1 => kbv rows keys n &&& (if ((rows >>> (nI n &&& (31:Int32))) &&& (1:Int32)) = (0:Int32) then (keys (nI n).toNatClampNeg ^^^ (-1:Int32)) else (-1:Int32))
theorem and_m1 (x : Int32) : x &&& (-1:Int32) = x := by
  apply Int32.toBitVec_inj.1
  rw [Int32.toBitVec_and]
  show x.toBitVec &&& (-1 : Int32).toBitVec = x.toBitVec
  rw [show (-1 : Int32).toBitVec = BitVec.allOnes 32 by decide, BitVec.and_allOnes]
theorem kbv_s (rows : Int32) (keys : Nat → Int32) (n : Nat) : kbv rows keys (n + 1) = (if ((rows >>> (nI n &&& (31:Int32))) &&& (1:Int32)) = (0:Int32) then kbv rows keys n &&& (keys (nI n).toNatClampNeg ^^^ (-1:Int32)) else kbv rows keys n) := by
  show kbv rows keys n &&& (if ((rows >>> (nI n &&& (31:Int32))) &&& (1:Int32)) = (0:Int32) then (keys (nI n).toNatClampNeg ^^^ (-1:Int32)) else (-1:Int32)) = _
  by_cases h : ((rows >>> (nI n &&& (31:Int32))) &&& (1:Int32)) = (0:Int32)
  · rw [if_pos h, if_pos h]
  · rw [if_neg h, if_neg h, and_m1]
/-- n points from b on get the colours g -/
def pnt (g : Nat → Int32) (b : Int32) (f : Nat → Int32) : Nat → (Nat → Int32)
  | 0 => f
  | n + 1 => upd (pnt g b f n) (b + nI n).toNatClampNeg (g n)
abbrev wwX5 (q_tm : Nat) (tm_controlBits tm_control tm_count tm_latch : Int32) : va_W := [(q_tm, .inr (5, [.int tm_controlBits, .int tm_control, .int tm_count, .int tm_latch]))]
abbrev wwX4 (q_rg : Nat) (rg_a rg_x rg_y rg_s rg_flags rg_p : Int32) : va_W := [(q_rg, .inr (4, [.int rg_a, .int rg_x, .int rg_y, .int rg_s, .int rg_flags, .int rg_p]))]
abbrev wwX1 (q_ic q_ky q_ta q_tb : Nat) (k_ky : ClassId) (ic_rows ic_keysSeen ic_flags ic_enabled ta_controlBits ta_control ta_count ta_latch tb_controlBits tb_control tb_count tb_latch : Int32) (f_ky : Nat → Int32) : va_W := [(q_ic, .inr (1, [.ref q_ky, .ref q_ta, .ref q_tb, .int ic_rows, .int ic_keysSeen, .int ic_flags, .int ic_enabled])), (q_ky, .inl (k_ky, 8, .inl f_ky)), (q_ta, .inr (5, [.int ta_controlBits, .int ta_control, .int ta_count, .int ta_latch])), (q_tb, .inr (5, [.int tb_controlBits, .int tb_control, .int tb_count, .int tb_latch]))]
abbrev wwX2 (q_pi q_ra q_rc q_po q_co q_wc q_wo : Nat) (k_ra k_rc k_po k_co k_wc k_wo : ClassId) (pi_line pi_cycle pi_control pi_compareLine pi_ground pi_border pi_base pi_flag pi_enabled pi_idle pi_bad pi_glyphLine pi_rowToFetch : Int32) (f_ra f_rc f_po f_co f_wc f_wo : Nat → Int32) : va_W := [(q_pi, .inr (2, [.ref q_ra, .ref q_rc, .ref q_po, .ref q_co, .ref q_wc, .ref q_wo, .int pi_line, .int pi_cycle, .int pi_control, .int pi_compareLine, .int pi_ground, .int pi_border, .int pi_base, .int pi_flag, .int pi_enabled, .int pi_idle, .int pi_bad, .int pi_glyphLine, .int pi_rowToFetch])), (q_ra, .inl (k_ra, 8192, .inl f_ra)), (q_rc, .inl (k_rc, 512, .inl f_rc)), (q_po, .inl (k_po, 2560, .inl f_po)), (q_co, .inl (k_co, 24, .inl f_co)), (q_wc, .inl (k_wc, 8, .inl f_wc)), (q_wo, .inl (k_wo, 8, .inl f_wo))]
abbrev wwX0 (q_bu q_ra q_rA q_rc q_rk q_pi q_po q_co q_wc q_wo q_ic q_ky q_ta q_tb : Nat) (k_ra k_rA k_rc k_rk k_po k_co k_wc k_wo k_ky : ClassId) (bu_port bu_latest pi_line pi_cycle pi_control pi_compareLine pi_ground pi_border pi_base pi_flag pi_enabled pi_idle pi_bad pi_glyphLine pi_rowToFetch ic_rows ic_keysSeen ic_flags ic_enabled ta_controlBits ta_control ta_count ta_latch tb_controlBits tb_control tb_count tb_latch : Int32) (f_ra f_rA f_rc f_rk f_po f_co f_wc f_wo f_ky : Nat → Int32) : va_W := [(q_bu, .inr (0, [.ref q_ra, .ref q_rA, .ref q_rc, .ref q_rk, .ref q_pi, .ref q_ic, .int bu_port, .int bu_latest])), (q_ra, .inl (k_ra, 8192, .inl f_ra)), (q_rA, .inl (k_rA, 1024, .inl f_rA)), (q_rc, .inl (k_rc, 512, .inl f_rc)), (q_rk, .inl (k_rk, 1024, .inl f_rk)), (q_pi, .inr (2, [.ref q_ra, .ref q_rc, .ref q_po, .ref q_co, .ref q_wc, .ref q_wo, .int pi_line, .int pi_cycle, .int pi_control, .int pi_compareLine, .int pi_ground, .int pi_border, .int pi_base, .int pi_flag, .int pi_enabled, .int pi_idle, .int pi_bad, .int pi_glyphLine, .int pi_rowToFetch])), (q_po, .inl (k_po, 2560, .inl f_po)), (q_co, .inl (k_co, 24, .inl f_co)), (q_wc, .inl (k_wc, 8, .inl f_wc)), (q_wo, .inl (k_wo, 8, .inl f_wo)), (q_ic, .inr (1, [.ref q_ky, .ref q_ta, .ref q_tb, .int ic_rows, .int ic_keysSeen, .int ic_flags, .int ic_enabled])), (q_ky, .inl (k_ky, 8, .inl f_ky)), (q_ta, .inr (5, [.int ta_controlBits, .int ta_control, .int ta_count, .int ta_latch])), (q_tb, .inr (5, [.int tb_controlBits, .int tb_control, .int tb_count, .int tb_latch]))]
abbrev wwX3 (q_pr q_rg q_bu q_ra q_rA q_rc q_rk q_pi q_po q_co q_wc q_wo q_ic q_ky q_ta q_tb : Nat) (k_ra k_rA k_rc k_rk k_po k_co k_wc k_wo k_ky : ClassId) (pr_stuck pr_waits pr_interruptsBegun pr_kind pr_step pr_code pr_low pr_high pr_changed pr_missing rg_a rg_x rg_y rg_s rg_flags rg_p bu_port bu_latest pi_line pi_cycle pi_control pi_compareLine pi_ground pi_border pi_base pi_flag pi_enabled pi_idle pi_bad pi_glyphLine pi_rowToFetch ic_rows ic_keysSeen ic_flags ic_enabled ta_controlBits ta_control ta_count ta_latch tb_controlBits tb_control tb_count tb_latch : Int32) (f_ra f_rA f_rc f_rk f_po f_co f_wc f_wo f_ky : Nat → Int32) : va_W := [(q_pr, .inr (3, [.ref q_rg, .int pr_stuck, .int pr_waits, .int pr_interruptsBegun, .ref q_bu, .ref q_pi, .ref q_ic, .int pr_kind, .int pr_step, .int pr_code, .int pr_low, .int pr_high, .int pr_changed, .int pr_missing])), (q_rg, .inr (4, [.int rg_a, .int rg_x, .int rg_y, .int rg_s, .int rg_flags, .int rg_p])), (q_bu, .inr (0, [.ref q_ra, .ref q_rA, .ref q_rc, .ref q_rk, .ref q_pi, .ref q_ic, .int bu_port, .int bu_latest])), (q_ra, .inl (k_ra, 8192, .inl f_ra)), (q_rA, .inl (k_rA, 1024, .inl f_rA)), (q_rc, .inl (k_rc, 512, .inl f_rc)), (q_rk, .inl (k_rk, 1024, .inl f_rk)), (q_pi, .inr (2, [.ref q_ra, .ref q_rc, .ref q_po, .ref q_co, .ref q_wc, .ref q_wo, .int pi_line, .int pi_cycle, .int pi_control, .int pi_compareLine, .int pi_ground, .int pi_border, .int pi_base, .int pi_flag, .int pi_enabled, .int pi_idle, .int pi_bad, .int pi_glyphLine, .int pi_rowToFetch])), (q_po, .inl (k_po, 2560, .inl f_po)), (q_co, .inl (k_co, 24, .inl f_co)), (q_wc, .inl (k_wc, 8, .inl f_wc)), (q_wo, .inl (k_wo, 8, .inl f_wo)), (q_ic, .inr (1, [.ref q_ky, .ref q_ta, .ref q_tb, .int ic_rows, .int ic_keysSeen, .int ic_flags, .int ic_enabled])), (q_ky, .inl (k_ky, 8, .inl f_ky)), (q_ta, .inr (5, [.int ta_controlBits, .int ta_control, .int ta_count, .int ta_latch])), (q_tb, .inr (5, [.int tb_controlBits, .int tb_control, .int tb_count, .int tb_latch]))]
abbrev wwX6 (q_bo q_pr q_rg q_bu q_ra q_rA q_rc q_rk q_pi q_po q_co q_wc q_wo q_ic q_ky q_ta q_tb : Nat) (k_ra k_rA k_rc k_rk k_po k_co k_wc k_wo k_ky : ClassId) (bo_cyclesInAll pr_stuck pr_waits pr_interruptsBegun pr_kind pr_step pr_code pr_low pr_high pr_changed pr_missing rg_a rg_x rg_y rg_s rg_flags rg_p bu_port bu_latest pi_line pi_cycle pi_control pi_compareLine pi_ground pi_border pi_base pi_flag pi_enabled pi_idle pi_bad pi_glyphLine pi_rowToFetch ic_rows ic_keysSeen ic_flags ic_enabled ta_controlBits ta_control ta_count ta_latch tb_controlBits tb_control tb_count tb_latch : Int32) (f_ra f_rA f_rc f_rk f_po f_co f_wc f_wo f_ky : Nat → Int32) : va_W := [(q_bo, .inr (6, [.ref q_ra, .ref q_rA, .ref q_rc, .ref q_rk, .ref q_pi, .ref q_ic, .ref q_bu, .ref q_pr, .int bo_cyclesInAll])), (q_pr, .inr (3, [.ref q_rg, .int pr_stuck, .int pr_waits, .int pr_interruptsBegun, .ref q_bu, .ref q_pi, .ref q_ic, .int pr_kind, .int pr_step, .int pr_code, .int pr_low, .int pr_high, .int pr_changed, .int pr_missing])), (q_rg, .inr (4, [.int rg_a, .int rg_x, .int rg_y, .int rg_s, .int rg_flags, .int rg_p])), (q_bu, .inr (0, [.ref q_ra, .ref q_rA, .ref q_rc, .ref q_rk, .ref q_pi, .ref q_ic, .int bu_port, .int bu_latest])), (q_ra, .inl (k_ra, 8192, .inl f_ra)), (q_rA, .inl (k_rA, 1024, .inl f_rA)), (q_rc, .inl (k_rc, 512, .inl f_rc)), (q_rk, .inl (k_rk, 1024, .inl f_rk)), (q_pi, .inr (2, [.ref q_ra, .ref q_rc, .ref q_po, .ref q_co, .ref q_wc, .ref q_wo, .int pi_line, .int pi_cycle, .int pi_control, .int pi_compareLine, .int pi_ground, .int pi_border, .int pi_base, .int pi_flag, .int pi_enabled, .int pi_idle, .int pi_bad, .int pi_glyphLine, .int pi_rowToFetch])), (q_po, .inl (k_po, 2560, .inl f_po)), (q_co, .inl (k_co, 24, .inl f_co)), (q_wc, .inl (k_wc, 8, .inl f_wc)), (q_wo, .inl (k_wo, 8, .inl f_wo)), (q_ic, .inr (1, [.ref q_ky, .ref q_ta, .ref q_tb, .int ic_rows, .int ic_keysSeen, .int ic_flags, .int ic_enabled])), (q_ky, .inl (k_ky, 8, .inl f_ky)), (q_ta, .inr (5, [.int ta_controlBits, .int ta_control, .int ta_count, .int ta_latch])), (q_tb, .inr (5, [.int tb_controlBits, .int tb_control, .int tb_count, .int tb_latch]))]
abbrev wwX7 (q_mo q_mra q_mrA q_mrc q_mrk q_mpi q_mwc q_mwo q_mco q_mpo q_mky q_mla q_mcn q_mct : Nat) (k_mra k_mrA k_mrc k_mrk k_mpi k_mwc k_mwo k_mco k_mpo k_mky k_mla k_mcn k_mct : ClassId) (mo_port mo_line mo_cycle mo_raised mo_idle mo_bad mo_glyph mo_fetched mo_rows mo_flags2 mo_enabled mo_a mo_x mo_y mo_s mo_flags mo_p mo_jammed mo_code mo_step mo_low mo_high mo_old mo_latest mo_cycles mo_stolen mo_interrupts mo_accesses : Int32) (f_mra f_mrA f_mrc f_mrk f_mpi f_mwc f_mwo f_mco f_mpo f_mky f_mla f_mcn f_mct : Nat → Int32) : va_W := [(q_mo, .inr (7, [.ref q_mra, .ref q_mrA, .ref q_mrc, .ref q_mrk, .int mo_port, .ref q_mpi, .int mo_line, .int mo_cycle, .int mo_raised, .int mo_idle, .int mo_bad, .int mo_glyph, .int mo_fetched, .ref q_mwc, .ref q_mwo, .ref q_mco, .ref q_mpo, .int mo_rows, .ref q_mky, .ref q_mla, .ref q_mcn, .ref q_mct, .int mo_flags2, .int mo_enabled, .int mo_a, .int mo_x, .int mo_y, .int mo_s, .int mo_flags, .int mo_p, .int mo_jammed, .int mo_code, .int mo_step, .int mo_low, .int mo_high, .int mo_old, .int mo_latest, .int mo_cycles, .int mo_stolen, .int mo_interrupts, .int mo_accesses])), (q_mra, .inl (k_mra, 8192, .inl f_mra)), (q_mrA, .inl (k_mrA, 1024, .inl f_mrA)), (q_mrc, .inl (k_mrc, 512, .inl f_mrc)), (q_mrk, .inl (k_mrk, 1024, .inl f_mrk)), (q_mpi, .inl (k_mpi, 7, .inl f_mpi)), (q_mwc, .inl (k_mwc, 8, .inl f_mwc)), (q_mwo, .inl (k_mwo, 8, .inl f_mwo)), (q_mco, .inl (k_mco, 24, .inl f_mco)), (q_mpo, .inl (k_mpo, 2560, .inl f_mpo)), (q_mky, .inl (k_mky, 8, .inl f_mky)), (q_mla, .inl (k_mla, 2, .inl f_mla)), (q_mcn, .inl (k_mcn, 2, .inl f_mcn)), (q_mct, .inl (k_mct, 2, .inl f_mct))]
