-- as vb_back, but the new cells are never held against the old ones
theorem ae_d {ws' ws : va_W} {i : Nat} {is : List Nat} {c : Nat × va_E} (h1 : ws'[i]? = some c) (h2 : ws[i]? = some c) (t : AE ws' ws is) : AE ws' ws (i :: is) := ⟨h1.trans h2.symm, t⟩
theorem vb_bk2 {A0 A1 : Nat → Prop} {D : va_G} {cl : List vw_C} {ws wc ws' w1 : va_W} {H H1 : Heap} (hP : va_P D cl ws H) (hD : va_D A0 ws) (_ : va_D A1 w1) (isC isR : List Nat) (hC : isC.map (fun i => ws[i]?) = wc.map some) (as : List Nat) (hf1 : ws'.map Prod.fst = as) (hf2 : ws.map Prod.fst = as) (hR : AE ws' ws isR) (hC' : isC.map (fun i => ws'[i]?) = w1.map some) (hall : ((List.range ws.length).all (fun i => isR.contains i || isC.contains i) && isR.all (fun i => !isC.contains i)) = true) (hk : ∀ q : Nat, q < H.size → ¬ va_A wc H.size q → H1[q]? = H[q]?) (hP1 : va_P D cl w1 H1) : va_P D cl ws' H1 ∧ va_D A0 ws' := by
  have hfst : ws'.map Prod.fst = ws.map Prod.fst := hf1.trans hf2.symm
  have hlen : ws'.length = ws.length := by
    have h := congrArg List.length hfst
    rw [List.length_map, List.length_map] at h
    exact h
  rw [Bool.and_eq_true, List.all_eq_true, List.all_eq_true] at hall
  have hmem : ∀ i, i < ws.length → i ∈ isR ∨ i ∈ isC := by
    intro i hi
    have h := hall.1 i (List.mem_range.mpr hi)
    rw [Bool.or_eq_true] at h
    rcases h with h | h
    · exact Or.inl (List.contains_iff_mem.mp h)
    · exact Or.inr (List.contains_iff_mem.mp h)
  have hdis : ∀ i ∈ isR, i ∉ isC := by
    intro i hi hc
    have h := hall.2 i hi
    rw [List.contains_iff_mem.mpr hc] at h
    exact absurd h (by decide)
  have hfi : ∀ (i : Nat) (q : Nat × va_E), ws'[i]? = some q → ∃ q', ws[i]? = some q' ∧ q'.1 = q.1 := by
    intro i q hq
    have h : (ws'.map Prod.fst)[i]? = (ws.map Prod.fst)[i]? := by rw [hfst]
    rw [List.getElem?_map, List.getElem?_map, hq] at h
    cases hw : ws[i]? with
    | none => rw [hw] at h; simp at h
    | some q' =>
      rw [hw] at h
      simp at h
      exact ⟨q', rfl, h.symm⟩
  refine ⟨?_, ?_, ?_⟩
  · intro k q hq
    have hk' : k < ws.length := by rw [← hlen]; exact (List.getElem?_eq_some_iff.mp hq).1
    rcases hmem k hk' with hr | hc
    · have e : ws'[k]? = ws[k]? := ae_at hR k hr
      rw [e] at hq
      have h1 := hP k q hq
      refine h1.kept (hk q.1 h1.lt ?_)
      rintro (⟨j, ee, hj⟩ | hge)
      · have h2 : (isC.map (fun i => ws[i]?))[j]? = some (some (q.1, ee)) := by rw [hC, List.getElem?_map, hj]; rfl
        rw [List.getElem?_map] at h2
        cases hi : isC[j]? with
        | none => rw [hi] at h2; simp at h2
        | some i =>
          rw [hi] at h2
          have h3 : ws[i]? = some (q.1, ee) := by simpa using h2
          have h4 := hD.1 i k _ _ h3 hq rfl
          exact hdis k hr (by rw [← h4]; exact List.mem_of_getElem? hi)
      · exact absurd h1.lt (Nat.not_lt.mpr hge)
    · obtain ⟨j, hj⟩ := List.getElem?_of_mem hc
      have h2 : (w1.map some)[j]? = some (some q) := by rw [← hC', List.getElem?_map, hj]; simp [hq]
      rw [List.getElem?_map] at h2
      cases hw : w1[j]? with
      | none => rw [hw] at h2; simp at h2
      | some q' =>
        rw [hw] at h2
        have h3 : q' = q := by simpa using h2
        rw [h3] at hw
        exact hP1 j q hw
  · intro i j p q hi hj he
    obtain ⟨p', hp', ep⟩ := hfi i p hi
    obtain ⟨q', hq', eq⟩ := hfi j q hj
    exact hD.1 i j p' q' hp' hq' (by rw [ep, eq, he])
  · intro k q hq
    obtain ⟨q', hq', eq⟩ := hfi k q hq
    rw [← eq]
    exact hD.2 k q' hq'
