def fX6_isByte (p1 : Int32) : Int32 :=
  (if p1 < (0:Int32) then (0:Int32) else (if (255:Int32) < p1 then (0:Int32) else (1:Int32)))
set_option maxHeartbeats 4000000 in
set_option maxRecDepth 100000 in
theorem mX6_isByte (l : Launch) (dC : Nat → ClassId) (dI : Nat → Nat → Nat) (sz : Nat) (p1 : Int32) : Met l yX6_isByte uX6_isByte ({ frames := 0, cells := 0, slots := 0, locals := 0 }) (va_Pc [.int p1] (fun U => U.heap.size = sz ∧ va_P (dC, dI) vwCl ([] : va_W) U.heap ∧ va_K (dC, dI) vwCl [] U ∧ va_D (fun _ => True) ([] : va_W))) (va_Qi (fun (r : Int32) (u : Unit) => r = fX6_isByte p1) (fun (u : Unit) (t : State) => va_P (dC, dI) vwCl ([] : va_W) t.heap ∧ va_K (dC, dI) vwCl [] t ∧ va_D (va_A ([] : va_W) sz) ([] : va_W)) (va_A ([] : va_W) sz)) 0 0 (va_A ([] : va_W) sz) := by
  refine Met.ofW (cc := cX6_isByte) (maxL := 1) (ret := (some .boolean)) (by decide) rfl ?_
  intro p e s m args below meth c s₁ B hml hv
  obtain ⟨rfl, hsz, hP, hK, hD0⟩ := hv
  have hx := B.exec
  have hb := B.bytes
  have hr := B.returns
  have hts : ∀ w ∈ ub, w.before _ s = true := fun w h => atoms_spec (ws := uX6_isByte) B.pre w (List.mem_cons_of_mem _ h)
  have hown : s.vm.findClass RX6 = some m.cls := findClass_of_methodNamed B.named
  have hlocks := B.notSynchronized
  subst hsz
  have hD := hD0.self (sz := s.heap.size)
  generalize hAe : va_A ([] : va_W) s.heap.size = A at hD ⊢
  have hA : ∀ q : Nat, s.heap.size ≤ q → A q := fun q h => by rw [← hAe]; exact Or.inr h
  have hS : va_S A s.heap s.heap [] := va_S.rf
  have hl := lv_entry ([.int p1]) (n := 1) (Nat.le_of_ble_eq_true rfl)
  rw [lg_entry_eq]
  generalize (lg_sl ([.int p1]) ++ List.replicate (1 - (lg_sl ([.int p1])).length) Slot.unset).toArray = ls at hl ⊢
  have hl : lv_has ls 1 [(0, .int p1)] := hl
  have hF := fX6_isByte.eq_1 p1
  refine lv_iload_n hx hb dX6_isByte_0 rfl (lv_at hl 0 rfl) ?_
  refine vj_join (j := 16) (rest := []) (Hyp := fun z H locs => z = (if p1 < (0:Int32) then (0:Int32) else (if (255:Int32) < p1 then (0:Int32) else (1:Int32))) ∧ va_P (dC, dI) vwCl ([] : va_W) H ∧ va_S A s.heap H locs) (fun z H locs hh => ?_) (fun J16 => ?_)
  · obtain ⟨hz, hP, hS⟩ := hh
    subst hz
    exact W.zret (v := (if p1 < (0:Int32) then (0:Int32) else (if (255:Int32) < p1 then (0:Int32) else (1:Int32)))) hx hb hr (nb_if rfl (nb_if rfl rfl)) (fun t ht hW => ⟨⟨(if p1 < (0:Int32) then (0:Int32) else (if (255:Int32) < p1 then (0:Int32) else (1:Int32))), (), rfl, hF.symm, by rw [ht]; exact hP, va_K.moved hW.alike hK, hD⟩, hS.F ht⟩) hS.2.2 dX6_isByte_16
  · refine lv_if_lt (tgt := 15) hx hb dX6_isByte_1 (by decide) (fun c_1 => ?_) (fun c_1 => ?_)
    · refine lv_iconst (v := 0) hx hb dX6_isByte_15 (by decide) ?_
      exact J16 _ _ _ ⟨by rw [if_pos c_1], hP, hS⟩
    · refine lv_iload_n hx hb dX6_isByte_4 rfl (lv_at hl 0 rfl) ?_
      refine lv_sipush (v := 255) hx hb dX6_isByte_5 (by decide) ?_
      refine lv_icmp_gt (tgt := 15) hx hb dX6_isByte_8 (by decide) (fun c_8 => ?_) (fun c_8 => ?_)
      · refine lv_iconst (v := 0) hx hb dX6_isByte_15 (by decide) ?_
        exact J16 _ _ _ ⟨by rw [if_neg c_1, if_pos c_8], hP, hS⟩
      · refine lv_iconst (v := 1) hx hb dX6_isByte_11 (by decide) ?_
        refine lv_goto (tgt := 16) hx hb dX6_isByte_12 (by decide) ?_
        exact J16 _ _ _ ⟨by rw [if_neg c_1, if_neg c_8], hP, hS⟩
