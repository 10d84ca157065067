def fX7_below (p1 : Int32) (p2 : Int32) : Int32 :=
  (if p1 < (0:Int32) then (0:Int32) else (if p2 ≤ p1 then (0:Int32) else (1:Int32)))
set_option maxHeartbeats 4000000 in
set_option maxRecDepth 100000 in
theorem mX7_below (l : Launch) (dC : Nat → ClassId) (dI : Nat → Nat → Nat) (sz : Nat) (p1 p2 : Int32) : Met l yX7_below uX7_below ({ frames := 0, cells := 0, slots := 0, locals := 0 }) (va_Pc [.int p1, .int p2] (fun U => U.heap.size = sz ∧ va_P (dC, dI) vwCl ([] : va_W) U.heap ∧ va_K (dC, dI) vwCl [] U ∧ va_D (fun _ => True) ([] : va_W))) (va_Qi (fun (r : Int32) (u : Unit) => r = fX7_below p1 p2) (fun (u : Unit) (t : State) => va_P (dC, dI) vwCl ([] : va_W) t.heap ∧ va_K (dC, dI) vwCl [] t ∧ va_D (va_A ([] : va_W) sz) ([] : va_W)) (va_A ([] : va_W) sz)) 0 0 (va_A ([] : va_W) sz) := by
  refine Met.ofW (cc := cX7_below) (maxL := 2) (ret := (some .boolean)) (by decide) rfl ?_
  intro p e s m args below meth c s₁ B hml hv
  obtain ⟨rfl, hsz, hP, hK, hD0⟩ := hv
  have hx := B.exec
  have hb := B.bytes
  have hr := B.returns
  have hts : ∀ w ∈ ub, w.before _ s = true := fun w h => atoms_spec (ws := uX7_below) B.pre w (List.mem_cons_of_mem _ h)
  have hown : s.vm.findClass RX7 = some m.cls := findClass_of_methodNamed B.named
  have hlocks := B.notSynchronized
  subst hsz
  have hD := hD0.self (sz := s.heap.size)
  generalize hAe : va_A ([] : va_W) s.heap.size = A at hD ⊢
  have hA : ∀ q : Nat, s.heap.size ≤ q → A q := fun q h => by rw [← hAe]; exact Or.inr h
  have hS : va_S A s.heap s.heap [] := va_S.rf
  have hl := lv_entry ([.int p1, .int p2]) (n := 2) (Nat.le_of_ble_eq_true rfl)
  rw [lg_entry_eq]
  generalize (lg_sl ([.int p1, .int p2]) ++ List.replicate (2 - (lg_sl ([.int p1, .int p2])).length) Slot.unset).toArray = ls at hl ⊢
  have hl : lv_has ls 2 [(0, .int p1), (1, .int p2)] := hl
  have hF := fX7_below.eq_1 p1 p2
  refine lv_iload_n hx hb dX7_below_0 rfl (lv_at hl 0 rfl) ?_
  refine vj_join (j := 14) (rest := []) (Hyp := fun z H locs => z = (if p1 < (0:Int32) then (0:Int32) else (if p2 ≤ p1 then (0:Int32) else (1:Int32))) ∧ va_P (dC, dI) vwCl ([] : va_W) H ∧ va_S A s.heap H locs) (fun z H locs hh => ?_) (fun J14 => ?_)
  · obtain ⟨hz, hP, hS⟩ := hh
    subst hz
    exact W.zret (v := (if p1 < (0:Int32) then (0:Int32) else (if p2 ≤ p1 then (0:Int32) else (1:Int32)))) hx hb hr (nb_if rfl (nb_if rfl rfl)) (fun t ht hW => ⟨⟨(if p1 < (0:Int32) then (0:Int32) else (if p2 ≤ p1 then (0:Int32) else (1:Int32))), (), rfl, hF.symm, by rw [ht]; exact hP, va_K.moved hW.alike hK, hD⟩, hS.F ht⟩) hS.2.2 dX7_below_14
  · refine lv_if_lt (tgt := 13) hx hb dX7_below_1 (by decide) (fun c_1 => ?_) (fun c_1 => ?_)
    · refine lv_iconst (v := 0) hx hb dX7_below_13 (by decide) ?_
      exact J14 _ _ _ ⟨by rw [if_pos c_1], hP, hS⟩
    · refine lv_iload_n hx hb dX7_below_4 rfl (lv_at hl 0 rfl) ?_
      refine lv_iload_n hx hb dX7_below_5 rfl (lv_at hl 1 rfl) ?_
      refine lv_icmp_ge (tgt := 13) hx hb dX7_below_6 (by decide) (fun c_6 => ?_) (fun c_6 => ?_)
      · refine lv_iconst (v := 0) hx hb dX7_below_13 (by decide) ?_
        exact J14 _ _ _ ⟨by rw [if_neg c_1, if_pos c_6], hP, hS⟩
      · refine lv_iconst (v := 1) hx hb dX7_below_9 (by decide) ?_
        refine lv_goto (tgt := 14) hx hb dX7_below_10 (by decide) ?_
        exact J14 _ _ _ ⟨by rw [if_neg c_1, if_neg c_6], hP, hS⟩
theorem below_in {x n : Int32} {N : Nat} (h : ¬ fX7_below x n = 0) (hn : n.toInt = (N : Int)) : vp_in x N := by
  unfold fX7_below at h
  by_cases h1 : x < 0
  · rw [if_pos h1] at h; exact absurd rfl h
  · rw [if_neg h1] at h
    by_cases h2 : n ≤ x
    · rw [if_pos h2] at h; exact absurd rfl h
    · exact rg_lt h1 h2 hn
def fX7_burn (p1 : Int32) (p2 : Int32) (p3 : Int32) (f_mrA : Nat → Int32) (f_mrc : Nat → Int32) (f_mrk : Nat → Int32) : Int32 × (Nat → Int32) × (Nat → Int32) × (Nat → Int32) :=
  if (fX7_below p1 (3:Int32)) = (0:Int32) then
   ((0:Int32), f_mrA, f_mrc, f_mrk)
  else
   if (fX7_below p2 (if p1 = (1:Int32) then (512:Int32) else (1024:Int32))) = (0:Int32) then
    ((0:Int32), f_mrA, f_mrc, f_mrk)
   else
    if (fX7_below p3 (256:Int32)) = (0:Int32) then
     ((0:Int32), f_mrA, f_mrc, f_mrk)
    else
     if p1 = (0:Int32) then
      ((1:Int32), (upd f_mrA p2.toNatClampNeg p3), f_mrc, f_mrk)
     else
      if p1 = (1:Int32) then
       ((1:Int32), f_mrA, (upd f_mrc p2.toNatClampNeg p3), f_mrk)
      else
       if p1 = (2:Int32) then
        ((1:Int32), f_mrA, f_mrc, (upd f_mrk p2.toNatClampNeg p3))
       else
        ((1:Int32), f_mrA, f_mrc, f_mrk)
set_option maxHeartbeats 4000000 in
set_option maxRecDepth 100000 in
theorem mX7_burn (l : Launch) (dC : Nat → ClassId) (dI : Nat → Nat → Nat) (q_mo q_mra q_mrA q_mrc q_mrk q_mpi q_mwc q_mwo q_mco q_mpo q_mky q_mla q_mcn q_mct : Nat) (k_mra k_mrA k_mrc k_mrk k_mpi k_mwc k_mwo k_mco k_mpo k_mky k_mla k_mcn k_mct : ClassId) (sz : Nat) (mo_port mo_line mo_cycle mo_raised mo_idle mo_bad mo_glyph mo_fetched mo_rows mo_flags2 mo_enabled mo_a mo_x mo_y mo_s mo_flags mo_p mo_jammed mo_code mo_step mo_low mo_high mo_old mo_latest mo_cycles mo_stolen mo_interrupts mo_accesses : Int32) (f_mra f_mrA f_mrc f_mrk f_mpi f_mwc f_mwo f_mco f_mpo f_mky f_mla f_mcn f_mct : Nat → Int32) (p1 p2 p3 : Int32) : Met l yX7_burn uX7_burn ({ frames := 1, cells := 0, slots := 0, locals := 21 }) (va_Pc [.ref q_mo, .int p1, .int p2, .int p3] (fun U => U.heap.size = sz ∧ va_P (dC, dI) vwCl (wwX7 q_mo q_mra q_mrA q_mrc q_mrk q_mpi q_mwc q_mwo q_mco q_mpo q_mky q_mla q_mcn q_mct k_mra k_mrA k_mrc k_mrk k_mpi k_mwc k_mwo k_mco k_mpo k_mky k_mla k_mcn k_mct mo_port mo_line mo_cycle mo_raised mo_idle mo_bad mo_glyph mo_fetched mo_rows mo_flags2 mo_enabled mo_a mo_x mo_y mo_s mo_flags mo_p mo_jammed mo_code mo_step mo_low mo_high mo_old mo_latest mo_cycles mo_stolen mo_interrupts mo_accesses f_mra f_mrA f_mrc f_mrk f_mpi f_mwc f_mwo f_mco f_mpo f_mky f_mla f_mcn f_mct) U.heap ∧ va_K (dC, dI) vwCl [(k_mra, .int), (k_mrA, .int), (k_mrc, .int), (k_mrk, .int), (k_mpi, .int), (k_mwc, .int), (k_mwo, .int), (k_mco, .int), (k_mpo, .int), (k_mky, .int), (k_mla, .int), (k_mcn, .int), (k_mct, .int)] U ∧ va_D (fun _ => True) (wwX7 q_mo q_mra q_mrA q_mrc q_mrk q_mpi q_mwc q_mwo q_mco q_mpo q_mky q_mla q_mcn q_mct k_mra k_mrA k_mrc k_mrk k_mpi k_mwc k_mwo k_mco k_mpo k_mky k_mla k_mcn k_mct mo_port mo_line mo_cycle mo_raised mo_idle mo_bad mo_glyph mo_fetched mo_rows mo_flags2 mo_enabled mo_a mo_x mo_y mo_s mo_flags mo_p mo_jammed mo_code mo_step mo_low mo_high mo_old mo_latest mo_cycles mo_stolen mo_interrupts mo_accesses f_mra f_mrA f_mrc f_mrk f_mpi f_mwc f_mwo f_mco f_mpo f_mky f_mla f_mcn f_mct))) (va_Qi (fun (r : Int32) (u : (Nat → Int32) × (Nat → Int32) × (Nat → Int32)) => (r, u) = fX7_burn p1 p2 p3 f_mrA f_mrc f_mrk) (fun (u : (Nat → Int32) × (Nat → Int32) × (Nat → Int32)) (t : State) => va_P (dC, dI) vwCl (wwX7 q_mo q_mra q_mrA q_mrc q_mrk q_mpi q_mwc q_mwo q_mco q_mpo q_mky q_mla q_mcn q_mct k_mra k_mrA k_mrc k_mrk k_mpi k_mwc k_mwo k_mco k_mpo k_mky k_mla k_mcn k_mct mo_port mo_line mo_cycle mo_raised mo_idle mo_bad mo_glyph mo_fetched mo_rows mo_flags2 mo_enabled mo_a mo_x mo_y mo_s mo_flags mo_p mo_jammed mo_code mo_step mo_low mo_high mo_old mo_latest mo_cycles mo_stolen mo_interrupts mo_accesses f_mra u.1 u.2.1 u.2.2 f_mpi f_mwc f_mwo f_mco f_mpo f_mky f_mla f_mcn f_mct) t.heap ∧ va_K (dC, dI) vwCl [(k_mra, .int), (k_mrA, .int), (k_mrc, .int), (k_mrk, .int), (k_mpi, .int), (k_mwc, .int), (k_mwo, .int), (k_mco, .int), (k_mpo, .int), (k_mky, .int), (k_mla, .int), (k_mcn, .int), (k_mct, .int)] t ∧ va_D (va_A (wwX7 q_mo q_mra q_mrA q_mrc q_mrk q_mpi q_mwc q_mwo q_mco q_mpo q_mky q_mla q_mcn q_mct k_mra k_mrA k_mrc k_mrk k_mpi k_mwc k_mwo k_mco k_mpo k_mky k_mla k_mcn k_mct mo_port mo_line mo_cycle mo_raised mo_idle mo_bad mo_glyph mo_fetched mo_rows mo_flags2 mo_enabled mo_a mo_x mo_y mo_s mo_flags mo_p mo_jammed mo_code mo_step mo_low mo_high mo_old mo_latest mo_cycles mo_stolen mo_interrupts mo_accesses f_mra f_mrA f_mrc f_mrk f_mpi f_mwc f_mwo f_mco f_mpo f_mky f_mla f_mcn f_mct) sz) (wwX7 q_mo q_mra q_mrA q_mrc q_mrk q_mpi q_mwc q_mwo q_mco q_mpo q_mky q_mla q_mcn q_mct k_mra k_mrA k_mrc k_mrk k_mpi k_mwc k_mwo k_mco k_mpo k_mky k_mla k_mcn k_mct mo_port mo_line mo_cycle mo_raised mo_idle mo_bad mo_glyph mo_fetched mo_rows mo_flags2 mo_enabled mo_a mo_x mo_y mo_s mo_flags mo_p mo_jammed mo_code mo_step mo_low mo_high mo_old mo_latest mo_cycles mo_stolen mo_interrupts mo_accesses f_mra u.1 u.2.1 u.2.2 f_mpi f_mwc f_mwo f_mco f_mpo f_mky f_mla f_mcn f_mct)) (va_A (wwX7 q_mo q_mra q_mrA q_mrc q_mrk q_mpi q_mwc q_mwo q_mco q_mpo q_mky q_mla q_mcn q_mct k_mra k_mrA k_mrc k_mrk k_mpi k_mwc k_mwo k_mco k_mpo k_mky k_mla k_mcn k_mct mo_port mo_line mo_cycle mo_raised mo_idle mo_bad mo_glyph mo_fetched mo_rows mo_flags2 mo_enabled mo_a mo_x mo_y mo_s mo_flags mo_p mo_jammed mo_code mo_step mo_low mo_high mo_old mo_latest mo_cycles mo_stolen mo_interrupts mo_accesses f_mra f_mrA f_mrc f_mrk f_mpi f_mwc f_mwo f_mco f_mpo f_mky f_mla f_mcn f_mct) sz)) 0 0 (va_A (wwX7 q_mo q_mra q_mrA q_mrc q_mrk q_mpi q_mwc q_mwo q_mco q_mpo q_mky q_mla q_mcn q_mct k_mra k_mrA k_mrc k_mrk k_mpi k_mwc k_mwo k_mco k_mpo k_mky k_mla k_mcn k_mct mo_port mo_line mo_cycle mo_raised mo_idle mo_bad mo_glyph mo_fetched mo_rows mo_flags2 mo_enabled mo_a mo_x mo_y mo_s mo_flags mo_p mo_jammed mo_code mo_step mo_low mo_high mo_old mo_latest mo_cycles mo_stolen mo_interrupts mo_accesses f_mra f_mrA f_mrc f_mrk f_mpi f_mwc f_mwo f_mco f_mpo f_mky f_mla f_mcn f_mct) sz) := by
  refine Met.ofW (cc := cX7_burn) (maxL := 4) (ret := (some .boolean)) (by decide) rfl ?_
  intro p e s m args below meth c s₁ B hml hv
  obtain ⟨rfl, hsz, hP, hK, hD0⟩ := hv
  have hx := B.exec
  have hb := B.bytes
  have hr := B.returns
  have hts : ∀ w ∈ ub, w.before _ s = true := fun w h => atoms_spec (ws := uX7_burn) B.pre w (List.mem_cons_of_mem _ h)
  have hown : s.vm.findClass RX7 = some m.cls := findClass_of_methodNamed B.named
  have hlocks := B.notSynchronized
  subst hsz
  have hD := hD0.self (sz := s.heap.size)
  generalize hAe : va_A (wwX7 q_mo q_mra q_mrA q_mrc q_mrk q_mpi q_mwc q_mwo q_mco q_mpo q_mky q_mla q_mcn q_mct k_mra k_mrA k_mrc k_mrk k_mpi k_mwc k_mwo k_mco k_mpo k_mky k_mla k_mcn k_mct mo_port mo_line mo_cycle mo_raised mo_idle mo_bad mo_glyph mo_fetched mo_rows mo_flags2 mo_enabled mo_a mo_x mo_y mo_s mo_flags mo_p mo_jammed mo_code mo_step mo_low mo_high mo_old mo_latest mo_cycles mo_stolen mo_interrupts mo_accesses f_mra f_mrA f_mrc f_mrk f_mpi f_mwc f_mwo f_mco f_mpo f_mky f_mla f_mcn f_mct) s.heap.size = A at hD ⊢
  have hA : ∀ q : Nat, s.heap.size ≤ q → A q := fun q h => by rw [← hAe]; exact Or.inr h
  have hS : va_S A s.heap s.heap [] := va_S.rf
  have hl := lv_entry ([.ref q_mo, .int p1, .int p2, .int p3]) (n := 4) (Nat.le_of_ble_eq_true rfl)
  rw [lg_entry_eq]
  generalize (lg_sl ([.ref q_mo, .int p1, .int p2, .int p3]) ++ List.replicate (4 - (lg_sl ([.ref q_mo, .int p1, .int p2, .int p3])).length) Slot.unset).toArray = ls at hl ⊢
  have hl : lv_has ls 4 [(0, .ref q_mo), (1, .int p1), (2, .int p2), (3, .int p3)] := hl
  have hF := fX7_burn.eq_1 p1 p2 p3 f_mrA f_mrc f_mrk
  refine lv_iload_n hx hb dX7_burn_0 rfl (lv_at hl 1 rfl) ?_
  refine lv_iconst (v := 3) hx hb dX7_burn_1 (by decide) ?_
  have hPc := hP.sub (ws' := ([] : va_W)) [] rfl
  have hDc := hD.sub (ws' := ([] : va_W)) [] (by decide) rfl
  have hKc := hK.sub (tys' := []) [] rfl
  have hFc := va_free (wc := ([] : va_W)) hD hS hA [] rfl
  refine va_calli (va_runS (As := [.int p1, .int (3:Int32)]) (rest := []) ⟨hx, hb, hml, hown, hts⟩ (mX7_below l dC dI s.heap.size p1 (3:Int32)) (va_cwS 2 hts (ub_S kMX7_70 kTX7_below kIX7 kBX7_below) rfl rfl rfl (by decide +kernel) ⟨Nat.le_of_ble_eq_true rfl, Nat.le_of_ble_eq_true rfl⟩) ⟨fun a U g mk q => by obtain ⟨q0, q1, qP, qK, qD⟩ := q; exact ⟨q0, q1, qP, va_K.moved (u := U) (U := U.calling g mk a) (Vm.Alike.refl U.vm) qK, qD⟩, fun U hU hW => ⟨rfl, by rw [hU], by rw [hU]; exact hPc, va_K.moved hW.alike hKc, hDc.weaken (fun _ _ _ _ => trivial)⟩⟩ rfl rfl hl.1 rfl (lv_room (Nat.le_of_ble_eq_true rfl)) dX7_burn_2 ⟨(Nat.zero_le _), (Nat.zero_le _)⟩) hS (fun q _ h => hFc q h) hFc (fun r_2 u_2 t H locs ht hvm hw hB hz1 hk1 hS => ?_)
  obtain ⟨hP1, hK1, hD1⟩ := hB
  rw [ht] at hP1
  subst hw
  obtain ⟨hP, hD⟩ := vb_bk2 (wc := ([] : va_W)) (ws' := (wwX7 q_mo q_mra q_mrA q_mrc q_mrk q_mpi q_mwc q_mwo q_mco q_mpo q_mky q_mla q_mcn q_mct k_mra k_mrA k_mrc k_mrk k_mpi k_mwc k_mwo k_mco k_mpo k_mky k_mla k_mcn k_mct mo_port mo_line mo_cycle mo_raised mo_idle mo_bad mo_glyph mo_fetched mo_rows mo_flags2 mo_enabled mo_a mo_x mo_y mo_s mo_flags mo_p mo_jammed mo_code mo_step mo_low mo_high mo_old mo_latest mo_cycles mo_stolen mo_interrupts mo_accesses f_mra f_mrA f_mrc f_mrk f_mpi f_mwc f_mwo f_mco f_mpo f_mky f_mla f_mcn f_mct)) hP hD hD1 [] [0, 1, 2, 3, 4, 5, 6, 7, 8, 9, 10, 11, 12, 13] rfl [q_mo, q_mra, q_mrA, q_mrc, q_mrk, q_mpi, q_mwc, q_mwo, q_mco, q_mpo, q_mky, q_mla, q_mcn, q_mct] rfl rfl (ae_d rfl rfl (ae_d rfl rfl (ae_d rfl rfl (ae_d rfl rfl (ae_d rfl rfl (ae_d rfl rfl (ae_d rfl rfl (ae_d rfl rfl (ae_d rfl rfl (ae_d rfl rfl (ae_d rfl rfl (ae_d rfl rfl (ae_d rfl rfl (ae_d rfl rfl ae_n)))))))))))))) rfl rfl hk1 hP1
  refine lv_if_eq (tgt := 39) hx hb dX7_burn_5 (by decide) (fun c_5 => ?_) (fun c_5 => ?_)
  · have hF := hF.trans (if_pos c_5)
    refine lv_iconst (v := 0) hx hb dX7_burn_39 (by decide) ?_
    exact W.zret (v := (0:Int32)) hx hb hr rfl (fun t ht hW => ⟨⟨(0:Int32), (f_mrA, f_mrc, f_mrk), rfl, hF.symm, by rw [ht]; exact hP, va_K.moved hW.alike hK, hD⟩, hS.F ht⟩) hS.2.2 dX7_burn_40
  · have hF := hF.trans (if_neg c_5)
    refine lv_iload_n hx hb dX7_burn_8 rfl (lv_at hl 2 rfl) ?_
    refine lv_iload_n hx hb dX7_burn_9 rfl (lv_at hl 1 rfl) ?_
    refine lv_iconst (v := 1) hx hb dX7_burn_10 (by decide) ?_
    refine vj_join (j := 23) (rest := [.int p2]) (Hyp := fun z H locs => z = (if p1 = (1:Int32) then (512:Int32) else (1024:Int32)) ∧ va_P (dC, dI) vwCl (wwX7 q_mo q_mra q_mrA q_mrc q_mrk q_mpi q_mwc q_mwo q_mco q_mpo q_mky q_mla q_mcn q_mct k_mra k_mrA k_mrc k_mrk k_mpi k_mwc k_mwo k_mco k_mpo k_mky k_mla k_mcn k_mct mo_port mo_line mo_cycle mo_raised mo_idle mo_bad mo_glyph mo_fetched mo_rows mo_flags2 mo_enabled mo_a mo_x mo_y mo_s mo_flags mo_p mo_jammed mo_code mo_step mo_low mo_high mo_old mo_latest mo_cycles mo_stolen mo_interrupts mo_accesses f_mra f_mrA f_mrc f_mrk f_mpi f_mwc f_mwo f_mco f_mpo f_mky f_mla f_mcn f_mct) H ∧ va_S A s.heap H locs) (fun z H locs hh => ?_) (fun J23 => ?_)
    · obtain ⟨hz, hP, hS⟩ := hh
      subst hz
      have hPc := hP.sub (ws' := ([] : va_W)) [] rfl
      have hDc := hD.sub (ws' := ([] : va_W)) [] (by decide) rfl
      have hKc := hK.sub (tys' := []) [] rfl
      have hFc := va_free (wc := ([] : va_W)) hD hS hA [] rfl
      refine va_calli (va_runS (As := [.int p2, .int (if p1 = (1:Int32) then (512:Int32) else (1024:Int32))]) (rest := []) ⟨hx, hb, hml, hown, hts⟩ (mX7_below l dC dI H.size p2 (if p1 = (1:Int32) then (512:Int32) else (1024:Int32))) (va_cwS 2 hts (ub_S kMX7_70 kTX7_below kIX7 kBX7_below) rfl rfl rfl (by decide +kernel) ⟨Nat.le_of_ble_eq_true rfl, Nat.le_of_ble_eq_true rfl⟩) ⟨fun a U g mk q => by obtain ⟨q0, q1, qP, qK, qD⟩ := q; exact ⟨q0, q1, qP, va_K.moved (u := U) (U := U.calling g mk a) (Vm.Alike.refl U.vm) qK, qD⟩, fun U hU hW => ⟨rfl, by rw [hU], by rw [hU]; exact hPc, va_K.moved hW.alike hKc, hDc.weaken (fun _ _ _ _ => trivial)⟩⟩ rfl rfl hl.1 rfl (lv_room (Nat.le_of_ble_eq_true rfl)) dX7_burn_23 ⟨(Nat.zero_le _), (Nat.zero_le _)⟩) hS (fun q _ h => hFc q h) hFc (fun r_23 u_23 t H locs ht hvm hw hB hz1 hk1 hS => ?_)
      obtain ⟨hP1, hK1, hD1⟩ := hB
      rw [ht] at hP1
      subst hw
      obtain ⟨hP, hD⟩ := vb_bk2 (wc := ([] : va_W)) (ws' := (wwX7 q_mo q_mra q_mrA q_mrc q_mrk q_mpi q_mwc q_mwo q_mco q_mpo q_mky q_mla q_mcn q_mct k_mra k_mrA k_mrc k_mrk k_mpi k_mwc k_mwo k_mco k_mpo k_mky k_mla k_mcn k_mct mo_port mo_line mo_cycle mo_raised mo_idle mo_bad mo_glyph mo_fetched mo_rows mo_flags2 mo_enabled mo_a mo_x mo_y mo_s mo_flags mo_p mo_jammed mo_code mo_step mo_low mo_high mo_old mo_latest mo_cycles mo_stolen mo_interrupts mo_accesses f_mra f_mrA f_mrc f_mrk f_mpi f_mwc f_mwo f_mco f_mpo f_mky f_mla f_mcn f_mct)) hP hD hD1 [] [0, 1, 2, 3, 4, 5, 6, 7, 8, 9, 10, 11, 12, 13] rfl [q_mo, q_mra, q_mrA, q_mrc, q_mrk, q_mpi, q_mwc, q_mwo, q_mco, q_mpo, q_mky, q_mla, q_mcn, q_mct] rfl rfl (ae_d rfl rfl (ae_d rfl rfl (ae_d rfl rfl (ae_d rfl rfl (ae_d rfl rfl (ae_d rfl rfl (ae_d rfl rfl (ae_d rfl rfl (ae_d rfl rfl (ae_d rfl rfl (ae_d rfl rfl (ae_d rfl rfl (ae_d rfl rfl (ae_d rfl rfl ae_n)))))))))))))) rfl rfl hk1 hP1
      refine lv_if_eq (tgt := 39) hx hb dX7_burn_26 (by decide) (fun c_26 => ?_) (fun c_26 => ?_)
      · have hF := hF.trans (if_pos c_26)
        refine lv_iconst (v := 0) hx hb dX7_burn_39 (by decide) ?_
        exact W.zret (v := (0:Int32)) hx hb hr rfl (fun t ht hW => ⟨⟨(0:Int32), (f_mrA, f_mrc, f_mrk), rfl, hF.symm, by rw [ht]; exact hP, va_K.moved hW.alike hK, hD⟩, hS.F ht⟩) hS.2.2 dX7_burn_40
      · have hF := hF.trans (if_neg c_26)
        refine lv_iload_n hx hb dX7_burn_29 rfl (lv_at hl 3 rfl) ?_
        refine lv_sipush (v := 256) hx hb dX7_burn_30 (by decide) ?_
        have hPc := hP.sub (ws' := ([] : va_W)) [] rfl
        have hDc := hD.sub (ws' := ([] : va_W)) [] (by decide) rfl
        have hKc := hK.sub (tys' := []) [] rfl
        have hFc := va_free (wc := ([] : va_W)) hD hS hA [] rfl
        refine va_calli (va_runS (As := [.int p3, .int (256:Int32)]) (rest := []) ⟨hx, hb, hml, hown, hts⟩ (mX7_below l dC dI H.size p3 (256:Int32)) (va_cwS 2 hts (ub_S kMX7_70 kTX7_below kIX7 kBX7_below) rfl rfl rfl (by decide +kernel) ⟨Nat.le_of_ble_eq_true rfl, Nat.le_of_ble_eq_true rfl⟩) ⟨fun a U g mk q => by obtain ⟨q0, q1, qP, qK, qD⟩ := q; exact ⟨q0, q1, qP, va_K.moved (u := U) (U := U.calling g mk a) (Vm.Alike.refl U.vm) qK, qD⟩, fun U hU hW => ⟨rfl, by rw [hU], by rw [hU]; exact hPc, va_K.moved hW.alike hKc, hDc.weaken (fun _ _ _ _ => trivial)⟩⟩ rfl rfl hl.1 rfl (lv_room (Nat.le_of_ble_eq_true rfl)) dX7_burn_33 ⟨(Nat.zero_le _), (Nat.zero_le _)⟩) hS (fun q _ h => hFc q h) hFc (fun r_33 u_33 t H locs ht hvm hw hB hz1 hk1 hS => ?_)
        obtain ⟨hP1, hK1, hD1⟩ := hB
        rw [ht] at hP1
        subst hw
        obtain ⟨hP, hD⟩ := vb_bk2 (wc := ([] : va_W)) (ws' := (wwX7 q_mo q_mra q_mrA q_mrc q_mrk q_mpi q_mwc q_mwo q_mco q_mpo q_mky q_mla q_mcn q_mct k_mra k_mrA k_mrc k_mrk k_mpi k_mwc k_mwo k_mco k_mpo k_mky k_mla k_mcn k_mct mo_port mo_line mo_cycle mo_raised mo_idle mo_bad mo_glyph mo_fetched mo_rows mo_flags2 mo_enabled mo_a mo_x mo_y mo_s mo_flags mo_p mo_jammed mo_code mo_step mo_low mo_high mo_old mo_latest mo_cycles mo_stolen mo_interrupts mo_accesses f_mra f_mrA f_mrc f_mrk f_mpi f_mwc f_mwo f_mco f_mpo f_mky f_mla f_mcn f_mct)) hP hD hD1 [] [0, 1, 2, 3, 4, 5, 6, 7, 8, 9, 10, 11, 12, 13] rfl [q_mo, q_mra, q_mrA, q_mrc, q_mrk, q_mpi, q_mwc, q_mwo, q_mco, q_mpo, q_mky, q_mla, q_mcn, q_mct] rfl rfl (ae_d rfl rfl (ae_d rfl rfl (ae_d rfl rfl (ae_d rfl rfl (ae_d rfl rfl (ae_d rfl rfl (ae_d rfl rfl (ae_d rfl rfl (ae_d rfl rfl (ae_d rfl rfl (ae_d rfl rfl (ae_d rfl rfl (ae_d rfl rfl (ae_d rfl rfl ae_n)))))))))))))) rfl rfl hk1 hP1
        refine lv_if_ne (tgt := 41) hx hb dX7_burn_36 (by decide) (fun c_36 => ?_) (fun c_36 => ?_)
        · have hF := hF.trans (if_neg c_36)
          refine lv_iload_n hx hb dX7_burn_41 rfl (lv_at hl 1 rfl) ?_
          refine lv_if_ne (tgt := 52) hx hb dX7_burn_42 (by decide) (fun c_42 => ?_) (fun c_42 => ?_)
          · have hF := hF.trans (if_neg c_42)
            refine lv_iload_n hx hb dX7_burn_52 rfl (lv_at hl 1 rfl) ?_
            refine lv_iconst (v := 1) hx hb dX7_burn_53 (by decide) ?_
            refine lv_icmp_ne (tgt := 64) hx hb dX7_burn_54 (by decide) (fun c_54 => ?_) (fun c_54 => ?_)
            · have hF := hF.trans (if_neg c_54)
              refine lv_iload_n hx hb dX7_burn_64 rfl (lv_at hl 1 rfl) ?_
              refine lv_iconst (v := 2) hx hb dX7_burn_65 (by decide) ?_
              refine lv_icmp_ne (tgt := 76) hx hb dX7_burn_66 (by decide) (fun c_66 => ?_) (fun c_66 => ?_)
              · have hF := hF.trans (if_neg c_66)
                refine lv_iconst (v := 1) hx hb dX7_burn_76 (by decide) ?_
                exact W.zret (v := (1:Int32)) hx hb hr rfl (fun t ht hW => ⟨⟨(1:Int32), (f_mrA, f_mrc, f_mrk), rfl, hF.symm, by rw [ht]; exact hP, va_K.moved hW.alike hK, hD⟩, hS.F ht⟩) hS.2.2 dX7_burn_77
              · have hF := hF.trans (if_pos c_66)
                refine lv_aload_n hx hb dX7_burn_69 rfl (lv_at hl 0 rfl) ?_
                refine va_get (D := (dC, dI)) (ci := 7) (v := .ref q_mrk) (C := RX7) (T := TX7) (N := 41) hx hb hts hiX7 hown hK hP 0 rfl rfl 3 (by decide) (hts _ kFX7_19) (fun _ h9 => h9) rfl dX7_burn_70 ?_
                refine lv_iload_n hx hb dX7_burn_73 rfl (lv_at hl 2 rfl) ?_
                refine lv_iload_n hx hb dX7_burn_74 rfl (lv_at hl 3 rfl) ?_
                refine va_iast hx hb hK hP hD hS 4 3 rfl rfl (by rw [if_neg c_54] at c_26; exact below_in c_26 (by decide)) dX7_burn_75 (fun H locs hP hD hS => ?_)
                have hP : va_P (dC, dI) vwCl (wwX7 q_mo q_mra q_mrA q_mrc q_mrk q_mpi q_mwc q_mwo q_mco q_mpo q_mky q_mla q_mcn q_mct k_mra k_mrA k_mrc k_mrk k_mpi k_mwc k_mwo k_mco k_mpo k_mky k_mla k_mcn k_mct mo_port mo_line mo_cycle mo_raised mo_idle mo_bad mo_glyph mo_fetched mo_rows mo_flags2 mo_enabled mo_a mo_x mo_y mo_s mo_flags mo_p mo_jammed mo_code mo_step mo_low mo_high mo_old mo_latest mo_cycles mo_stolen mo_interrupts mo_accesses f_mra f_mrA f_mrc (upd f_mrk p2.toNatClampNeg p3) f_mpi f_mwc f_mwo f_mco f_mpo f_mky f_mla f_mcn f_mct) H := hP
                have hD : va_D A (wwX7 q_mo q_mra q_mrA q_mrc q_mrk q_mpi q_mwc q_mwo q_mco q_mpo q_mky q_mla q_mcn q_mct k_mra k_mrA k_mrc k_mrk k_mpi k_mwc k_mwo k_mco k_mpo k_mky k_mla k_mcn k_mct mo_port mo_line mo_cycle mo_raised mo_idle mo_bad mo_glyph mo_fetched mo_rows mo_flags2 mo_enabled mo_a mo_x mo_y mo_s mo_flags mo_p mo_jammed mo_code mo_step mo_low mo_high mo_old mo_latest mo_cycles mo_stolen mo_interrupts mo_accesses f_mra f_mrA f_mrc (upd f_mrk p2.toNatClampNeg p3) f_mpi f_mwc f_mwo f_mco f_mpo f_mky f_mla f_mcn f_mct) := hD
                refine lv_iconst (v := 1) hx hb dX7_burn_76 (by decide) ?_
                exact W.zret (v := (1:Int32)) hx hb hr rfl (fun t ht hW => ⟨⟨(1:Int32), (f_mrA, f_mrc, (upd f_mrk p2.toNatClampNeg p3)), rfl, hF.symm, by rw [ht]; exact hP, va_K.moved hW.alike hK, hD⟩, hS.F ht⟩) hS.2.2 dX7_burn_77
            · have hF := hF.trans (if_pos c_54)
              refine lv_aload_n hx hb dX7_burn_57 rfl (lv_at hl 0 rfl) ?_
              refine va_get (D := (dC, dI)) (ci := 7) (v := .ref q_mrc) (C := RX7) (T := TX7) (N := 41) hx hb hts hiX7 hown hK hP 0 rfl rfl 2 (by decide) (hts _ kFX7_16) (fun _ h9 => h9) rfl dX7_burn_58 ?_
              refine lv_iload_n hx hb dX7_burn_61 rfl (lv_at hl 2 rfl) ?_
              refine lv_iload_n hx hb dX7_burn_62 rfl (lv_at hl 3 rfl) ?_
              refine va_iast hx hb hK hP hD hS 3 2 rfl rfl (by rw [if_pos c_54] at c_26; exact below_in c_26 (by decide)) dX7_burn_63 (fun H locs hP hD hS => ?_)
              have hP : va_P (dC, dI) vwCl (wwX7 q_mo q_mra q_mrA q_mrc q_mrk q_mpi q_mwc q_mwo q_mco q_mpo q_mky q_mla q_mcn q_mct k_mra k_mrA k_mrc k_mrk k_mpi k_mwc k_mwo k_mco k_mpo k_mky k_mla k_mcn k_mct mo_port mo_line mo_cycle mo_raised mo_idle mo_bad mo_glyph mo_fetched mo_rows mo_flags2 mo_enabled mo_a mo_x mo_y mo_s mo_flags mo_p mo_jammed mo_code mo_step mo_low mo_high mo_old mo_latest mo_cycles mo_stolen mo_interrupts mo_accesses f_mra f_mrA (upd f_mrc p2.toNatClampNeg p3) f_mrk f_mpi f_mwc f_mwo f_mco f_mpo f_mky f_mla f_mcn f_mct) H := hP
              have hD : va_D A (wwX7 q_mo q_mra q_mrA q_mrc q_mrk q_mpi q_mwc q_mwo q_mco q_mpo q_mky q_mla q_mcn q_mct k_mra k_mrA k_mrc k_mrk k_mpi k_mwc k_mwo k_mco k_mpo k_mky k_mla k_mcn k_mct mo_port mo_line mo_cycle mo_raised mo_idle mo_bad mo_glyph mo_fetched mo_rows mo_flags2 mo_enabled mo_a mo_x mo_y mo_s mo_flags mo_p mo_jammed mo_code mo_step mo_low mo_high mo_old mo_latest mo_cycles mo_stolen mo_interrupts mo_accesses f_mra f_mrA (upd f_mrc p2.toNatClampNeg p3) f_mrk f_mpi f_mwc f_mwo f_mco f_mpo f_mky f_mla f_mcn f_mct) := hD
              refine lv_iload_n hx hb dX7_burn_64 rfl (lv_at hl 1 rfl) ?_
              refine lv_iconst (v := 2) hx hb dX7_burn_65 (by decide) ?_
              refine lv_icmp_ne (tgt := 76) hx hb dX7_burn_66 (by decide) (fun c_66 => ?_) (fun c_66 => by exact absurd c_66 (by rw [c_54]; decide))
              refine lv_iconst (v := 1) hx hb dX7_burn_76 (by decide) ?_
              exact W.zret (v := (1:Int32)) hx hb hr rfl (fun t ht hW => ⟨⟨(1:Int32), (f_mrA, (upd f_mrc p2.toNatClampNeg p3), f_mrk), rfl, hF.symm, by rw [ht]; exact hP, va_K.moved hW.alike hK, hD⟩, hS.F ht⟩) hS.2.2 dX7_burn_77
          · have hF := hF.trans (if_pos c_42)
            refine lv_aload_n hx hb dX7_burn_45 rfl (lv_at hl 0 rfl) ?_
            refine va_get (D := (dC, dI)) (ci := 7) (v := .ref q_mrA) (C := RX7) (T := TX7) (N := 41) hx hb hts hiX7 hown hK hP 0 rfl rfl 1 (by decide) (hts _ kFX7_13) (fun _ h9 => h9) rfl dX7_burn_46 ?_
            refine lv_iload_n hx hb dX7_burn_49 rfl (lv_at hl 2 rfl) ?_
            refine lv_iload_n hx hb dX7_burn_50 rfl (lv_at hl 3 rfl) ?_
            refine va_iast hx hb hK hP hD hS 2 1 rfl rfl (by rw [if_neg (by rw [c_42]; decide)] at c_26; exact below_in c_26 (by decide)) dX7_burn_51 (fun H locs hP hD hS => ?_)
            have hP : va_P (dC, dI) vwCl (wwX7 q_mo q_mra q_mrA q_mrc q_mrk q_mpi q_mwc q_mwo q_mco q_mpo q_mky q_mla q_mcn q_mct k_mra k_mrA k_mrc k_mrk k_mpi k_mwc k_mwo k_mco k_mpo k_mky k_mla k_mcn k_mct mo_port mo_line mo_cycle mo_raised mo_idle mo_bad mo_glyph mo_fetched mo_rows mo_flags2 mo_enabled mo_a mo_x mo_y mo_s mo_flags mo_p mo_jammed mo_code mo_step mo_low mo_high mo_old mo_latest mo_cycles mo_stolen mo_interrupts mo_accesses f_mra (upd f_mrA p2.toNatClampNeg p3) f_mrc f_mrk f_mpi f_mwc f_mwo f_mco f_mpo f_mky f_mla f_mcn f_mct) H := hP
            have hD : va_D A (wwX7 q_mo q_mra q_mrA q_mrc q_mrk q_mpi q_mwc q_mwo q_mco q_mpo q_mky q_mla q_mcn q_mct k_mra k_mrA k_mrc k_mrk k_mpi k_mwc k_mwo k_mco k_mpo k_mky k_mla k_mcn k_mct mo_port mo_line mo_cycle mo_raised mo_idle mo_bad mo_glyph mo_fetched mo_rows mo_flags2 mo_enabled mo_a mo_x mo_y mo_s mo_flags mo_p mo_jammed mo_code mo_step mo_low mo_high mo_old mo_latest mo_cycles mo_stolen mo_interrupts mo_accesses f_mra (upd f_mrA p2.toNatClampNeg p3) f_mrc f_mrk f_mpi f_mwc f_mwo f_mco f_mpo f_mky f_mla f_mcn f_mct) := hD
            refine lv_iload_n hx hb dX7_burn_52 rfl (lv_at hl 1 rfl) ?_
            refine lv_iconst (v := 1) hx hb dX7_burn_53 (by decide) ?_
            refine lv_icmp_ne (tgt := 64) hx hb dX7_burn_54 (by decide) (fun c_54 => ?_) (fun c_54 => by exact absurd c_54 (by rw [c_42]; decide))
            refine lv_iload_n hx hb dX7_burn_64 rfl (lv_at hl 1 rfl) ?_
            refine lv_iconst (v := 2) hx hb dX7_burn_65 (by decide) ?_
            refine lv_icmp_ne (tgt := 76) hx hb dX7_burn_66 (by decide) (fun c_66 => ?_) (fun c_66 => by exact absurd c_66 (by rw [c_42]; decide))
            refine lv_iconst (v := 1) hx hb dX7_burn_76 (by decide) ?_
            exact W.zret (v := (1:Int32)) hx hb hr rfl (fun t ht hW => ⟨⟨(1:Int32), ((upd f_mrA p2.toNatClampNeg p3), f_mrc, f_mrk), rfl, hF.symm, by rw [ht]; exact hP, va_K.moved hW.alike hK, hD⟩, hS.F ht⟩) hS.2.2 dX7_burn_77
        · have hF := hF.trans (if_pos c_36)
          refine lv_iconst (v := 0) hx hb dX7_burn_39 (by decide) ?_
          exact W.zret (v := (0:Int32)) hx hb hr rfl (fun t ht hW => ⟨⟨(0:Int32), (f_mrA, f_mrc, f_mrk), rfl, hF.symm, by rw [ht]; exact hP, va_K.moved hW.alike hK, hD⟩, hS.F ht⟩) hS.2.2 dX7_burn_40
    · refine lv_icmp_ne (tgt := 20) hx hb dX7_burn_11 (by decide) (fun c_11 => ?_) (fun c_11 => ?_)
      · refine lv_sipush (v := 1024) hx hb dX7_burn_20 (by decide) ?_
        exact J23 _ _ _ ⟨by rw [if_neg c_11], hP, hS⟩
      · refine lv_sipush (v := 512) hx hb dX7_burn_14 (by decide) ?_
        refine lv_goto (tgt := 23) hx hb dX7_burn_17 (by decide) ?_
        exact J23 _ _ _ ⟨by rw [if_pos c_11], hP, hS⟩
def fX7_poke (p1 : Int32) (p2 : Int32) (f_mra : Nat → Int32) : Int32 × (Nat → Int32) :=
  if (fX7_below p1 (8192:Int32)) = (0:Int32) then
   ((0:Int32), f_mra)
  else
   if (fX7_below p2 (256:Int32)) = (0:Int32) then
    ((0:Int32), f_mra)
   else
    ((1:Int32), (upd f_mra p1.toNatClampNeg p2))
set_option maxHeartbeats 4000000 in
set_option maxRecDepth 100000 in
theorem mX7_poke (l : Launch) (dC : Nat → ClassId) (dI : Nat → Nat → Nat) (q_mo q_mra q_mrA q_mrc q_mrk q_mpi q_mwc q_mwo q_mco q_mpo q_mky q_mla q_mcn q_mct : Nat) (k_mra k_mrA k_mrc k_mrk k_mpi k_mwc k_mwo k_mco k_mpo k_mky k_mla k_mcn k_mct : ClassId) (sz : Nat) (mo_port mo_line mo_cycle mo_raised mo_idle mo_bad mo_glyph mo_fetched mo_rows mo_flags2 mo_enabled mo_a mo_x mo_y mo_s mo_flags mo_p mo_jammed mo_code mo_step mo_low mo_high mo_old mo_latest mo_cycles mo_stolen mo_interrupts mo_accesses : Int32) (f_mra f_mrA f_mrc f_mrk f_mpi f_mwc f_mwo f_mco f_mpo f_mky f_mla f_mcn f_mct : Nat → Int32) (p1 p2 : Int32) : Met l yX7_poke uX7_poke ({ frames := 1, cells := 0, slots := 0, locals := 21 }) (va_Pc [.ref q_mo, .int p1, .int p2] (fun U => U.heap.size = sz ∧ va_P (dC, dI) vwCl (wwX7 q_mo q_mra q_mrA q_mrc q_mrk q_mpi q_mwc q_mwo q_mco q_mpo q_mky q_mla q_mcn q_mct k_mra k_mrA k_mrc k_mrk k_mpi k_mwc k_mwo k_mco k_mpo k_mky k_mla k_mcn k_mct mo_port mo_line mo_cycle mo_raised mo_idle mo_bad mo_glyph mo_fetched mo_rows mo_flags2 mo_enabled mo_a mo_x mo_y mo_s mo_flags mo_p mo_jammed mo_code mo_step mo_low mo_high mo_old mo_latest mo_cycles mo_stolen mo_interrupts mo_accesses f_mra f_mrA f_mrc f_mrk f_mpi f_mwc f_mwo f_mco f_mpo f_mky f_mla f_mcn f_mct) U.heap ∧ va_K (dC, dI) vwCl [(k_mra, .int), (k_mrA, .int), (k_mrc, .int), (k_mrk, .int), (k_mpi, .int), (k_mwc, .int), (k_mwo, .int), (k_mco, .int), (k_mpo, .int), (k_mky, .int), (k_mla, .int), (k_mcn, .int), (k_mct, .int)] U ∧ va_D (fun _ => True) (wwX7 q_mo q_mra q_mrA q_mrc q_mrk q_mpi q_mwc q_mwo q_mco q_mpo q_mky q_mla q_mcn q_mct k_mra k_mrA k_mrc k_mrk k_mpi k_mwc k_mwo k_mco k_mpo k_mky k_mla k_mcn k_mct mo_port mo_line mo_cycle mo_raised mo_idle mo_bad mo_glyph mo_fetched mo_rows mo_flags2 mo_enabled mo_a mo_x mo_y mo_s mo_flags mo_p mo_jammed mo_code mo_step mo_low mo_high mo_old mo_latest mo_cycles mo_stolen mo_interrupts mo_accesses f_mra f_mrA f_mrc f_mrk f_mpi f_mwc f_mwo f_mco f_mpo f_mky f_mla f_mcn f_mct))) (va_Qi (fun (r : Int32) (u : (Nat → Int32)) => (r, u) = fX7_poke p1 p2 f_mra) (fun (u : (Nat → Int32)) (t : State) => va_P (dC, dI) vwCl (wwX7 q_mo q_mra q_mrA q_mrc q_mrk q_mpi q_mwc q_mwo q_mco q_mpo q_mky q_mla q_mcn q_mct k_mra k_mrA k_mrc k_mrk k_mpi k_mwc k_mwo k_mco k_mpo k_mky k_mla k_mcn k_mct mo_port mo_line mo_cycle mo_raised mo_idle mo_bad mo_glyph mo_fetched mo_rows mo_flags2 mo_enabled mo_a mo_x mo_y mo_s mo_flags mo_p mo_jammed mo_code mo_step mo_low mo_high mo_old mo_latest mo_cycles mo_stolen mo_interrupts mo_accesses u f_mrA f_mrc f_mrk f_mpi f_mwc f_mwo f_mco f_mpo f_mky f_mla f_mcn f_mct) t.heap ∧ va_K (dC, dI) vwCl [(k_mra, .int), (k_mrA, .int), (k_mrc, .int), (k_mrk, .int), (k_mpi, .int), (k_mwc, .int), (k_mwo, .int), (k_mco, .int), (k_mpo, .int), (k_mky, .int), (k_mla, .int), (k_mcn, .int), (k_mct, .int)] t ∧ va_D (va_A (wwX7 q_mo q_mra q_mrA q_mrc q_mrk q_mpi q_mwc q_mwo q_mco q_mpo q_mky q_mla q_mcn q_mct k_mra k_mrA k_mrc k_mrk k_mpi k_mwc k_mwo k_mco k_mpo k_mky k_mla k_mcn k_mct mo_port mo_line mo_cycle mo_raised mo_idle mo_bad mo_glyph mo_fetched mo_rows mo_flags2 mo_enabled mo_a mo_x mo_y mo_s mo_flags mo_p mo_jammed mo_code mo_step mo_low mo_high mo_old mo_latest mo_cycles mo_stolen mo_interrupts mo_accesses f_mra f_mrA f_mrc f_mrk f_mpi f_mwc f_mwo f_mco f_mpo f_mky f_mla f_mcn f_mct) sz) (wwX7 q_mo q_mra q_mrA q_mrc q_mrk q_mpi q_mwc q_mwo q_mco q_mpo q_mky q_mla q_mcn q_mct k_mra k_mrA k_mrc k_mrk k_mpi k_mwc k_mwo k_mco k_mpo k_mky k_mla k_mcn k_mct mo_port mo_line mo_cycle mo_raised mo_idle mo_bad mo_glyph mo_fetched mo_rows mo_flags2 mo_enabled mo_a mo_x mo_y mo_s mo_flags mo_p mo_jammed mo_code mo_step mo_low mo_high mo_old mo_latest mo_cycles mo_stolen mo_interrupts mo_accesses u f_mrA f_mrc f_mrk f_mpi f_mwc f_mwo f_mco f_mpo f_mky f_mla f_mcn f_mct)) (va_A (wwX7 q_mo q_mra q_mrA q_mrc q_mrk q_mpi q_mwc q_mwo q_mco q_mpo q_mky q_mla q_mcn q_mct k_mra k_mrA k_mrc k_mrk k_mpi k_mwc k_mwo k_mco k_mpo k_mky k_mla k_mcn k_mct mo_port mo_line mo_cycle mo_raised mo_idle mo_bad mo_glyph mo_fetched mo_rows mo_flags2 mo_enabled mo_a mo_x mo_y mo_s mo_flags mo_p mo_jammed mo_code mo_step mo_low mo_high mo_old mo_latest mo_cycles mo_stolen mo_interrupts mo_accesses f_mra f_mrA f_mrc f_mrk f_mpi f_mwc f_mwo f_mco f_mpo f_mky f_mla f_mcn f_mct) sz)) 0 0 (va_A (wwX7 q_mo q_mra q_mrA q_mrc q_mrk q_mpi q_mwc q_mwo q_mco q_mpo q_mky q_mla q_mcn q_mct k_mra k_mrA k_mrc k_mrk k_mpi k_mwc k_mwo k_mco k_mpo k_mky k_mla k_mcn k_mct mo_port mo_line mo_cycle mo_raised mo_idle mo_bad mo_glyph mo_fetched mo_rows mo_flags2 mo_enabled mo_a mo_x mo_y mo_s mo_flags mo_p mo_jammed mo_code mo_step mo_low mo_high mo_old mo_latest mo_cycles mo_stolen mo_interrupts mo_accesses f_mra f_mrA f_mrc f_mrk f_mpi f_mwc f_mwo f_mco f_mpo f_mky f_mla f_mcn f_mct) sz) := by
  refine Met.ofW (cc := cX7_poke) (maxL := 3) (ret := (some .boolean)) (by decide) rfl ?_
  intro p e s m args below meth c s₁ B hml hv
  obtain ⟨rfl, hsz, hP, hK, hD0⟩ := hv
  have hx := B.exec
  have hb := B.bytes
  have hr := B.returns
  have hts : ∀ w ∈ ub, w.before _ s = true := fun w h => atoms_spec (ws := uX7_poke) B.pre w (List.mem_cons_of_mem _ h)
  have hown : s.vm.findClass RX7 = some m.cls := findClass_of_methodNamed B.named
  have hlocks := B.notSynchronized
  subst hsz
  have hD := hD0.self (sz := s.heap.size)
  generalize hAe : va_A (wwX7 q_mo q_mra q_mrA q_mrc q_mrk q_mpi q_mwc q_mwo q_mco q_mpo q_mky q_mla q_mcn q_mct k_mra k_mrA k_mrc k_mrk k_mpi k_mwc k_mwo k_mco k_mpo k_mky k_mla k_mcn k_mct mo_port mo_line mo_cycle mo_raised mo_idle mo_bad mo_glyph mo_fetched mo_rows mo_flags2 mo_enabled mo_a mo_x mo_y mo_s mo_flags mo_p mo_jammed mo_code mo_step mo_low mo_high mo_old mo_latest mo_cycles mo_stolen mo_interrupts mo_accesses f_mra f_mrA f_mrc f_mrk f_mpi f_mwc f_mwo f_mco f_mpo f_mky f_mla f_mcn f_mct) s.heap.size = A at hD ⊢
  have hA : ∀ q : Nat, s.heap.size ≤ q → A q := fun q h => by rw [← hAe]; exact Or.inr h
  have hS : va_S A s.heap s.heap [] := va_S.rf
  have hl := lv_entry ([.ref q_mo, .int p1, .int p2]) (n := 3) (Nat.le_of_ble_eq_true rfl)
  rw [lg_entry_eq]
  generalize (lg_sl ([.ref q_mo, .int p1, .int p2]) ++ List.replicate (3 - (lg_sl ([.ref q_mo, .int p1, .int p2])).length) Slot.unset).toArray = ls at hl ⊢
  have hl : lv_has ls 3 [(0, .ref q_mo), (1, .int p1), (2, .int p2)] := hl
  have hF := fX7_poke.eq_1 p1 p2 f_mra
  refine lv_iload_n hx hb dX7_poke_0 rfl (lv_at hl 1 rfl) ?_
  refine lv_sipush (v := 8192) hx hb dX7_poke_1 (by decide) ?_
  have hPc := hP.sub (ws' := ([] : va_W)) [] rfl
  have hDc := hD.sub (ws' := ([] : va_W)) [] (by decide) rfl
  have hKc := hK.sub (tys' := []) [] rfl
  have hFc := va_free (wc := ([] : va_W)) hD hS hA [] rfl
  refine va_calli (va_runS (As := [.int p1, .int (8192:Int32)]) (rest := []) ⟨hx, hb, hml, hown, hts⟩ (mX7_below l dC dI s.heap.size p1 (8192:Int32)) (va_cwS 2 hts (ub_S kMX7_70 kTX7_below kIX7 kBX7_below) rfl rfl rfl (by decide +kernel) ⟨Nat.le_of_ble_eq_true rfl, Nat.le_of_ble_eq_true rfl⟩) ⟨fun a U g mk q => by obtain ⟨q0, q1, qP, qK, qD⟩ := q; exact ⟨q0, q1, qP, va_K.moved (u := U) (U := U.calling g mk a) (Vm.Alike.refl U.vm) qK, qD⟩, fun U hU hW => ⟨rfl, by rw [hU], by rw [hU]; exact hPc, va_K.moved hW.alike hKc, hDc.weaken (fun _ _ _ _ => trivial)⟩⟩ rfl rfl hl.1 rfl (lv_room (Nat.le_of_ble_eq_true rfl)) dX7_poke_4 ⟨(Nat.zero_le _), (Nat.zero_le _)⟩) hS (fun q _ h => hFc q h) hFc (fun r_4 u_4 t H locs ht hvm hw hB hz1 hk1 hS => ?_)
  obtain ⟨hP1, hK1, hD1⟩ := hB
  rw [ht] at hP1
  subst hw
  obtain ⟨hP, hD⟩ := vb_bk2 (wc := ([] : va_W)) (ws' := (wwX7 q_mo q_mra q_mrA q_mrc q_mrk q_mpi q_mwc q_mwo q_mco q_mpo q_mky q_mla q_mcn q_mct k_mra k_mrA k_mrc k_mrk k_mpi k_mwc k_mwo k_mco k_mpo k_mky k_mla k_mcn k_mct mo_port mo_line mo_cycle mo_raised mo_idle mo_bad mo_glyph mo_fetched mo_rows mo_flags2 mo_enabled mo_a mo_x mo_y mo_s mo_flags mo_p mo_jammed mo_code mo_step mo_low mo_high mo_old mo_latest mo_cycles mo_stolen mo_interrupts mo_accesses f_mra f_mrA f_mrc f_mrk f_mpi f_mwc f_mwo f_mco f_mpo f_mky f_mla f_mcn f_mct)) hP hD hD1 [] [0, 1, 2, 3, 4, 5, 6, 7, 8, 9, 10, 11, 12, 13] rfl [q_mo, q_mra, q_mrA, q_mrc, q_mrk, q_mpi, q_mwc, q_mwo, q_mco, q_mpo, q_mky, q_mla, q_mcn, q_mct] rfl rfl (ae_d rfl rfl (ae_d rfl rfl (ae_d rfl rfl (ae_d rfl rfl (ae_d rfl rfl (ae_d rfl rfl (ae_d rfl rfl (ae_d rfl rfl (ae_d rfl rfl (ae_d rfl rfl (ae_d rfl rfl (ae_d rfl rfl (ae_d rfl rfl (ae_d rfl rfl ae_n)))))))))))))) rfl rfl hk1 hP1
  refine lv_if_eq (tgt := 20) hx hb dX7_poke_7 (by decide) (fun c_7 => ?_) (fun c_7 => ?_)
  · have hF := hF.trans (if_pos c_7)
    refine lv_iconst (v := 0) hx hb dX7_poke_20 (by decide) ?_
    exact W.zret (v := (0:Int32)) hx hb hr rfl (fun t ht hW => ⟨⟨(0:Int32), f_mra, rfl, hF.symm, by rw [ht]; exact hP, va_K.moved hW.alike hK, hD⟩, hS.F ht⟩) hS.2.2 dX7_poke_21
  · have hF := hF.trans (if_neg c_7)
    refine lv_iload_n hx hb dX7_poke_10 rfl (lv_at hl 2 rfl) ?_
    refine lv_sipush (v := 256) hx hb dX7_poke_11 (by decide) ?_
    have hPc := hP.sub (ws' := ([] : va_W)) [] rfl
    have hDc := hD.sub (ws' := ([] : va_W)) [] (by decide) rfl
    have hKc := hK.sub (tys' := []) [] rfl
    have hFc := va_free (wc := ([] : va_W)) hD hS hA [] rfl
    refine va_calli (va_runS (As := [.int p2, .int (256:Int32)]) (rest := []) ⟨hx, hb, hml, hown, hts⟩ (mX7_below l dC dI H.size p2 (256:Int32)) (va_cwS 2 hts (ub_S kMX7_70 kTX7_below kIX7 kBX7_below) rfl rfl rfl (by decide +kernel) ⟨Nat.le_of_ble_eq_true rfl, Nat.le_of_ble_eq_true rfl⟩) ⟨fun a U g mk q => by obtain ⟨q0, q1, qP, qK, qD⟩ := q; exact ⟨q0, q1, qP, va_K.moved (u := U) (U := U.calling g mk a) (Vm.Alike.refl U.vm) qK, qD⟩, fun U hU hW => ⟨rfl, by rw [hU], by rw [hU]; exact hPc, va_K.moved hW.alike hKc, hDc.weaken (fun _ _ _ _ => trivial)⟩⟩ rfl rfl hl.1 rfl (lv_room (Nat.le_of_ble_eq_true rfl)) dX7_poke_14 ⟨(Nat.zero_le _), (Nat.zero_le _)⟩) hS (fun q _ h => hFc q h) hFc (fun r_14 u_14 t H locs ht hvm hw hB hz1 hk1 hS => ?_)
    obtain ⟨hP1, hK1, hD1⟩ := hB
    rw [ht] at hP1
    subst hw
    obtain ⟨hP, hD⟩ := vb_bk2 (wc := ([] : va_W)) (ws' := (wwX7 q_mo q_mra q_mrA q_mrc q_mrk q_mpi q_mwc q_mwo q_mco q_mpo q_mky q_mla q_mcn q_mct k_mra k_mrA k_mrc k_mrk k_mpi k_mwc k_mwo k_mco k_mpo k_mky k_mla k_mcn k_mct mo_port mo_line mo_cycle mo_raised mo_idle mo_bad mo_glyph mo_fetched mo_rows mo_flags2 mo_enabled mo_a mo_x mo_y mo_s mo_flags mo_p mo_jammed mo_code mo_step mo_low mo_high mo_old mo_latest mo_cycles mo_stolen mo_interrupts mo_accesses f_mra f_mrA f_mrc f_mrk f_mpi f_mwc f_mwo f_mco f_mpo f_mky f_mla f_mcn f_mct)) hP hD hD1 [] [0, 1, 2, 3, 4, 5, 6, 7, 8, 9, 10, 11, 12, 13] rfl [q_mo, q_mra, q_mrA, q_mrc, q_mrk, q_mpi, q_mwc, q_mwo, q_mco, q_mpo, q_mky, q_mla, q_mcn, q_mct] rfl rfl (ae_d rfl rfl (ae_d rfl rfl (ae_d rfl rfl (ae_d rfl rfl (ae_d rfl rfl (ae_d rfl rfl (ae_d rfl rfl (ae_d rfl rfl (ae_d rfl rfl (ae_d rfl rfl (ae_d rfl rfl (ae_d rfl rfl (ae_d rfl rfl (ae_d rfl rfl ae_n)))))))))))))) rfl rfl hk1 hP1
    refine lv_if_ne (tgt := 22) hx hb dX7_poke_17 (by decide) (fun c_17 => ?_) (fun c_17 => ?_)
    · have hF := hF.trans (if_neg c_17)
      refine lv_aload_n hx hb dX7_poke_22 rfl (lv_at hl 0 rfl) ?_
      refine va_get (D := (dC, dI)) (ci := 7) (v := .ref q_mra) (C := RX7) (T := TX7) (N := 41) hx hb hts hiX7 hown hK hP 0 rfl rfl 0 (by decide) (hts _ kFX7_7) (fun _ h9 => h9) rfl dX7_poke_23 ?_
      refine lv_iload_n hx hb dX7_poke_26 rfl (lv_at hl 1 rfl) ?_
      refine lv_iload_n hx hb dX7_poke_27 rfl (lv_at hl 2 rfl) ?_
      refine va_iast hx hb hK hP hD hS 1 0 rfl rfl (below_in c_7 (by decide)) dX7_poke_28 (fun H locs hP hD hS => ?_)
      have hP : va_P (dC, dI) vwCl (wwX7 q_mo q_mra q_mrA q_mrc q_mrk q_mpi q_mwc q_mwo q_mco q_mpo q_mky q_mla q_mcn q_mct k_mra k_mrA k_mrc k_mrk k_mpi k_mwc k_mwo k_mco k_mpo k_mky k_mla k_mcn k_mct mo_port mo_line mo_cycle mo_raised mo_idle mo_bad mo_glyph mo_fetched mo_rows mo_flags2 mo_enabled mo_a mo_x mo_y mo_s mo_flags mo_p mo_jammed mo_code mo_step mo_low mo_high mo_old mo_latest mo_cycles mo_stolen mo_interrupts mo_accesses (upd f_mra p1.toNatClampNeg p2) f_mrA f_mrc f_mrk f_mpi f_mwc f_mwo f_mco f_mpo f_mky f_mla f_mcn f_mct) H := hP
      have hD : va_D A (wwX7 q_mo q_mra q_mrA q_mrc q_mrk q_mpi q_mwc q_mwo q_mco q_mpo q_mky q_mla q_mcn q_mct k_mra k_mrA k_mrc k_mrk k_mpi k_mwc k_mwo k_mco k_mpo k_mky k_mla k_mcn k_mct mo_port mo_line mo_cycle mo_raised mo_idle mo_bad mo_glyph mo_fetched mo_rows mo_flags2 mo_enabled mo_a mo_x mo_y mo_s mo_flags mo_p mo_jammed mo_code mo_step mo_low mo_high mo_old mo_latest mo_cycles mo_stolen mo_interrupts mo_accesses (upd f_mra p1.toNatClampNeg p2) f_mrA f_mrc f_mrk f_mpi f_mwc f_mwo f_mco f_mpo f_mky f_mla f_mcn f_mct) := hD
      refine lv_iconst (v := 1) hx hb dX7_poke_29 (by decide) ?_
      exact W.zret (v := (1:Int32)) hx hb hr rfl (fun t ht hW => ⟨⟨(1:Int32), (upd f_mra p1.toNatClampNeg p2), rfl, hF.symm, by rw [ht]; exact hP, va_K.moved hW.alike hK, hD⟩, hS.F ht⟩) hS.2.2 dX7_poke_30
    · have hF := hF.trans (if_pos c_17)
      refine lv_iconst (v := 0) hx hb dX7_poke_20 (by decide) ?_
      exact W.zret (v := (0:Int32)) hx hb hr rfl (fun t ht hW => ⟨⟨(0:Int32), f_mra, rfl, hF.symm, by rw [ht]; exact hP, va_K.moved hW.alike hK, hD⟩, hS.F ht⟩) hS.2.2 dX7_poke_21
def fX7_press (p1 : Int32) (p2 : Int32) (f_mky : Nat → Int32) : Int32 × (Nat → Int32) :=
  if (fX7_below p1 (8:Int32)) = (0:Int32) then
   ((0:Int32), f_mky)
  else
   if (fX7_below p2 (256:Int32)) = (0:Int32) then
    ((0:Int32), f_mky)
   else
    ((1:Int32), (upd f_mky p1.toNatClampNeg p2))
set_option maxHeartbeats 4000000 in
set_option maxRecDepth 100000 in
theorem mX7_press (l : Launch) (dC : Nat → ClassId) (dI : Nat → Nat → Nat) (q_mo q_mra q_mrA q_mrc q_mrk q_mpi q_mwc q_mwo q_mco q_mpo q_mky q_mla q_mcn q_mct : Nat) (k_mra k_mrA k_mrc k_mrk k_mpi k_mwc k_mwo k_mco k_mpo k_mky k_mla k_mcn k_mct : ClassId) (sz : Nat) (mo_port mo_line mo_cycle mo_raised mo_idle mo_bad mo_glyph mo_fetched mo_rows mo_flags2 mo_enabled mo_a mo_x mo_y mo_s mo_flags mo_p mo_jammed mo_code mo_step mo_low mo_high mo_old mo_latest mo_cycles mo_stolen mo_interrupts mo_accesses : Int32) (f_mra f_mrA f_mrc f_mrk f_mpi f_mwc f_mwo f_mco f_mpo f_mky f_mla f_mcn f_mct : Nat → Int32) (p1 p2 : Int32) : Met l yX7_press uX7_press ({ frames := 1, cells := 0, slots := 0, locals := 21 }) (va_Pc [.ref q_mo, .int p1, .int p2] (fun U => U.heap.size = sz ∧ va_P (dC, dI) vwCl (wwX7 q_mo q_mra q_mrA q_mrc q_mrk q_mpi q_mwc q_mwo q_mco q_mpo q_mky q_mla q_mcn q_mct k_mra k_mrA k_mrc k_mrk k_mpi k_mwc k_mwo k_mco k_mpo k_mky k_mla k_mcn k_mct mo_port mo_line mo_cycle mo_raised mo_idle mo_bad mo_glyph mo_fetched mo_rows mo_flags2 mo_enabled mo_a mo_x mo_y mo_s mo_flags mo_p mo_jammed mo_code mo_step mo_low mo_high mo_old mo_latest mo_cycles mo_stolen mo_interrupts mo_accesses f_mra f_mrA f_mrc f_mrk f_mpi f_mwc f_mwo f_mco f_mpo f_mky f_mla f_mcn f_mct) U.heap ∧ va_K (dC, dI) vwCl [(k_mra, .int), (k_mrA, .int), (k_mrc, .int), (k_mrk, .int), (k_mpi, .int), (k_mwc, .int), (k_mwo, .int), (k_mco, .int), (k_mpo, .int), (k_mky, .int), (k_mla, .int), (k_mcn, .int), (k_mct, .int)] U ∧ va_D (fun _ => True) (wwX7 q_mo q_mra q_mrA q_mrc q_mrk q_mpi q_mwc q_mwo q_mco q_mpo q_mky q_mla q_mcn q_mct k_mra k_mrA k_mrc k_mrk k_mpi k_mwc k_mwo k_mco k_mpo k_mky k_mla k_mcn k_mct mo_port mo_line mo_cycle mo_raised mo_idle mo_bad mo_glyph mo_fetched mo_rows mo_flags2 mo_enabled mo_a mo_x mo_y mo_s mo_flags mo_p mo_jammed mo_code mo_step mo_low mo_high mo_old mo_latest mo_cycles mo_stolen mo_interrupts mo_accesses f_mra f_mrA f_mrc f_mrk f_mpi f_mwc f_mwo f_mco f_mpo f_mky f_mla f_mcn f_mct))) (va_Qi (fun (r : Int32) (u : (Nat → Int32)) => (r, u) = fX7_press p1 p2 f_mky) (fun (u : (Nat → Int32)) (t : State) => va_P (dC, dI) vwCl (wwX7 q_mo q_mra q_mrA q_mrc q_mrk q_mpi q_mwc q_mwo q_mco q_mpo q_mky q_mla q_mcn q_mct k_mra k_mrA k_mrc k_mrk k_mpi k_mwc k_mwo k_mco k_mpo k_mky k_mla k_mcn k_mct mo_port mo_line mo_cycle mo_raised mo_idle mo_bad mo_glyph mo_fetched mo_rows mo_flags2 mo_enabled mo_a mo_x mo_y mo_s mo_flags mo_p mo_jammed mo_code mo_step mo_low mo_high mo_old mo_latest mo_cycles mo_stolen mo_interrupts mo_accesses f_mra f_mrA f_mrc f_mrk f_mpi f_mwc f_mwo f_mco f_mpo u f_mla f_mcn f_mct) t.heap ∧ va_K (dC, dI) vwCl [(k_mra, .int), (k_mrA, .int), (k_mrc, .int), (k_mrk, .int), (k_mpi, .int), (k_mwc, .int), (k_mwo, .int), (k_mco, .int), (k_mpo, .int), (k_mky, .int), (k_mla, .int), (k_mcn, .int), (k_mct, .int)] t ∧ va_D (va_A (wwX7 q_mo q_mra q_mrA q_mrc q_mrk q_mpi q_mwc q_mwo q_mco q_mpo q_mky q_mla q_mcn q_mct k_mra k_mrA k_mrc k_mrk k_mpi k_mwc k_mwo k_mco k_mpo k_mky k_mla k_mcn k_mct mo_port mo_line mo_cycle mo_raised mo_idle mo_bad mo_glyph mo_fetched mo_rows mo_flags2 mo_enabled mo_a mo_x mo_y mo_s mo_flags mo_p mo_jammed mo_code mo_step mo_low mo_high mo_old mo_latest mo_cycles mo_stolen mo_interrupts mo_accesses f_mra f_mrA f_mrc f_mrk f_mpi f_mwc f_mwo f_mco f_mpo f_mky f_mla f_mcn f_mct) sz) (wwX7 q_mo q_mra q_mrA q_mrc q_mrk q_mpi q_mwc q_mwo q_mco q_mpo q_mky q_mla q_mcn q_mct k_mra k_mrA k_mrc k_mrk k_mpi k_mwc k_mwo k_mco k_mpo k_mky k_mla k_mcn k_mct mo_port mo_line mo_cycle mo_raised mo_idle mo_bad mo_glyph mo_fetched mo_rows mo_flags2 mo_enabled mo_a mo_x mo_y mo_s mo_flags mo_p mo_jammed mo_code mo_step mo_low mo_high mo_old mo_latest mo_cycles mo_stolen mo_interrupts mo_accesses f_mra f_mrA f_mrc f_mrk f_mpi f_mwc f_mwo f_mco f_mpo u f_mla f_mcn f_mct)) (va_A (wwX7 q_mo q_mra q_mrA q_mrc q_mrk q_mpi q_mwc q_mwo q_mco q_mpo q_mky q_mla q_mcn q_mct k_mra k_mrA k_mrc k_mrk k_mpi k_mwc k_mwo k_mco k_mpo k_mky k_mla k_mcn k_mct mo_port mo_line mo_cycle mo_raised mo_idle mo_bad mo_glyph mo_fetched mo_rows mo_flags2 mo_enabled mo_a mo_x mo_y mo_s mo_flags mo_p mo_jammed mo_code mo_step mo_low mo_high mo_old mo_latest mo_cycles mo_stolen mo_interrupts mo_accesses f_mra f_mrA f_mrc f_mrk f_mpi f_mwc f_mwo f_mco f_mpo f_mky f_mla f_mcn f_mct) sz)) 0 0 (va_A (wwX7 q_mo q_mra q_mrA q_mrc q_mrk q_mpi q_mwc q_mwo q_mco q_mpo q_mky q_mla q_mcn q_mct k_mra k_mrA k_mrc k_mrk k_mpi k_mwc k_mwo k_mco k_mpo k_mky k_mla k_mcn k_mct mo_port mo_line mo_cycle mo_raised mo_idle mo_bad mo_glyph mo_fetched mo_rows mo_flags2 mo_enabled mo_a mo_x mo_y mo_s mo_flags mo_p mo_jammed mo_code mo_step mo_low mo_high mo_old mo_latest mo_cycles mo_stolen mo_interrupts mo_accesses f_mra f_mrA f_mrc f_mrk f_mpi f_mwc f_mwo f_mco f_mpo f_mky f_mla f_mcn f_mct) sz) := by
  refine Met.ofW (cc := cX7_press) (maxL := 3) (ret := (some .boolean)) (by decide) rfl ?_
  intro p e s m args below meth c s₁ B hml hv
  obtain ⟨rfl, hsz, hP, hK, hD0⟩ := hv
  have hx := B.exec
  have hb := B.bytes
  have hr := B.returns
  have hts : ∀ w ∈ ub, w.before _ s = true := fun w h => atoms_spec (ws := uX7_press) B.pre w (List.mem_cons_of_mem _ h)
  have hown : s.vm.findClass RX7 = some m.cls := findClass_of_methodNamed B.named
  have hlocks := B.notSynchronized
  subst hsz
  have hD := hD0.self (sz := s.heap.size)
  generalize hAe : va_A (wwX7 q_mo q_mra q_mrA q_mrc q_mrk q_mpi q_mwc q_mwo q_mco q_mpo q_mky q_mla q_mcn q_mct k_mra k_mrA k_mrc k_mrk k_mpi k_mwc k_mwo k_mco k_mpo k_mky k_mla k_mcn k_mct mo_port mo_line mo_cycle mo_raised mo_idle mo_bad mo_glyph mo_fetched mo_rows mo_flags2 mo_enabled mo_a mo_x mo_y mo_s mo_flags mo_p mo_jammed mo_code mo_step mo_low mo_high mo_old mo_latest mo_cycles mo_stolen mo_interrupts mo_accesses f_mra f_mrA f_mrc f_mrk f_mpi f_mwc f_mwo f_mco f_mpo f_mky f_mla f_mcn f_mct) s.heap.size = A at hD ⊢
  have hA : ∀ q : Nat, s.heap.size ≤ q → A q := fun q h => by rw [← hAe]; exact Or.inr h
  have hS : va_S A s.heap s.heap [] := va_S.rf
  have hl := lv_entry ([.ref q_mo, .int p1, .int p2]) (n := 3) (Nat.le_of_ble_eq_true rfl)
  rw [lg_entry_eq]
  generalize (lg_sl ([.ref q_mo, .int p1, .int p2]) ++ List.replicate (3 - (lg_sl ([.ref q_mo, .int p1, .int p2])).length) Slot.unset).toArray = ls at hl ⊢
  have hl : lv_has ls 3 [(0, .ref q_mo), (1, .int p1), (2, .int p2)] := hl
  have hF := fX7_press.eq_1 p1 p2 f_mky
  refine lv_iload_n hx hb dX7_press_0 rfl (lv_at hl 1 rfl) ?_
  refine lv_bipush (v := 8) hx hb dX7_press_1 (by decide) ?_
  have hPc := hP.sub (ws' := ([] : va_W)) [] rfl
  have hDc := hD.sub (ws' := ([] : va_W)) [] (by decide) rfl
  have hKc := hK.sub (tys' := []) [] rfl
  have hFc := va_free (wc := ([] : va_W)) hD hS hA [] rfl
  refine va_calli (va_runS (As := [.int p1, .int (8:Int32)]) (rest := []) ⟨hx, hb, hml, hown, hts⟩ (mX7_below l dC dI s.heap.size p1 (8:Int32)) (va_cwS 2 hts (ub_S kMX7_70 kTX7_below kIX7 kBX7_below) rfl rfl rfl (by decide +kernel) ⟨Nat.le_of_ble_eq_true rfl, Nat.le_of_ble_eq_true rfl⟩) ⟨fun a U g mk q => by obtain ⟨q0, q1, qP, qK, qD⟩ := q; exact ⟨q0, q1, qP, va_K.moved (u := U) (U := U.calling g mk a) (Vm.Alike.refl U.vm) qK, qD⟩, fun U hU hW => ⟨rfl, by rw [hU], by rw [hU]; exact hPc, va_K.moved hW.alike hKc, hDc.weaken (fun _ _ _ _ => trivial)⟩⟩ rfl rfl hl.1 rfl (lv_room (Nat.le_of_ble_eq_true rfl)) dX7_press_3 ⟨(Nat.zero_le _), (Nat.zero_le _)⟩) hS (fun q _ h => hFc q h) hFc (fun r_3 u_3 t H locs ht hvm hw hB hz1 hk1 hS => ?_)
  obtain ⟨hP1, hK1, hD1⟩ := hB
  rw [ht] at hP1
  subst hw
  obtain ⟨hP, hD⟩ := vb_bk2 (wc := ([] : va_W)) (ws' := (wwX7 q_mo q_mra q_mrA q_mrc q_mrk q_mpi q_mwc q_mwo q_mco q_mpo q_mky q_mla q_mcn q_mct k_mra k_mrA k_mrc k_mrk k_mpi k_mwc k_mwo k_mco k_mpo k_mky k_mla k_mcn k_mct mo_port mo_line mo_cycle mo_raised mo_idle mo_bad mo_glyph mo_fetched mo_rows mo_flags2 mo_enabled mo_a mo_x mo_y mo_s mo_flags mo_p mo_jammed mo_code mo_step mo_low mo_high mo_old mo_latest mo_cycles mo_stolen mo_interrupts mo_accesses f_mra f_mrA f_mrc f_mrk f_mpi f_mwc f_mwo f_mco f_mpo f_mky f_mla f_mcn f_mct)) hP hD hD1 [] [0, 1, 2, 3, 4, 5, 6, 7, 8, 9, 10, 11, 12, 13] rfl [q_mo, q_mra, q_mrA, q_mrc, q_mrk, q_mpi, q_mwc, q_mwo, q_mco, q_mpo, q_mky, q_mla, q_mcn, q_mct] rfl rfl (ae_d rfl rfl (ae_d rfl rfl (ae_d rfl rfl (ae_d rfl rfl (ae_d rfl rfl (ae_d rfl rfl (ae_d rfl rfl (ae_d rfl rfl (ae_d rfl rfl (ae_d rfl rfl (ae_d rfl rfl (ae_d rfl rfl (ae_d rfl rfl (ae_d rfl rfl ae_n)))))))))))))) rfl rfl hk1 hP1
  refine lv_if_eq (tgt := 19) hx hb dX7_press_6 (by decide) (fun c_6 => ?_) (fun c_6 => ?_)
  · have hF := hF.trans (if_pos c_6)
    refine lv_iconst (v := 0) hx hb dX7_press_19 (by decide) ?_
    exact W.zret (v := (0:Int32)) hx hb hr rfl (fun t ht hW => ⟨⟨(0:Int32), f_mky, rfl, hF.symm, by rw [ht]; exact hP, va_K.moved hW.alike hK, hD⟩, hS.F ht⟩) hS.2.2 dX7_press_20
  · have hF := hF.trans (if_neg c_6)
    refine lv_iload_n hx hb dX7_press_9 rfl (lv_at hl 2 rfl) ?_
    refine lv_sipush (v := 256) hx hb dX7_press_10 (by decide) ?_
    have hPc := hP.sub (ws' := ([] : va_W)) [] rfl
    have hDc := hD.sub (ws' := ([] : va_W)) [] (by decide) rfl
    have hKc := hK.sub (tys' := []) [] rfl
    have hFc := va_free (wc := ([] : va_W)) hD hS hA [] rfl
    refine va_calli (va_runS (As := [.int p2, .int (256:Int32)]) (rest := []) ⟨hx, hb, hml, hown, hts⟩ (mX7_below l dC dI H.size p2 (256:Int32)) (va_cwS 2 hts (ub_S kMX7_70 kTX7_below kIX7 kBX7_below) rfl rfl rfl (by decide +kernel) ⟨Nat.le_of_ble_eq_true rfl, Nat.le_of_ble_eq_true rfl⟩) ⟨fun a U g mk q => by obtain ⟨q0, q1, qP, qK, qD⟩ := q; exact ⟨q0, q1, qP, va_K.moved (u := U) (U := U.calling g mk a) (Vm.Alike.refl U.vm) qK, qD⟩, fun U hU hW => ⟨rfl, by rw [hU], by rw [hU]; exact hPc, va_K.moved hW.alike hKc, hDc.weaken (fun _ _ _ _ => trivial)⟩⟩ rfl rfl hl.1 rfl (lv_room (Nat.le_of_ble_eq_true rfl)) dX7_press_13 ⟨(Nat.zero_le _), (Nat.zero_le _)⟩) hS (fun q _ h => hFc q h) hFc (fun r_13 u_13 t H locs ht hvm hw hB hz1 hk1 hS => ?_)
    obtain ⟨hP1, hK1, hD1⟩ := hB
    rw [ht] at hP1
    subst hw
    obtain ⟨hP, hD⟩ := vb_bk2 (wc := ([] : va_W)) (ws' := (wwX7 q_mo q_mra q_mrA q_mrc q_mrk q_mpi q_mwc q_mwo q_mco q_mpo q_mky q_mla q_mcn q_mct k_mra k_mrA k_mrc k_mrk k_mpi k_mwc k_mwo k_mco k_mpo k_mky k_mla k_mcn k_mct mo_port mo_line mo_cycle mo_raised mo_idle mo_bad mo_glyph mo_fetched mo_rows mo_flags2 mo_enabled mo_a mo_x mo_y mo_s mo_flags mo_p mo_jammed mo_code mo_step mo_low mo_high mo_old mo_latest mo_cycles mo_stolen mo_interrupts mo_accesses f_mra f_mrA f_mrc f_mrk f_mpi f_mwc f_mwo f_mco f_mpo f_mky f_mla f_mcn f_mct)) hP hD hD1 [] [0, 1, 2, 3, 4, 5, 6, 7, 8, 9, 10, 11, 12, 13] rfl [q_mo, q_mra, q_mrA, q_mrc, q_mrk, q_mpi, q_mwc, q_mwo, q_mco, q_mpo, q_mky, q_mla, q_mcn, q_mct] rfl rfl (ae_d rfl rfl (ae_d rfl rfl (ae_d rfl rfl (ae_d rfl rfl (ae_d rfl rfl (ae_d rfl rfl (ae_d rfl rfl (ae_d rfl rfl (ae_d rfl rfl (ae_d rfl rfl (ae_d rfl rfl (ae_d rfl rfl (ae_d rfl rfl (ae_d rfl rfl ae_n)))))))))))))) rfl rfl hk1 hP1
    refine lv_if_ne (tgt := 21) hx hb dX7_press_16 (by decide) (fun c_16 => ?_) (fun c_16 => ?_)
    · have hF := hF.trans (if_neg c_16)
      refine lv_aload_n hx hb dX7_press_21 rfl (lv_at hl 0 rfl) ?_
      refine va_get (D := (dC, dI)) (ci := 7) (v := .ref q_mky) (C := RX7) (T := TX7) (N := 41) hx hb hts hiX7 hown hK hP 0 rfl rfl 18 (by decide) (hts _ kFX7_45) (fun _ h9 => h9) rfl dX7_press_22 ?_
      refine lv_iload_n hx hb dX7_press_25 rfl (lv_at hl 1 rfl) ?_
      refine lv_iload_n hx hb dX7_press_26 rfl (lv_at hl 2 rfl) ?_
      refine va_iast hx hb hK hP hD hS 10 9 rfl rfl (below_in c_6 (by decide)) dX7_press_27 (fun H locs hP hD hS => ?_)
      have hP : va_P (dC, dI) vwCl (wwX7 q_mo q_mra q_mrA q_mrc q_mrk q_mpi q_mwc q_mwo q_mco q_mpo q_mky q_mla q_mcn q_mct k_mra k_mrA k_mrc k_mrk k_mpi k_mwc k_mwo k_mco k_mpo k_mky k_mla k_mcn k_mct mo_port mo_line mo_cycle mo_raised mo_idle mo_bad mo_glyph mo_fetched mo_rows mo_flags2 mo_enabled mo_a mo_x mo_y mo_s mo_flags mo_p mo_jammed mo_code mo_step mo_low mo_high mo_old mo_latest mo_cycles mo_stolen mo_interrupts mo_accesses f_mra f_mrA f_mrc f_mrk f_mpi f_mwc f_mwo f_mco f_mpo (upd f_mky p1.toNatClampNeg p2) f_mla f_mcn f_mct) H := hP
      have hD : va_D A (wwX7 q_mo q_mra q_mrA q_mrc q_mrk q_mpi q_mwc q_mwo q_mco q_mpo q_mky q_mla q_mcn q_mct k_mra k_mrA k_mrc k_mrk k_mpi k_mwc k_mwo k_mco k_mpo k_mky k_mla k_mcn k_mct mo_port mo_line mo_cycle mo_raised mo_idle mo_bad mo_glyph mo_fetched mo_rows mo_flags2 mo_enabled mo_a mo_x mo_y mo_s mo_flags mo_p mo_jammed mo_code mo_step mo_low mo_high mo_old mo_latest mo_cycles mo_stolen mo_interrupts mo_accesses f_mra f_mrA f_mrc f_mrk f_mpi f_mwc f_mwo f_mco f_mpo (upd f_mky p1.toNatClampNeg p2) f_mla f_mcn f_mct) := hD
      refine lv_iconst (v := 1) hx hb dX7_press_28 (by decide) ?_
      exact W.zret (v := (1:Int32)) hx hb hr rfl (fun t ht hW => ⟨⟨(1:Int32), (upd f_mky p1.toNatClampNeg p2), rfl, hF.symm, by rw [ht]; exact hP, va_K.moved hW.alike hK, hD⟩, hS.F ht⟩) hS.2.2 dX7_press_29
    · have hF := hF.trans (if_pos c_16)
      refine lv_iconst (v := 0) hx hb dX7_press_19 (by decide) ?_
      exact W.zret (v := (0:Int32)) hx hb hr rfl (fun t ht hW => ⟨⟨(0:Int32), f_mky, rfl, hF.symm, by rw [ht]; exact hP, va_K.moved hW.alike hK, hD⟩, hS.F ht⟩) hS.2.2 dX7_press_20
def fX7_registersAt (p1 : Int32) (mo_port : Int32) : Int32 :=
  (if p1 < (6656:Int32) then (0:Int32) else (if (7168:Int32) ≤ p1 then (0:Int32) else (if (mo_port &&& (3:Int32)) = (0:Int32) then (0:Int32) else (if (mo_port &&& (4:Int32)) = (0:Int32) then (0:Int32) else (1:Int32)))))
set_option maxHeartbeats 4000000 in
set_option maxRecDepth 100000 in
theorem mX7_registersAt (l : Launch) (dC : Nat → ClassId) (dI : Nat → Nat → Nat) (q_mo q_mra q_mrA q_mrc q_mrk q_mpi q_mwc q_mwo q_mco q_mpo q_mky q_mla q_mcn q_mct : Nat) (k_mra k_mrA k_mrc k_mrk k_mpi k_mwc k_mwo k_mco k_mpo k_mky k_mla k_mcn k_mct : ClassId) (sz : Nat) (mo_port mo_line mo_cycle mo_raised mo_idle mo_bad mo_glyph mo_fetched mo_rows mo_flags2 mo_enabled mo_a mo_x mo_y mo_s mo_flags mo_p mo_jammed mo_code mo_step mo_low mo_high mo_old mo_latest mo_cycles mo_stolen mo_interrupts mo_accesses : Int32) (f_mra f_mrA f_mrc f_mrk f_mpi f_mwc f_mwo f_mco f_mpo f_mky f_mla f_mcn f_mct : Nat → Int32) (p1 : Int32) : Met l yX7_registersAt uX7_registersAt ({ frames := 0, cells := 0, slots := 0, locals := 0 }) (va_Pc [.ref q_mo, .int p1] (fun U => U.heap.size = sz ∧ va_P (dC, dI) vwCl (wwX7 q_mo q_mra q_mrA q_mrc q_mrk q_mpi q_mwc q_mwo q_mco q_mpo q_mky q_mla q_mcn q_mct k_mra k_mrA k_mrc k_mrk k_mpi k_mwc k_mwo k_mco k_mpo k_mky k_mla k_mcn k_mct mo_port mo_line mo_cycle mo_raised mo_idle mo_bad mo_glyph mo_fetched mo_rows mo_flags2 mo_enabled mo_a mo_x mo_y mo_s mo_flags mo_p mo_jammed mo_code mo_step mo_low mo_high mo_old mo_latest mo_cycles mo_stolen mo_interrupts mo_accesses f_mra f_mrA f_mrc f_mrk f_mpi f_mwc f_mwo f_mco f_mpo f_mky f_mla f_mcn f_mct) U.heap ∧ va_K (dC, dI) vwCl [(k_mra, .int), (k_mrA, .int), (k_mrc, .int), (k_mrk, .int), (k_mpi, .int), (k_mwc, .int), (k_mwo, .int), (k_mco, .int), (k_mpo, .int), (k_mky, .int), (k_mla, .int), (k_mcn, .int), (k_mct, .int)] U ∧ va_D (fun _ => True) (wwX7 q_mo q_mra q_mrA q_mrc q_mrk q_mpi q_mwc q_mwo q_mco q_mpo q_mky q_mla q_mcn q_mct k_mra k_mrA k_mrc k_mrk k_mpi k_mwc k_mwo k_mco k_mpo k_mky k_mla k_mcn k_mct mo_port mo_line mo_cycle mo_raised mo_idle mo_bad mo_glyph mo_fetched mo_rows mo_flags2 mo_enabled mo_a mo_x mo_y mo_s mo_flags mo_p mo_jammed mo_code mo_step mo_low mo_high mo_old mo_latest mo_cycles mo_stolen mo_interrupts mo_accesses f_mra f_mrA f_mrc f_mrk f_mpi f_mwc f_mwo f_mco f_mpo f_mky f_mla f_mcn f_mct))) (va_Qi (fun (r : Int32) (u : Unit) => r = fX7_registersAt p1 mo_port) (fun (u : Unit) (t : State) => va_P (dC, dI) vwCl (wwX7 q_mo q_mra q_mrA q_mrc q_mrk q_mpi q_mwc q_mwo q_mco q_mpo q_mky q_mla q_mcn q_mct k_mra k_mrA k_mrc k_mrk k_mpi k_mwc k_mwo k_mco k_mpo k_mky k_mla k_mcn k_mct mo_port mo_line mo_cycle mo_raised mo_idle mo_bad mo_glyph mo_fetched mo_rows mo_flags2 mo_enabled mo_a mo_x mo_y mo_s mo_flags mo_p mo_jammed mo_code mo_step mo_low mo_high mo_old mo_latest mo_cycles mo_stolen mo_interrupts mo_accesses f_mra f_mrA f_mrc f_mrk f_mpi f_mwc f_mwo f_mco f_mpo f_mky f_mla f_mcn f_mct) t.heap ∧ va_K (dC, dI) vwCl [(k_mra, .int), (k_mrA, .int), (k_mrc, .int), (k_mrk, .int), (k_mpi, .int), (k_mwc, .int), (k_mwo, .int), (k_mco, .int), (k_mpo, .int), (k_mky, .int), (k_mla, .int), (k_mcn, .int), (k_mct, .int)] t ∧ va_D (va_A (wwX7 q_mo q_mra q_mrA q_mrc q_mrk q_mpi q_mwc q_mwo q_mco q_mpo q_mky q_mla q_mcn q_mct k_mra k_mrA k_mrc k_mrk k_mpi k_mwc k_mwo k_mco k_mpo k_mky k_mla k_mcn k_mct mo_port mo_line mo_cycle mo_raised mo_idle mo_bad mo_glyph mo_fetched mo_rows mo_flags2 mo_enabled mo_a mo_x mo_y mo_s mo_flags mo_p mo_jammed mo_code mo_step mo_low mo_high mo_old mo_latest mo_cycles mo_stolen mo_interrupts mo_accesses f_mra f_mrA f_mrc f_mrk f_mpi f_mwc f_mwo f_mco f_mpo f_mky f_mla f_mcn f_mct) sz) (wwX7 q_mo q_mra q_mrA q_mrc q_mrk q_mpi q_mwc q_mwo q_mco q_mpo q_mky q_mla q_mcn q_mct k_mra k_mrA k_mrc k_mrk k_mpi k_mwc k_mwo k_mco k_mpo k_mky k_mla k_mcn k_mct mo_port mo_line mo_cycle mo_raised mo_idle mo_bad mo_glyph mo_fetched mo_rows mo_flags2 mo_enabled mo_a mo_x mo_y mo_s mo_flags mo_p mo_jammed mo_code mo_step mo_low mo_high mo_old mo_latest mo_cycles mo_stolen mo_interrupts mo_accesses f_mra f_mrA f_mrc f_mrk f_mpi f_mwc f_mwo f_mco f_mpo f_mky f_mla f_mcn f_mct)) (va_A (wwX7 q_mo q_mra q_mrA q_mrc q_mrk q_mpi q_mwc q_mwo q_mco q_mpo q_mky q_mla q_mcn q_mct k_mra k_mrA k_mrc k_mrk k_mpi k_mwc k_mwo k_mco k_mpo k_mky k_mla k_mcn k_mct mo_port mo_line mo_cycle mo_raised mo_idle mo_bad mo_glyph mo_fetched mo_rows mo_flags2 mo_enabled mo_a mo_x mo_y mo_s mo_flags mo_p mo_jammed mo_code mo_step mo_low mo_high mo_old mo_latest mo_cycles mo_stolen mo_interrupts mo_accesses f_mra f_mrA f_mrc f_mrk f_mpi f_mwc f_mwo f_mco f_mpo f_mky f_mla f_mcn f_mct) sz)) 0 0 (va_A (wwX7 q_mo q_mra q_mrA q_mrc q_mrk q_mpi q_mwc q_mwo q_mco q_mpo q_mky q_mla q_mcn q_mct k_mra k_mrA k_mrc k_mrk k_mpi k_mwc k_mwo k_mco k_mpo k_mky k_mla k_mcn k_mct mo_port mo_line mo_cycle mo_raised mo_idle mo_bad mo_glyph mo_fetched mo_rows mo_flags2 mo_enabled mo_a mo_x mo_y mo_s mo_flags mo_p mo_jammed mo_code mo_step mo_low mo_high mo_old mo_latest mo_cycles mo_stolen mo_interrupts mo_accesses f_mra f_mrA f_mrc f_mrk f_mpi f_mwc f_mwo f_mco f_mpo f_mky f_mla f_mcn f_mct) sz) := by
  refine Met.ofW (cc := cX7_registersAt) (maxL := 2) (ret := (some .boolean)) (by decide) rfl ?_
  intro p e s m args below meth c s₁ B hml hv
  obtain ⟨rfl, hsz, hP, hK, hD0⟩ := hv
  have hx := B.exec
  have hb := B.bytes
  have hr := B.returns
  have hts : ∀ w ∈ ub, w.before _ s = true := fun w h => atoms_spec (ws := uX7_registersAt) B.pre w (List.mem_cons_of_mem _ h)
  have hown : s.vm.findClass RX7 = some m.cls := findClass_of_methodNamed B.named
  have hlocks := B.notSynchronized
  subst hsz
  have hD := hD0.self (sz := s.heap.size)
  generalize hAe : va_A (wwX7 q_mo q_mra q_mrA q_mrc q_mrk q_mpi q_mwc q_mwo q_mco q_mpo q_mky q_mla q_mcn q_mct k_mra k_mrA k_mrc k_mrk k_mpi k_mwc k_mwo k_mco k_mpo k_mky k_mla k_mcn k_mct mo_port mo_line mo_cycle mo_raised mo_idle mo_bad mo_glyph mo_fetched mo_rows mo_flags2 mo_enabled mo_a mo_x mo_y mo_s mo_flags mo_p mo_jammed mo_code mo_step mo_low mo_high mo_old mo_latest mo_cycles mo_stolen mo_interrupts mo_accesses f_mra f_mrA f_mrc f_mrk f_mpi f_mwc f_mwo f_mco f_mpo f_mky f_mla f_mcn f_mct) s.heap.size = A at hD ⊢
  have hA : ∀ q : Nat, s.heap.size ≤ q → A q := fun q h => by rw [← hAe]; exact Or.inr h
  have hS : va_S A s.heap s.heap [] := va_S.rf
  have hl := lv_entry ([.ref q_mo, .int p1]) (n := 2) (Nat.le_of_ble_eq_true rfl)
  rw [lg_entry_eq]
  generalize (lg_sl ([.ref q_mo, .int p1]) ++ List.replicate (2 - (lg_sl ([.ref q_mo, .int p1])).length) Slot.unset).toArray = ls at hl ⊢
  have hl : lv_has ls 2 [(0, .ref q_mo), (1, .int p1)] := hl
  have hF := fX7_registersAt.eq_1 p1 mo_port
  refine lv_iload_n hx hb dX7_registersAt_0 rfl (lv_at hl 1 rfl) ?_
  refine lv_sipush (v := 6656) hx hb dX7_registersAt_1 (by decide) ?_
  refine vj_join (j := 37) (rest := []) (Hyp := fun z H locs => z = (if p1 < (6656:Int32) then (0:Int32) else (if (7168:Int32) ≤ p1 then (0:Int32) else (if (mo_port &&& (3:Int32)) = (0:Int32) then (0:Int32) else (if (mo_port &&& (4:Int32)) = (0:Int32) then (0:Int32) else (1:Int32))))) ∧ va_P (dC, dI) vwCl (wwX7 q_mo q_mra q_mrA q_mrc q_mrk q_mpi q_mwc q_mwo q_mco q_mpo q_mky q_mla q_mcn q_mct k_mra k_mrA k_mrc k_mrk k_mpi k_mwc k_mwo k_mco k_mpo k_mky k_mla k_mcn k_mct mo_port mo_line mo_cycle mo_raised mo_idle mo_bad mo_glyph mo_fetched mo_rows mo_flags2 mo_enabled mo_a mo_x mo_y mo_s mo_flags mo_p mo_jammed mo_code mo_step mo_low mo_high mo_old mo_latest mo_cycles mo_stolen mo_interrupts mo_accesses f_mra f_mrA f_mrc f_mrk f_mpi f_mwc f_mwo f_mco f_mpo f_mky f_mla f_mcn f_mct) H ∧ va_S A s.heap H locs) (fun z H locs hh => ?_) (fun J37 => ?_)
  · obtain ⟨hz, hP, hS⟩ := hh
    subst hz
    exact W.zret (v := (if p1 < (6656:Int32) then (0:Int32) else (if (7168:Int32) ≤ p1 then (0:Int32) else (if (mo_port &&& (3:Int32)) = (0:Int32) then (0:Int32) else (if (mo_port &&& (4:Int32)) = (0:Int32) then (0:Int32) else (1:Int32)))))) hx hb hr (nb_if rfl (nb_if rfl (nb_if rfl (nb_if rfl rfl)))) (fun t ht hW => ⟨⟨(if p1 < (6656:Int32) then (0:Int32) else (if (7168:Int32) ≤ p1 then (0:Int32) else (if (mo_port &&& (3:Int32)) = (0:Int32) then (0:Int32) else (if (mo_port &&& (4:Int32)) = (0:Int32) then (0:Int32) else (1:Int32))))), (), rfl, hF.symm, by rw [ht]; exact hP, va_K.moved hW.alike hK, hD⟩, hS.F ht⟩) hS.2.2 dX7_registersAt_37
  · refine lv_icmp_lt (tgt := 36) hx hb dX7_registersAt_4 (by decide) (fun c_4 => ?_) (fun c_4 => ?_)
    · refine lv_iconst (v := 0) hx hb dX7_registersAt_36 (by decide) ?_
      exact J37 _ _ _ ⟨by rw [if_pos c_4], hP, hS⟩
    · refine lv_iload_n hx hb dX7_registersAt_7 rfl (lv_at hl 1 rfl) ?_
      refine lv_sipush (v := 7168) hx hb dX7_registersAt_8 (by decide) ?_
      refine lv_icmp_ge (tgt := 36) hx hb dX7_registersAt_11 (by decide) (fun c_11 => ?_) (fun c_11 => ?_)
      · refine lv_iconst (v := 0) hx hb dX7_registersAt_36 (by decide) ?_
        exact J37 _ _ _ ⟨by rw [if_neg c_4, if_pos c_11], hP, hS⟩
      · refine lv_aload_n hx hb dX7_registersAt_14 rfl (lv_at hl 0 rfl) ?_
        refine va_get (D := (dC, dI)) (ci := 7) (v := .int mo_port) (C := RX7) (T := TX7) (N := 41) hx hb hts hiX7 hown hK hP 0 rfl rfl 4 (by decide) (hts _ kFX7_22) (fun _ h9 => h9) rfl dX7_registersAt_15 ?_
        refine lv_iconst (v := 3) hx hb dX7_registersAt_18 (by decide) ?_
        refine lv_iand hx hb dX7_registersAt_19 ?_
        refine lv_if_eq (tgt := 36) hx hb dX7_registersAt_20 (by decide) (fun c_20 => ?_) (fun c_20 => ?_)
        · refine lv_iconst (v := 0) hx hb dX7_registersAt_36 (by decide) ?_
          exact J37 _ _ _ ⟨by rw [if_neg c_4, if_neg c_11, if_pos c_20], hP, hS⟩
        · refine lv_aload_n hx hb dX7_registersAt_23 rfl (lv_at hl 0 rfl) ?_
          refine va_get (D := (dC, dI)) (ci := 7) (v := .int mo_port) (C := RX7) (T := TX7) (N := 41) hx hb hts hiX7 hown hK hP 0 rfl rfl 4 (by decide) (hts _ kFX7_22) (fun _ h9 => h9) rfl dX7_registersAt_24 ?_
          refine lv_iconst (v := 4) hx hb dX7_registersAt_27 (by decide) ?_
          refine lv_iand hx hb dX7_registersAt_28 ?_
          refine lv_if_eq (tgt := 36) hx hb dX7_registersAt_29 (by decide) (fun c_29 => ?_) (fun c_29 => ?_)
          · refine lv_iconst (v := 0) hx hb dX7_registersAt_36 (by decide) ?_
            exact J37 _ _ _ ⟨by rw [if_neg c_4, if_neg c_11, if_neg c_20, if_pos c_29], hP, hS⟩
          · refine lv_iconst (v := 1) hx hb dX7_registersAt_32 (by decide) ?_
            refine lv_goto (tgt := 37) hx hb dX7_registersAt_33 (by decide) ?_
            exact J37 _ _ _ ⟨by rw [if_neg c_4, if_neg c_11, if_neg c_20, if_neg c_29], hP, hS⟩
theorem regAt_off {x q : Int32} (h : ¬ fX7_registersAt x q = 0) : vp_in (x - 6656) 512 := by
  unfold fX7_registersAt at h
  by_cases h1 : x < 6656
  · rw [if_pos h1] at h; exact absurd rfl h
  · rw [if_neg h1] at h
    by_cases h2 : (7168:Int32) ≤ x
    · rw [if_pos h2] at h; exact absurd rfl h
    · exact rg_offn 6656 512 h1 h2 (by decide)
def fX7_keyboard (mo_rows : Int32) (f_mky : Nat → Int32) : Int32 := kbv mo_rows f_mky 8
set_option maxHeartbeats 4000000 in
set_option maxRecDepth 100000 in
theorem mX7_keyboard (l : Launch) (dC : Nat → ClassId) (dI : Nat → Nat → Nat) (q_mo q_mra q_mrA q_mrc q_mrk q_mpi q_mwc q_mwo q_mco q_mpo q_mky q_mla q_mcn q_mct : Nat) (k_mra k_mrA k_mrc k_mrk k_mpi k_mwc k_mwo k_mco k_mpo k_mky k_mla k_mcn k_mct : ClassId) (sz : Nat) (mo_port mo_line mo_cycle mo_raised mo_idle mo_bad mo_glyph mo_fetched mo_rows mo_flags2 mo_enabled mo_a mo_x mo_y mo_s mo_flags mo_p mo_jammed mo_code mo_step mo_low mo_high mo_old mo_latest mo_cycles mo_stolen mo_interrupts mo_accesses : Int32) (f_mra f_mrA f_mrc f_mrk f_mpi f_mwc f_mwo f_mco f_mpo f_mky f_mla f_mcn f_mct : Nat → Int32) : Met l yX7_keyboard uX7_keyboard ({ frames := 0, cells := 0, slots := 0, locals := 0 }) (va_Pc [.ref q_mo] (fun U => U.heap.size = sz ∧ va_P (dC, dI) vwCl (wwX7 q_mo q_mra q_mrA q_mrc q_mrk q_mpi q_mwc q_mwo q_mco q_mpo q_mky q_mla q_mcn q_mct k_mra k_mrA k_mrc k_mrk k_mpi k_mwc k_mwo k_mco k_mpo k_mky k_mla k_mcn k_mct mo_port mo_line mo_cycle mo_raised mo_idle mo_bad mo_glyph mo_fetched mo_rows mo_flags2 mo_enabled mo_a mo_x mo_y mo_s mo_flags mo_p mo_jammed mo_code mo_step mo_low mo_high mo_old mo_latest mo_cycles mo_stolen mo_interrupts mo_accesses f_mra f_mrA f_mrc f_mrk f_mpi f_mwc f_mwo f_mco f_mpo f_mky f_mla f_mcn f_mct) U.heap ∧ va_K (dC, dI) vwCl [(k_mra, .int), (k_mrA, .int), (k_mrc, .int), (k_mrk, .int), (k_mpi, .int), (k_mwc, .int), (k_mwo, .int), (k_mco, .int), (k_mpo, .int), (k_mky, .int), (k_mla, .int), (k_mcn, .int), (k_mct, .int)] U ∧ va_D (fun _ => True) (wwX7 q_mo q_mra q_mrA q_mrc q_mrk q_mpi q_mwc q_mwo q_mco q_mpo q_mky q_mla q_mcn q_mct k_mra k_mrA k_mrc k_mrk k_mpi k_mwc k_mwo k_mco k_mpo k_mky k_mla k_mcn k_mct mo_port mo_line mo_cycle mo_raised mo_idle mo_bad mo_glyph mo_fetched mo_rows mo_flags2 mo_enabled mo_a mo_x mo_y mo_s mo_flags mo_p mo_jammed mo_code mo_step mo_low mo_high mo_old mo_latest mo_cycles mo_stolen mo_interrupts mo_accesses f_mra f_mrA f_mrc f_mrk f_mpi f_mwc f_mwo f_mco f_mpo f_mky f_mla f_mcn f_mct))) (va_Qi (fun (r : Int32) (u : Unit) => r = fX7_keyboard mo_rows f_mky) (fun (u : Unit) (t : State) => va_P (dC, dI) vwCl (wwX7 q_mo q_mra q_mrA q_mrc q_mrk q_mpi q_mwc q_mwo q_mco q_mpo q_mky q_mla q_mcn q_mct k_mra k_mrA k_mrc k_mrk k_mpi k_mwc k_mwo k_mco k_mpo k_mky k_mla k_mcn k_mct mo_port mo_line mo_cycle mo_raised mo_idle mo_bad mo_glyph mo_fetched mo_rows mo_flags2 mo_enabled mo_a mo_x mo_y mo_s mo_flags mo_p mo_jammed mo_code mo_step mo_low mo_high mo_old mo_latest mo_cycles mo_stolen mo_interrupts mo_accesses f_mra f_mrA f_mrc f_mrk f_mpi f_mwc f_mwo f_mco f_mpo f_mky f_mla f_mcn f_mct) t.heap ∧ va_K (dC, dI) vwCl [(k_mra, .int), (k_mrA, .int), (k_mrc, .int), (k_mrk, .int), (k_mpi, .int), (k_mwc, .int), (k_mwo, .int), (k_mco, .int), (k_mpo, .int), (k_mky, .int), (k_mla, .int), (k_mcn, .int), (k_mct, .int)] t ∧ va_D (va_A (wwX7 q_mo q_mra q_mrA q_mrc q_mrk q_mpi q_mwc q_mwo q_mco q_mpo q_mky q_mla q_mcn q_mct k_mra k_mrA k_mrc k_mrk k_mpi k_mwc k_mwo k_mco k_mpo k_mky k_mla k_mcn k_mct mo_port mo_line mo_cycle mo_raised mo_idle mo_bad mo_glyph mo_fetched mo_rows mo_flags2 mo_enabled mo_a mo_x mo_y mo_s mo_flags mo_p mo_jammed mo_code mo_step mo_low mo_high mo_old mo_latest mo_cycles mo_stolen mo_interrupts mo_accesses f_mra f_mrA f_mrc f_mrk f_mpi f_mwc f_mwo f_mco f_mpo f_mky f_mla f_mcn f_mct) sz) (wwX7 q_mo q_mra q_mrA q_mrc q_mrk q_mpi q_mwc q_mwo q_mco q_mpo q_mky q_mla q_mcn q_mct k_mra k_mrA k_mrc k_mrk k_mpi k_mwc k_mwo k_mco k_mpo k_mky k_mla k_mcn k_mct mo_port mo_line mo_cycle mo_raised mo_idle mo_bad mo_glyph mo_fetched mo_rows mo_flags2 mo_enabled mo_a mo_x mo_y mo_s mo_flags mo_p mo_jammed mo_code mo_step mo_low mo_high mo_old mo_latest mo_cycles mo_stolen mo_interrupts mo_accesses f_mra f_mrA f_mrc f_mrk f_mpi f_mwc f_mwo f_mco f_mpo f_mky f_mla f_mcn f_mct)) (va_A (wwX7 q_mo q_mra q_mrA q_mrc q_mrk q_mpi q_mwc q_mwo q_mco q_mpo q_mky q_mla q_mcn q_mct k_mra k_mrA k_mrc k_mrk k_mpi k_mwc k_mwo k_mco k_mpo k_mky k_mla k_mcn k_mct mo_port mo_line mo_cycle mo_raised mo_idle mo_bad mo_glyph mo_fetched mo_rows mo_flags2 mo_enabled mo_a mo_x mo_y mo_s mo_flags mo_p mo_jammed mo_code mo_step mo_low mo_high mo_old mo_latest mo_cycles mo_stolen mo_interrupts mo_accesses f_mra f_mrA f_mrc f_mrk f_mpi f_mwc f_mwo f_mco f_mpo f_mky f_mla f_mcn f_mct) sz)) 0 0 (va_A (wwX7 q_mo q_mra q_mrA q_mrc q_mrk q_mpi q_mwc q_mwo q_mco q_mpo q_mky q_mla q_mcn q_mct k_mra k_mrA k_mrc k_mrk k_mpi k_mwc k_mwo k_mco k_mpo k_mky k_mla k_mcn k_mct mo_port mo_line mo_cycle mo_raised mo_idle mo_bad mo_glyph mo_fetched mo_rows mo_flags2 mo_enabled mo_a mo_x mo_y mo_s mo_flags mo_p mo_jammed mo_code mo_step mo_low mo_high mo_old mo_latest mo_cycles mo_stolen mo_interrupts mo_accesses f_mra f_mrA f_mrc f_mrk f_mpi f_mwc f_mwo f_mco f_mpo f_mky f_mla f_mcn f_mct) sz) := by
  refine Met.ofW (cc := cX7_keyboard) (maxL := 3) (ret := (some .int)) (by decide) rfl ?_
  intro p e s m args below meth c s₁ B hml hv
  obtain ⟨rfl, hsz, hP, hK, hD0⟩ := hv
  have hx := B.exec
  have hb := B.bytes
  have hr := B.returns
  have hts : ∀ w ∈ ub, w.before _ s = true := fun w h => atoms_spec (ws := uX7_keyboard) B.pre w (List.mem_cons_of_mem _ h)
  have hown : s.vm.findClass RX7 = some m.cls := findClass_of_methodNamed B.named
  have hlocks := B.notSynchronized
  subst hsz
  have hD := hD0.self (sz := s.heap.size)
  generalize hAe : va_A (wwX7 q_mo q_mra q_mrA q_mrc q_mrk q_mpi q_mwc q_mwo q_mco q_mpo q_mky q_mla q_mcn q_mct k_mra k_mrA k_mrc k_mrk k_mpi k_mwc k_mwo k_mco k_mpo k_mky k_mla k_mcn k_mct mo_port mo_line mo_cycle mo_raised mo_idle mo_bad mo_glyph mo_fetched mo_rows mo_flags2 mo_enabled mo_a mo_x mo_y mo_s mo_flags mo_p mo_jammed mo_code mo_step mo_low mo_high mo_old mo_latest mo_cycles mo_stolen mo_interrupts mo_accesses f_mra f_mrA f_mrc f_mrk f_mpi f_mwc f_mwo f_mco f_mpo f_mky f_mla f_mcn f_mct) s.heap.size = A at hD ⊢
  have hA : ∀ q : Nat, s.heap.size ≤ q → A q := fun q h => by rw [← hAe]; exact Or.inr h
  have hS : va_S A s.heap s.heap [] := va_S.rf
  have hl := lv_entry ([.ref q_mo]) (n := 3) (Nat.le_of_ble_eq_true rfl)
  rw [lg_entry_eq]
  generalize (lg_sl ([.ref q_mo]) ++ List.replicate (3 - (lg_sl ([.ref q_mo])).length) Slot.unset).toArray = ls at hl ⊢
  have hl : lv_has ls 3 [(0, .ref q_mo)] := hl
  refine vj_loop (j := 6) (Inv := fun i ls H locs => lv_has ls 3 [(2, .int (nI i)), (1, .int (kbv mo_rows f_mky i)), (0, .ref q_mo)] ∧ va_P (dC, dI) vwCl (wwX7 q_mo q_mra q_mrA q_mrc q_mrk q_mpi q_mwc q_mwo q_mco q_mpo q_mky q_mla q_mcn q_mct k_mra k_mrA k_mrc k_mrk k_mpi k_mwc k_mwo k_mco k_mpo k_mky k_mla k_mcn k_mct mo_port mo_line mo_cycle mo_raised mo_idle mo_bad mo_glyph mo_fetched mo_rows mo_flags2 mo_enabled mo_a mo_x mo_y mo_s mo_flags mo_p mo_jammed mo_code mo_step mo_low mo_high mo_old mo_latest mo_cycles mo_stolen mo_interrupts mo_accesses f_mra f_mrA f_mrc f_mrk f_mpi f_mwc f_mwo f_mco f_mpo f_mky f_mla f_mcn f_mct) H ∧ va_D A (wwX7 q_mo q_mra q_mrA q_mrc q_mrk q_mpi q_mwc q_mwo q_mco q_mpo q_mky q_mla q_mcn q_mct k_mra k_mrA k_mrc k_mrk k_mpi k_mwc k_mwo k_mco k_mpo k_mky k_mla k_mcn k_mct mo_port mo_line mo_cycle mo_raised mo_idle mo_bad mo_glyph mo_fetched mo_rows mo_flags2 mo_enabled mo_a mo_x mo_y mo_s mo_flags mo_p mo_jammed mo_code mo_step mo_low mo_high mo_old mo_latest mo_cycles mo_stolen mo_interrupts mo_accesses f_mra f_mrA f_mrc f_mrk f_mpi f_mwc f_mwo f_mco f_mpo f_mky f_mla f_mcn f_mct) ∧ va_S A s.heap H locs) 8 (fun ls H locs hh => ?_) (fun i hi ih ls H locs hh => ?_) (fun L => ?_)
  · obtain ⟨hl, hP, hD, hS⟩ := hh
    refine lv_iload_n hx hb dX7_keyboard_6 rfl (lv_at hl 0 rfl) ?_
    refine lv_bipush (v := 8) hx hb dX7_keyboard_7 (by decide) ?_
    refine lv_icmp_ge (tgt := 44) hx hb dX7_keyboard_9 (by decide) (fun c_9 => ?_) (fun c_9 => by exact absurd (by decide) c_9)
    refine lv_iload_n hx hb dX7_keyboard_44 rfl (lv_at hl 1 rfl) ?_
    exact W.iret (v := (kbv mo_rows f_mky 8)) hx hb hr (fun t ht hW => ⟨⟨(kbv mo_rows f_mky 8), (), rfl, rfl, by rw [ht]; exact hP, va_K.moved hW.alike hK, hD⟩, hS.F ht⟩) hS.2.2 dX7_keyboard_45
  · obtain ⟨hl, hP, hD, hS⟩ := hh
    refine lv_iload_n hx hb dX7_keyboard_6 rfl (lv_at hl 0 rfl) ?_
    refine lv_bipush (v := 8) hx hb dX7_keyboard_7 (by decide) ?_
    refine lv_icmp_ge (tgt := 44) hx hb dX7_keyboard_9 (by decide) (fun c_9 => by exact absurd c_9 (nI_ge (b := 8) (by omega) (by decide))) (fun c_9 => ?_)
    refine lv_aload_n hx hb dX7_keyboard_12 rfl (lv_at hl 2 rfl) ?_
    refine va_get (D := (dC, dI)) (ci := 7) (v := .int mo_rows) (C := RX7) (T := TX7) (N := 41) hx hb hts hiX7 hown hK hP 0 rfl rfl 17 (by decide) (hts _ kFX7_82) (fun _ h9 => h9) rfl dX7_keyboard_13 ?_
    refine lv_iload_n hx hb dX7_keyboard_16 rfl (lv_at hl 0 rfl) ?_
    refine lv_ishr hx hb dX7_keyboard_17 ?_
    refine lv_iconst (v := 1) hx hb dX7_keyboard_18 (by decide) ?_
    refine lv_iand hx hb dX7_keyboard_19 ?_
    refine vj_join (j := 37) (rest := []) (Hyp := fun z H locs => z = (if ((mo_rows >>> ((nI i) &&& (31:Int32))) &&& (1:Int32)) = (0:Int32) then ((kbv mo_rows f_mky i) &&& ((f_mky (nI i).toNatClampNeg) ^^^ (-1:Int32))) else (kbv mo_rows f_mky i)) ∧ va_P (dC, dI) vwCl (wwX7 q_mo q_mra q_mrA q_mrc q_mrk q_mpi q_mwc q_mwo q_mco q_mpo q_mky q_mla q_mcn q_mct k_mra k_mrA k_mrc k_mrk k_mpi k_mwc k_mwo k_mco k_mpo k_mky k_mla k_mcn k_mct mo_port mo_line mo_cycle mo_raised mo_idle mo_bad mo_glyph mo_fetched mo_rows mo_flags2 mo_enabled mo_a mo_x mo_y mo_s mo_flags mo_p mo_jammed mo_code mo_step mo_low mo_high mo_old mo_latest mo_cycles mo_stolen mo_interrupts mo_accesses f_mra f_mrA f_mrc f_mrk f_mpi f_mwc f_mwo f_mco f_mpo f_mky f_mla f_mcn f_mct) H ∧ va_S A s.heap H locs) (fun z H locs hh => ?_) (fun J37 => ?_)
    · obtain ⟨hz, hP, hS⟩ := hh
      subst hz
      refine lv_istore_n (lv' := [(1, .int (if ((mo_rows >>> ((nI i) &&& (31:Int32))) &&& (1:Int32)) = (0:Int32) then ((kbv mo_rows f_mky i) &&& ((f_mky (nI i).toNatClampNeg) ^^^ (-1:Int32))) else (kbv mo_rows f_mky i))), (2, .int (nI i)), (0, .ref q_mo)]) hx hb dX7_keyboard_37 rfl hl (by decide) rfl (fun ls hl => ?_)
      refine lv_iinc (v := ((nI i) + (1:Int32))) (lv' := [(2, .int ((nI i) + (1:Int32))), (1, .int (if ((mo_rows >>> ((nI i) &&& (31:Int32))) &&& (1:Int32)) = (0:Int32) then ((kbv mo_rows f_mky i) &&& ((f_mky (nI i).toNatClampNeg) ^^^ (-1:Int32))) else (kbv mo_rows f_mky i))), (0, .ref q_mo)]) hx hb dX7_keyboard_38 hl (k := 1) rfl rfl (by decide) rfl (fun ls hl => ?_)
      refine lv_goto (tgt := 6) hx hb dX7_keyboard_41 (by decide) ?_
      have hl := lv_sub hl [0, 1, 2] rfl
      have w_2 : (nI (i + 1)) = ((nI i) + (1:Int32)) := by exact nI_succ i
      rw [← w_2] at hl
      have w_1 : (kbv mo_rows f_mky (i + 1)) = (if ((mo_rows >>> ((nI i) &&& (31:Int32))) &&& (1:Int32)) = (0:Int32) then ((kbv mo_rows f_mky i) &&& ((f_mky (nI i).toNatClampNeg) ^^^ (-1:Int32))) else (kbv mo_rows f_mky i)) := by exact kbv_s _ _ _
      rw [← w_1] at hl
      exact ih ls _ _ ⟨hl, hP, hD, hS⟩
    · refine lv_if_ne (tgt := 36) hx hb dX7_keyboard_20 (by decide) (fun c_20 => ?_) (fun c_20 => ?_)
      · refine lv_iload_n hx hb dX7_keyboard_36 rfl (lv_at hl 1 rfl) ?_
        exact J37 _ _ _ ⟨by rw [if_neg c_20], hP, hS⟩
      · refine lv_iload_n hx hb dX7_keyboard_23 rfl (lv_at hl 1 rfl) ?_
        refine lv_aload_n hx hb dX7_keyboard_24 rfl (lv_at hl 2 rfl) ?_
        refine va_get (D := (dC, dI)) (ci := 7) (v := .ref q_mky) (C := RX7) (T := TX7) (N := 41) hx hb hts hiX7 hown hK hP 0 rfl rfl 18 (by decide) (hts _ kFX7_45) (fun _ h9 => h9) rfl dX7_keyboard_25 ?_
        refine lv_iload_n hx hb dX7_keyboard_28 rfl (lv_at hl 0 rfl) ?_
        refine va_iald hx hb hK hP 10 9 rfl rfl (vp_in_nI (by omega) (by decide)) dX7_keyboard_29 ?_
        refine lv_iconst (v := -1) hx hb dX7_keyboard_30 (by decide) ?_
        refine lv_ixor hx hb dX7_keyboard_31 ?_
        refine lv_iand hx hb dX7_keyboard_32 ?_
        refine lv_goto (tgt := 37) hx hb dX7_keyboard_33 (by decide) ?_
        exact J37 _ _ _ ⟨by rw [if_pos c_20], hP, hS⟩
  · refine lv_sipush (v := 255) hx hb dX7_keyboard_0 (by decide) ?_
    refine lv_istore_n (lv' := [(1, .int (255:Int32)), (0, .ref q_mo)]) hx hb dX7_keyboard_3 rfl hl (by decide) rfl (fun ls hl => ?_)
    refine lv_iconst (v := 0) hx hb dX7_keyboard_4 (by decide) ?_
    refine lv_istore_n (lv' := [(2, .int (0:Int32)), (1, .int (255:Int32)), (0, .ref q_mo)]) hx hb dX7_keyboard_5 rfl hl (by decide) rfl (fun ls hl => ?_)
    exact L ls _ _ ⟨lv_sub hl [0, 1, 2] rfl, hP, hD, hS⟩
def fX7_chip (p1 : Int32) (p2 : Int32) (mo_line : Int32) (mo_raised : Int32) (mo_rows : Int32) (mo_flags2 : Int32) (mo_enabled : Int32) (f_mpi : Nat → Int32) (f_mco : Nat → Int32) (f_mky : Nat → Int32) (f_mcn : Nat → Int32) (f_mct : Nat → Int32) : Int32 × Int32 :=
  if (64:Int32) ≤ p1 then
   if p1 < (128:Int32) then
    if (p1 - p1 / (16:Int32) * (16:Int32)) = (0:Int32) then
     (mo_rows, mo_flags2)
    else
     if (p1 - p1 / (16:Int32) * (16:Int32)) = (1:Int32) then
      ((fX7_keyboard mo_rows f_mky), mo_flags2)
     else
      if (p1 - p1 / (16:Int32) * (16:Int32)) < (4:Int32) then
       ((0:Int32), mo_flags2)
      else
       if (8:Int32) ≤ (p1 - p1 / (16:Int32) * (16:Int32)) then
        if (p1 - p1 / (16:Int32) * (16:Int32)) < (14:Int32) then
         if (p1 - p1 / (16:Int32) * (16:Int32)) = (13:Int32) then
          ((mo_flags2 + (if (mo_flags2 &&& mo_enabled) = (0:Int32) then (0:Int32) else (128:Int32))), (if p2 = (0:Int32) then mo_flags2 else (0:Int32)))
         else
          ((0:Int32), mo_flags2)
        else
         ((f_mct ((p1 - p1 / (16:Int32) * (16:Int32)) - (14:Int32)).toNatClampNeg), mo_flags2)
       else
        ((((f_mcn (((p1 - p1 / (16:Int32) * (16:Int32)) - (4:Int32)) / (2:Int32)).toNatClampNeg) >>> (((8:Int32) * ((p1 - p1 / (16:Int32) * (16:Int32)) - (p1 - p1 / (16:Int32) * (16:Int32)) / (2:Int32) * (2:Int32))) &&& (31:Int32))) &&& (255:Int32)), mo_flags2)
   else
    ((if (152:Int32) ≤ p1 then (0:Int32) else (f_mco (p1 - (128:Int32)).toNatClampNeg)), mo_flags2)
  else
   if (p1 - p1 / (16:Int32) * (16:Int32)) = (1:Int32) then
    (mo_line, mo_flags2)
   else
    if (p1 - p1 / (16:Int32) * (16:Int32)) = (4:Int32) then
     (((if mo_raised = (0:Int32) then (0:Int32) else (1:Int32)) + (if mo_raised = (0:Int32) then (0:Int32) else (if (f_mpi (5:Int32).toNatClampNeg) = (1:Int32) then (128:Int32) else (0:Int32)))), mo_flags2)
    else
     ((if (7:Int32) ≤ (p1 - p1 / (16:Int32) * (16:Int32)) then (0:Int32) else (f_mpi (p1 - p1 / (16:Int32) * (16:Int32)).toNatClampNeg)), mo_flags2)
set_option maxHeartbeats 4000000 in
set_option maxRecDepth 100000 in
theorem mX7_chip (l : Launch) (dC : Nat → ClassId) (dI : Nat → Nat → Nat) (q_mo q_mra q_mrA q_mrc q_mrk q_mpi q_mwc q_mwo q_mco q_mpo q_mky q_mla q_mcn q_mct : Nat) (k_mra k_mrA k_mrc k_mrk k_mpi k_mwc k_mwo k_mco k_mpo k_mky k_mla k_mcn k_mct : ClassId) (sz : Nat) (mo_port mo_line mo_cycle mo_raised mo_idle mo_bad mo_glyph mo_fetched mo_rows mo_flags2 mo_enabled mo_a mo_x mo_y mo_s mo_flags mo_p mo_jammed mo_code mo_step mo_low mo_high mo_old mo_latest mo_cycles mo_stolen mo_interrupts mo_accesses : Int32) (f_mra f_mrA f_mrc f_mrk f_mpi f_mwc f_mwo f_mco f_mpo f_mky f_mla f_mcn f_mct : Nat → Int32) (p1 p2 : Int32) (ho : vp_in p1 512) : Met l yX7_chip uX7_chip ({ frames := 1, cells := 0, slots := 0, locals := 22 }) (va_Pc [.ref q_mo, .int p1, .int p2] (fun U => U.heap.size = sz ∧ va_P (dC, dI) vwCl (wwX7 q_mo q_mra q_mrA q_mrc q_mrk q_mpi q_mwc q_mwo q_mco q_mpo q_mky q_mla q_mcn q_mct k_mra k_mrA k_mrc k_mrk k_mpi k_mwc k_mwo k_mco k_mpo k_mky k_mla k_mcn k_mct mo_port mo_line mo_cycle mo_raised mo_idle mo_bad mo_glyph mo_fetched mo_rows mo_flags2 mo_enabled mo_a mo_x mo_y mo_s mo_flags mo_p mo_jammed mo_code mo_step mo_low mo_high mo_old mo_latest mo_cycles mo_stolen mo_interrupts mo_accesses f_mra f_mrA f_mrc f_mrk f_mpi f_mwc f_mwo f_mco f_mpo f_mky f_mla f_mcn f_mct) U.heap ∧ va_K (dC, dI) vwCl [(k_mra, .int), (k_mrA, .int), (k_mrc, .int), (k_mrk, .int), (k_mpi, .int), (k_mwc, .int), (k_mwo, .int), (k_mco, .int), (k_mpo, .int), (k_mky, .int), (k_mla, .int), (k_mcn, .int), (k_mct, .int)] U ∧ va_D (fun _ => True) (wwX7 q_mo q_mra q_mrA q_mrc q_mrk q_mpi q_mwc q_mwo q_mco q_mpo q_mky q_mla q_mcn q_mct k_mra k_mrA k_mrc k_mrk k_mpi k_mwc k_mwo k_mco k_mpo k_mky k_mla k_mcn k_mct mo_port mo_line mo_cycle mo_raised mo_idle mo_bad mo_glyph mo_fetched mo_rows mo_flags2 mo_enabled mo_a mo_x mo_y mo_s mo_flags mo_p mo_jammed mo_code mo_step mo_low mo_high mo_old mo_latest mo_cycles mo_stolen mo_interrupts mo_accesses f_mra f_mrA f_mrc f_mrk f_mpi f_mwc f_mwo f_mco f_mpo f_mky f_mla f_mcn f_mct))) (va_Qi (fun (r : Int32) (u : Int32) => (r, u) = fX7_chip p1 p2 mo_line mo_raised mo_rows mo_flags2 mo_enabled f_mpi f_mco f_mky f_mcn f_mct) (fun (u : Int32) (t : State) => va_P (dC, dI) vwCl (wwX7 q_mo q_mra q_mrA q_mrc q_mrk q_mpi q_mwc q_mwo q_mco q_mpo q_mky q_mla q_mcn q_mct k_mra k_mrA k_mrc k_mrk k_mpi k_mwc k_mwo k_mco k_mpo k_mky k_mla k_mcn k_mct mo_port mo_line mo_cycle mo_raised mo_idle mo_bad mo_glyph mo_fetched mo_rows u mo_enabled mo_a mo_x mo_y mo_s mo_flags mo_p mo_jammed mo_code mo_step mo_low mo_high mo_old mo_latest mo_cycles mo_stolen mo_interrupts mo_accesses f_mra f_mrA f_mrc f_mrk f_mpi f_mwc f_mwo f_mco f_mpo f_mky f_mla f_mcn f_mct) t.heap ∧ va_K (dC, dI) vwCl [(k_mra, .int), (k_mrA, .int), (k_mrc, .int), (k_mrk, .int), (k_mpi, .int), (k_mwc, .int), (k_mwo, .int), (k_mco, .int), (k_mpo, .int), (k_mky, .int), (k_mla, .int), (k_mcn, .int), (k_mct, .int)] t ∧ va_D (va_A (wwX7 q_mo q_mra q_mrA q_mrc q_mrk q_mpi q_mwc q_mwo q_mco q_mpo q_mky q_mla q_mcn q_mct k_mra k_mrA k_mrc k_mrk k_mpi k_mwc k_mwo k_mco k_mpo k_mky k_mla k_mcn k_mct mo_port mo_line mo_cycle mo_raised mo_idle mo_bad mo_glyph mo_fetched mo_rows mo_flags2 mo_enabled mo_a mo_x mo_y mo_s mo_flags mo_p mo_jammed mo_code mo_step mo_low mo_high mo_old mo_latest mo_cycles mo_stolen mo_interrupts mo_accesses f_mra f_mrA f_mrc f_mrk f_mpi f_mwc f_mwo f_mco f_mpo f_mky f_mla f_mcn f_mct) sz) (wwX7 q_mo q_mra q_mrA q_mrc q_mrk q_mpi q_mwc q_mwo q_mco q_mpo q_mky q_mla q_mcn q_mct k_mra k_mrA k_mrc k_mrk k_mpi k_mwc k_mwo k_mco k_mpo k_mky k_mla k_mcn k_mct mo_port mo_line mo_cycle mo_raised mo_idle mo_bad mo_glyph mo_fetched mo_rows u mo_enabled mo_a mo_x mo_y mo_s mo_flags mo_p mo_jammed mo_code mo_step mo_low mo_high mo_old mo_latest mo_cycles mo_stolen mo_interrupts mo_accesses f_mra f_mrA f_mrc f_mrk f_mpi f_mwc f_mwo f_mco f_mpo f_mky f_mla f_mcn f_mct)) (va_A (wwX7 q_mo q_mra q_mrA q_mrc q_mrk q_mpi q_mwc q_mwo q_mco q_mpo q_mky q_mla q_mcn q_mct k_mra k_mrA k_mrc k_mrk k_mpi k_mwc k_mwo k_mco k_mpo k_mky k_mla k_mcn k_mct mo_port mo_line mo_cycle mo_raised mo_idle mo_bad mo_glyph mo_fetched mo_rows mo_flags2 mo_enabled mo_a mo_x mo_y mo_s mo_flags mo_p mo_jammed mo_code mo_step mo_low mo_high mo_old mo_latest mo_cycles mo_stolen mo_interrupts mo_accesses f_mra f_mrA f_mrc f_mrk f_mpi f_mwc f_mwo f_mco f_mpo f_mky f_mla f_mcn f_mct) sz)) 0 0 (va_A (wwX7 q_mo q_mra q_mrA q_mrc q_mrk q_mpi q_mwc q_mwo q_mco q_mpo q_mky q_mla q_mcn q_mct k_mra k_mrA k_mrc k_mrk k_mpi k_mwc k_mwo k_mco k_mpo k_mky k_mla k_mcn k_mct mo_port mo_line mo_cycle mo_raised mo_idle mo_bad mo_glyph mo_fetched mo_rows mo_flags2 mo_enabled mo_a mo_x mo_y mo_s mo_flags mo_p mo_jammed mo_code mo_step mo_low mo_high mo_old mo_latest mo_cycles mo_stolen mo_interrupts mo_accesses f_mra f_mrA f_mrc f_mrk f_mpi f_mwc f_mwo f_mco f_mpo f_mky f_mla f_mcn f_mct) sz) := by
  refine Met.ofW (cc := cX7_chip) (maxL := 5) (ret := (some .int)) (by decide) rfl ?_
  intro p e s m args below meth c s₁ B hml hv
  obtain ⟨rfl, hsz, hP, hK, hD0⟩ := hv
  have hx := B.exec
  have hb := B.bytes
  have hr := B.returns
  have hts : ∀ w ∈ ub, w.before _ s = true := fun w h => atoms_spec (ws := uX7_chip) B.pre w (List.mem_cons_of_mem _ h)
  have hown : s.vm.findClass RX7 = some m.cls := findClass_of_methodNamed B.named
  have hlocks := B.notSynchronized
  subst hsz
  have hD := hD0.self (sz := s.heap.size)
  generalize hAe : va_A (wwX7 q_mo q_mra q_mrA q_mrc q_mrk q_mpi q_mwc q_mwo q_mco q_mpo q_mky q_mla q_mcn q_mct k_mra k_mrA k_mrc k_mrk k_mpi k_mwc k_mwo k_mco k_mpo k_mky k_mla k_mcn k_mct mo_port mo_line mo_cycle mo_raised mo_idle mo_bad mo_glyph mo_fetched mo_rows mo_flags2 mo_enabled mo_a mo_x mo_y mo_s mo_flags mo_p mo_jammed mo_code mo_step mo_low mo_high mo_old mo_latest mo_cycles mo_stolen mo_interrupts mo_accesses f_mra f_mrA f_mrc f_mrk f_mpi f_mwc f_mwo f_mco f_mpo f_mky f_mla f_mcn f_mct) s.heap.size = A at hD ⊢
  have hA : ∀ q : Nat, s.heap.size ≤ q → A q := fun q h => by rw [← hAe]; exact Or.inr h
  have hS : va_S A s.heap s.heap [] := va_S.rf
  have hl := lv_entry ([.ref q_mo, .int p1, .int p2]) (n := 5) (Nat.le_of_ble_eq_true rfl)
  rw [lg_entry_eq]
  generalize (lg_sl ([.ref q_mo, .int p1, .int p2]) ++ List.replicate (5 - (lg_sl ([.ref q_mo, .int p1, .int p2])).length) Slot.unset).toArray = ls at hl ⊢
  have hl : lv_has ls 5 [(0, .ref q_mo), (1, .int p1), (2, .int p2)] := hl
  have hF := fX7_chip.eq_1 p1 p2 mo_line mo_raised mo_rows mo_flags2 mo_enabled f_mpi f_mco f_mky f_mcn f_mct
  refine lv_iload_n hx hb dX7_chip_0 rfl (lv_at hl 1 rfl) ?_
  refine lv_bipush (v := 64) hx hb dX7_chip_1 (by decide) ?_
  refine lv_icmp_ge (tgt := 81) hx hb dX7_chip_3 (by decide) (fun c_3 => ?_) (fun c_3 => ?_)
  · have hF := hF.trans (if_pos c_3)
    refine lv_iload_n hx hb dX7_chip_81 rfl (lv_at hl 1 rfl) ?_
    refine lv_sipush (v := 128) hx hb dX7_chip_82 (by decide) ?_
    refine lv_icmp_lt (tgt := 110) hx hb dX7_chip_85 (by decide) (fun c_85 => ?_) (fun c_85 => ?_)
    · have hF := hF.trans (if_pos c_85)
      refine lv_iload_n hx hb dX7_chip_110 rfl (lv_at hl 1 rfl) ?_
      refine lv_bipush (v := 16) hx hb dX7_chip_111 (by decide) ?_
      refine lv_irem hx hb dX7_chip_113 (by decide) ?_
      refine lv_istore_n (lv' := [(3, .int (p1 - p1 / (16:Int32) * (16:Int32))), (0, .ref q_mo), (1, .int p1), (2, .int p2)]) hx hb dX7_chip_114 rfl hl (by decide) rfl (fun ls hl => ?_)
      refine lv_iload_n hx hb dX7_chip_115 rfl (lv_at hl 0 rfl) ?_
      refine lv_if_ne (tgt := 124) hx hb dX7_chip_116 (by decide) (fun c_116 => ?_) (fun c_116 => ?_)
      · have hF := hF.trans (if_neg c_116)
        refine lv_iload_n hx hb dX7_chip_124 rfl (lv_at hl 0 rfl) ?_
        refine lv_iconst (v := 1) hx hb dX7_chip_125 (by decide) ?_
        refine lv_icmp_ne (tgt := 134) hx hb dX7_chip_126 (by decide) (fun c_126 => ?_) (fun c_126 => ?_)
        · have hF := hF.trans (if_neg c_126)
          refine lv_iload_n hx hb dX7_chip_134 rfl (lv_at hl 0 rfl) ?_
          refine lv_iconst (v := 4) hx hb dX7_chip_135 (by decide) ?_
          refine lv_icmp_lt (tgt := 167) hx hb dX7_chip_136 (by decide) (fun c_136 => ?_) (fun c_136 => ?_)
          · have hF := hF.trans (if_pos c_136)
            refine lv_iload_n hx hb dX7_chip_167 rfl (lv_at hl 0 rfl) ?_
            refine lv_bipush (v := 14) hx hb dX7_chip_168 (by decide) ?_
            refine lv_icmp_lt (tgt := 183) hx hb dX7_chip_170 (by decide) (fun c_170 => ?_) (fun c_170 => by exact (show False from by have h1 : ¬ ((p1 - p1 / (16:Int32) * (16:Int32))).toInt < ((14:Int32)).toInt := fun q => c_170 (Int32.lt_iff_toInt_lt.mpr q); have h2 := Int32.lt_iff_toInt_lt.mp c_136; have k0 : (4:Int32).toInt = 4 := (by decide); have k1 : (14:Int32).toInt = 14 := (by decide); omega).elim)
            refine lv_iload_n hx hb dX7_chip_183 rfl (lv_at hl 0 rfl) ?_
            refine lv_bipush (v := 13) hx hb dX7_chip_184 (by decide) ?_
            refine lv_icmp_eq (tgt := 191) hx hb dX7_chip_186 (by decide) (fun c_186 => by exact (show False from by have h1 := congrArg Int32.toInt c_186; have h2 := Int32.lt_iff_toInt_lt.mp c_136; have k0 : (4:Int32).toInt = 4 := (by decide); have k1 : (13:Int32).toInt = 13 := (by decide); omega).elim) (fun c_186 => ?_)
            refine lv_iconst (v := 0) hx hb dX7_chip_189 (by decide) ?_
            exact W.iret (v := (0:Int32)) hx hb hr (fun t ht hW => ⟨⟨(0:Int32), mo_flags2, rfl, hF.symm, by rw [ht]; exact hP, va_K.moved hW.alike hK, hD⟩, hS.F ht⟩) hS.2.2 dX7_chip_190
          · have hF := hF.trans (if_neg c_136)
            refine lv_iload_n hx hb dX7_chip_139 rfl (lv_at hl 0 rfl) ?_
            refine lv_bipush (v := 8) hx hb dX7_chip_140 (by decide) ?_
            refine lv_icmp_ge (tgt := 167) hx hb dX7_chip_142 (by decide) (fun c_142 => ?_) (fun c_142 => ?_)
            · have hF := hF.trans (if_pos c_142)
              refine lv_iload_n hx hb dX7_chip_167 rfl (lv_at hl 0 rfl) ?_
              refine lv_bipush (v := 14) hx hb dX7_chip_168 (by decide) ?_
              refine lv_icmp_lt (tgt := 183) hx hb dX7_chip_170 (by decide) (fun c_170 => ?_) (fun c_170 => ?_)
              · have hF := hF.trans (if_pos c_170)
                refine lv_iload_n hx hb dX7_chip_183 rfl (lv_at hl 0 rfl) ?_
                refine lv_bipush (v := 13) hx hb dX7_chip_184 (by decide) ?_
                refine lv_icmp_eq (tgt := 191) hx hb dX7_chip_186 (by decide) (fun c_186 => ?_) (fun c_186 => ?_)
                · have hF := hF.trans (if_pos c_186)
                  refine lv_aload_n hx hb dX7_chip_191 rfl (lv_at hl 1 rfl) ?_
                  refine va_get (D := (dC, dI)) (ci := 7) (v := .int mo_flags2) (C := RX7) (T := TX7) (N := 41) hx hb hts hiX7 hown hK hP 0 rfl rfl 22 (by decide) (hts _ kFX7_95) (fun _ h9 => h9) rfl dX7_chip_192 ?_
                  refine lv_aload_n hx hb dX7_chip_195 rfl (lv_at hl 1 rfl) ?_
                  refine va_get (D := (dC, dI)) (ci := 7) (v := .int mo_flags2) (C := RX7) (T := TX7) (N := 41) hx hb hts hiX7 hown hK hP 0 rfl rfl 22 (by decide) (hts _ kFX7_95) (fun _ h9 => h9) rfl dX7_chip_196 ?_
                  refine lv_aload_n hx hb dX7_chip_199 rfl (lv_at hl 1 rfl) ?_
                  refine va_get (D := (dC, dI)) (ci := 7) (v := .int mo_enabled) (C := RX7) (T := TX7) (N := 41) hx hb hts hiX7 hown hK hP 0 rfl rfl 23 (by decide) (hts _ kFX7_98) (fun _ h9 => h9) rfl dX7_chip_200 ?_
                  refine lv_iand hx hb dX7_chip_203 ?_
                  refine vj_join (j := 214) (rest := [.int mo_flags2]) (Hyp := fun z H locs => z = (if (mo_flags2 &&& mo_enabled) = (0:Int32) then (0:Int32) else (128:Int32)) ∧ va_P (dC, dI) vwCl (wwX7 q_mo q_mra q_mrA q_mrc q_mrk q_mpi q_mwc q_mwo q_mco q_mpo q_mky q_mla q_mcn q_mct k_mra k_mrA k_mrc k_mrk k_mpi k_mwc k_mwo k_mco k_mpo k_mky k_mla k_mcn k_mct mo_port mo_line mo_cycle mo_raised mo_idle mo_bad mo_glyph mo_fetched mo_rows mo_flags2 mo_enabled mo_a mo_x mo_y mo_s mo_flags mo_p mo_jammed mo_code mo_step mo_low mo_high mo_old mo_latest mo_cycles mo_stolen mo_interrupts mo_accesses f_mra f_mrA f_mrc f_mrk f_mpi f_mwc f_mwo f_mco f_mpo f_mky f_mla f_mcn f_mct) H ∧ va_S A s.heap H locs) (fun z H locs hh => ?_) (fun J214 => ?_)
                  · obtain ⟨hz, hP, hS⟩ := hh
                    subst hz
                    refine lv_iadd hx hb dX7_chip_214 ?_
                    refine lv_istore (lv' := [(4, .int (mo_flags2 + (if (mo_flags2 &&& mo_enabled) = (0:Int32) then (0:Int32) else (128:Int32)))), (3, .int (p1 - p1 / (16:Int32) * (16:Int32))), (0, .ref q_mo), (1, .int p1), (2, .int p2)]) hx hb dX7_chip_215 hl (by decide) rfl (fun ls hl => ?_)
                    refine lv_aload_n hx hb dX7_chip_217 rfl (lv_at hl 2 rfl) ?_
                    refine lv_iload_n hx hb dX7_chip_218 rfl (lv_at hl 4 rfl) ?_
                    refine vj_join (j := 230) (rest := [.ref q_mo]) (Hyp := fun z H locs => z = (if p2 = (0:Int32) then mo_flags2 else (0:Int32)) ∧ va_P (dC, dI) vwCl (wwX7 q_mo q_mra q_mrA q_mrc q_mrk q_mpi q_mwc q_mwo q_mco q_mpo q_mky q_mla q_mcn q_mct k_mra k_mrA k_mrc k_mrk k_mpi k_mwc k_mwo k_mco k_mpo k_mky k_mla k_mcn k_mct mo_port mo_line mo_cycle mo_raised mo_idle mo_bad mo_glyph mo_fetched mo_rows mo_flags2 mo_enabled mo_a mo_x mo_y mo_s mo_flags mo_p mo_jammed mo_code mo_step mo_low mo_high mo_old mo_latest mo_cycles mo_stolen mo_interrupts mo_accesses f_mra f_mrA f_mrc f_mrk f_mpi f_mwc f_mwo f_mco f_mpo f_mky f_mla f_mcn f_mct) H ∧ va_S A s.heap H locs) (fun z H locs hh => ?_) (fun J230 => ?_)
                    · obtain ⟨hz, hP, hS⟩ := hh
                      subst hz
                      refine va_put (D := (dC, dI)) (ci := 7) (v := .int (if p2 = (0:Int32) then mo_flags2 else (0:Int32))) (ty := .int) (C := RX7) (T := TX7) (N := 41) hx hb hts hiX7 tyX7 tyX7_ok nmX7 hown hK hP hD hS 0 rfl rfl 22 (by decide) (hts _ kFX7_95) (fun _ h9 => h9) rfl (by decide +kernel) rfl rfl (Nat.le_of_ble_eq_true rfl) dX7_chip_230 (fun H locs hP hD hS => ?_)
                      have hP : va_P (dC, dI) vwCl (wwX7 q_mo q_mra q_mrA q_mrc q_mrk q_mpi q_mwc q_mwo q_mco q_mpo q_mky q_mla q_mcn q_mct k_mra k_mrA k_mrc k_mrk k_mpi k_mwc k_mwo k_mco k_mpo k_mky k_mla k_mcn k_mct mo_port mo_line mo_cycle mo_raised mo_idle mo_bad mo_glyph mo_fetched mo_rows (if p2 = (0:Int32) then mo_flags2 else (0:Int32)) mo_enabled mo_a mo_x mo_y mo_s mo_flags mo_p mo_jammed mo_code mo_step mo_low mo_high mo_old mo_latest mo_cycles mo_stolen mo_interrupts mo_accesses f_mra f_mrA f_mrc f_mrk f_mpi f_mwc f_mwo f_mco f_mpo f_mky f_mla f_mcn f_mct) H := hP
                      have hD : va_D A (wwX7 q_mo q_mra q_mrA q_mrc q_mrk q_mpi q_mwc q_mwo q_mco q_mpo q_mky q_mla q_mcn q_mct k_mra k_mrA k_mrc k_mrk k_mpi k_mwc k_mwo k_mco k_mpo k_mky k_mla k_mcn k_mct mo_port mo_line mo_cycle mo_raised mo_idle mo_bad mo_glyph mo_fetched mo_rows (if p2 = (0:Int32) then mo_flags2 else (0:Int32)) mo_enabled mo_a mo_x mo_y mo_s mo_flags mo_p mo_jammed mo_code mo_step mo_low mo_high mo_old mo_latest mo_cycles mo_stolen mo_interrupts mo_accesses f_mra f_mrA f_mrc f_mrk f_mpi f_mwc f_mwo f_mco f_mpo f_mky f_mla f_mcn f_mct) := hD
                      refine lv_iload hx hb dX7_chip_233 (lv_at hl 0 rfl) ?_
                      exact W.iret (v := (mo_flags2 + (if (mo_flags2 &&& mo_enabled) = (0:Int32) then (0:Int32) else (128:Int32)))) hx hb hr (fun t ht hW => ⟨⟨(mo_flags2 + (if (mo_flags2 &&& mo_enabled) = (0:Int32) then (0:Int32) else (128:Int32))), (if p2 = (0:Int32) then mo_flags2 else (0:Int32)), rfl, hF.symm, by rw [ht]; exact hP, va_K.moved hW.alike hK, hD⟩, hS.F ht⟩) hS.2.2 dX7_chip_235
                    · refine lv_if_eq (tgt := 226) hx hb dX7_chip_219 (by decide) (fun c_219 => ?_) (fun c_219 => ?_)
                      · refine lv_aload_n hx hb dX7_chip_226 rfl (lv_at hl 2 rfl) ?_
                        refine va_get (D := (dC, dI)) (ci := 7) (v := .int mo_flags2) (C := RX7) (T := TX7) (N := 41) hx hb hts hiX7 hown hK hP 0 rfl rfl 22 (by decide) (hts _ kFX7_95) (fun _ h9 => h9) rfl dX7_chip_227 ?_
                        exact J230 _ _ _ ⟨by rw [if_pos c_219], hP, hS⟩
                      · refine lv_iconst (v := 0) hx hb dX7_chip_222 (by decide) ?_
                        refine lv_goto (tgt := 230) hx hb dX7_chip_223 (by decide) ?_
                        exact J230 _ _ _ ⟨by rw [if_neg c_219], hP, hS⟩
                  · refine lv_if_eq (tgt := 213) hx hb dX7_chip_204 (by decide) (fun c_204 => ?_) (fun c_204 => ?_)
                    · refine lv_iconst (v := 0) hx hb dX7_chip_213 (by decide) ?_
                      exact J214 _ _ _ ⟨by rw [if_pos c_204], hP, hS⟩
                    · refine lv_sipush (v := 128) hx hb dX7_chip_207 (by decide) ?_
                      refine lv_goto (tgt := 214) hx hb dX7_chip_210 (by decide) ?_
                      exact J214 _ _ _ ⟨by rw [if_neg c_204], hP, hS⟩
                · have hF := hF.trans (if_neg c_186)
                  refine lv_iconst (v := 0) hx hb dX7_chip_189 (by decide) ?_
                  exact W.iret (v := (0:Int32)) hx hb hr (fun t ht hW => ⟨⟨(0:Int32), mo_flags2, rfl, hF.symm, by rw [ht]; exact hP, va_K.moved hW.alike hK, hD⟩, hS.F ht⟩) hS.2.2 dX7_chip_190
              · have hF := hF.trans (if_neg c_170)
                refine lv_aload_n hx hb dX7_chip_173 rfl (lv_at hl 1 rfl) ?_
                refine va_get (D := (dC, dI)) (ci := 7) (v := .ref q_mct) (C := RX7) (T := TX7) (N := 41) hx hb hts hiX7 hown hK hP 0 rfl rfl 21 (by decide) (hts _ kFX7_54) (fun _ h9 => h9) rfl dX7_chip_174 ?_
                refine lv_iload_n hx hb dX7_chip_177 rfl (lv_at hl 0 rfl) ?_
                refine lv_bipush (v := 14) hx hb dX7_chip_178 (by decide) ?_
                refine lv_isub hx hb dX7_chip_180 ?_
                refine va_iald hx hb hK hP 13 12 rfl rfl (rg_r14 ho c_170) dX7_chip_181 ?_
                exact W.iret (v := (f_mct ((p1 - p1 / (16:Int32) * (16:Int32)) - (14:Int32)).toNatClampNeg)) hx hb hr (fun t ht hW => ⟨⟨(f_mct ((p1 - p1 / (16:Int32) * (16:Int32)) - (14:Int32)).toNatClampNeg), mo_flags2, rfl, hF.symm, by rw [ht]; exact hP, va_K.moved hW.alike hK, hD⟩, hS.F ht⟩) hS.2.2 dX7_chip_182
            · have hF := hF.trans (if_neg c_142)
              refine lv_aload_n hx hb dX7_chip_145 rfl (lv_at hl 1 rfl) ?_
              refine va_get (D := (dC, dI)) (ci := 7) (v := .ref q_mcn) (C := RX7) (T := TX7) (N := 41) hx hb hts hiX7 hown hK hP 0 rfl rfl 20 (by decide) (hts _ kFX7_51) (fun _ h9 => h9) rfl dX7_chip_146 ?_
              refine lv_iload_n hx hb dX7_chip_149 rfl (lv_at hl 0 rfl) ?_
              refine lv_iconst (v := 4) hx hb dX7_chip_150 (by decide) ?_
              refine lv_isub hx hb dX7_chip_151 ?_
              refine lv_iconst (v := 2) hx hb dX7_chip_152 (by decide) ?_
              refine lv_idiv hx hb dX7_chip_153 (by decide) ?_
              refine va_iald hx hb hK hP 12 11 rfl rfl (rg_half c_136 c_142) dX7_chip_154 ?_
              refine lv_bipush (v := 8) hx hb dX7_chip_155 (by decide) ?_
              refine lv_iload_n hx hb dX7_chip_157 rfl (lv_at hl 0 rfl) ?_
              refine lv_iconst (v := 2) hx hb dX7_chip_158 (by decide) ?_
              refine lv_irem hx hb dX7_chip_159 (by decide) ?_
              refine lv_imul hx hb dX7_chip_160 ?_
              refine lv_ishr hx hb dX7_chip_161 ?_
              refine lv_sipush (v := 255) hx hb dX7_chip_162 (by decide) ?_
              refine lv_iand hx hb dX7_chip_165 ?_
              exact W.iret (v := (((f_mcn (((p1 - p1 / (16:Int32) * (16:Int32)) - (4:Int32)) / (2:Int32)).toNatClampNeg) >>> (((8:Int32) * ((p1 - p1 / (16:Int32) * (16:Int32)) - (p1 - p1 / (16:Int32) * (16:Int32)) / (2:Int32) * (2:Int32))) &&& (31:Int32))) &&& (255:Int32))) hx hb hr (fun t ht hW => ⟨⟨(((f_mcn (((p1 - p1 / (16:Int32) * (16:Int32)) - (4:Int32)) / (2:Int32)).toNatClampNeg) >>> (((8:Int32) * ((p1 - p1 / (16:Int32) * (16:Int32)) - (p1 - p1 / (16:Int32) * (16:Int32)) / (2:Int32) * (2:Int32))) &&& (31:Int32))) &&& (255:Int32)), mo_flags2, rfl, hF.symm, by rw [ht]; exact hP, va_K.moved hW.alike hK, hD⟩, hS.F ht⟩) hS.2.2 dX7_chip_166
        · have hF := hF.trans (if_pos c_126)
          refine lv_aload_n hx hb dX7_chip_129 rfl (lv_at hl 1 rfl) ?_
          have hPc := hP.sub (ws' := (wwX7 q_mo q_mra q_mrA q_mrc q_mrk q_mpi q_mwc q_mwo q_mco q_mpo q_mky q_mla q_mcn q_mct k_mra k_mrA k_mrc k_mrk k_mpi k_mwc k_mwo k_mco k_mpo k_mky k_mla k_mcn k_mct mo_port mo_line mo_cycle mo_raised mo_idle mo_bad mo_glyph mo_fetched mo_rows mo_flags2 mo_enabled mo_a mo_x mo_y mo_s mo_flags mo_p mo_jammed mo_code mo_step mo_low mo_high mo_old mo_latest mo_cycles mo_stolen mo_interrupts mo_accesses f_mra f_mrA f_mrc f_mrk f_mpi f_mwc f_mwo f_mco f_mpo f_mky f_mla f_mcn f_mct)) [0, 1, 2, 3, 4, 5, 6, 7, 8, 9, 10, 11, 12, 13] rfl
          have hDc := hD.sub (ws' := (wwX7 q_mo q_mra q_mrA q_mrc q_mrk q_mpi q_mwc q_mwo q_mco q_mpo q_mky q_mla q_mcn q_mct k_mra k_mrA k_mrc k_mrk k_mpi k_mwc k_mwo k_mco k_mpo k_mky k_mla k_mcn k_mct mo_port mo_line mo_cycle mo_raised mo_idle mo_bad mo_glyph mo_fetched mo_rows mo_flags2 mo_enabled mo_a mo_x mo_y mo_s mo_flags mo_p mo_jammed mo_code mo_step mo_low mo_high mo_old mo_latest mo_cycles mo_stolen mo_interrupts mo_accesses f_mra f_mrA f_mrc f_mrk f_mpi f_mwc f_mwo f_mco f_mpo f_mky f_mla f_mcn f_mct)) [0, 1, 2, 3, 4, 5, 6, 7, 8, 9, 10, 11, 12, 13] (by decide) rfl
          have hKc := hK.sub (tys' := [(k_mra, .int), (k_mrA, .int), (k_mrc, .int), (k_mrk, .int), (k_mpi, .int), (k_mwc, .int), (k_mwo, .int), (k_mco, .int), (k_mpo, .int), (k_mky, .int), (k_mla, .int), (k_mcn, .int), (k_mct, .int)]) [0, 1, 2, 3, 4, 5, 6, 7, 8, 9, 10, 11, 12] rfl
          have hFc := va_free (wc := (wwX7 q_mo q_mra q_mrA q_mrc q_mrk q_mpi q_mwc q_mwo q_mco q_mpo q_mky q_mla q_mcn q_mct k_mra k_mrA k_mrc k_mrk k_mpi k_mwc k_mwo k_mco k_mpo k_mky k_mla k_mcn k_mct mo_port mo_line mo_cycle mo_raised mo_idle mo_bad mo_glyph mo_fetched mo_rows mo_flags2 mo_enabled mo_a mo_x mo_y mo_s mo_flags mo_p mo_jammed mo_code mo_step mo_low mo_high mo_old mo_latest mo_cycles mo_stolen mo_interrupts mo_accesses f_mra f_mrA f_mrc f_mrk f_mpi f_mwc f_mwo f_mco f_mpo f_mky f_mla f_mcn f_mct)) hD hS hA [0, 1, 2, 3, 4, 5, 6, 7, 8, 9, 10, 11, 12, 13] rfl
          refine va_calli (va_runV (As := []) (rest := []) ⟨hx, hb, hml, hown, hts⟩ (mX7_keyboard l dC dI q_mo q_mra q_mrA q_mrc q_mrk q_mpi q_mwc q_mwo q_mco q_mpo q_mky q_mla q_mcn q_mct k_mra k_mrA k_mrc k_mrk k_mpi k_mwc k_mwo k_mco k_mpo k_mky k_mla k_mcn k_mct s.heap.size mo_port mo_line mo_cycle mo_raised mo_idle mo_bad mo_glyph mo_fetched mo_rows mo_flags2 mo_enabled mo_a mo_x mo_y mo_s mo_flags mo_p mo_jammed mo_code mo_step mo_low mo_high mo_old mo_latest mo_cycles mo_stolen mo_interrupts mo_accesses f_mra f_mrA f_mrc f_mrk f_mpi f_mwc f_mwo f_mco f_mpo f_mky f_mla f_mcn f_mct) (cwV 0 hts (ub_V kMX7_91 kYX7_keyboard kSX7_keyboard kIX7 kBX7_keyboard) rfl rfl rfl (by decide +kernel) ⟨Nat.le_of_ble_eq_true rfl, Nat.le_of_ble_eq_true rfl⟩) ⟨fun a U g mk q => by obtain ⟨q0, q1, qP, qK, qD⟩ := q; exact ⟨q0, q1, qP, va_K.moved (u := U) (U := U.calling g mk a) (Vm.Alike.refl U.vm) qK, qD⟩, va_recv hKc hPc (ci := 7) (q0 := 0) rfl rfl, fun U hU hW => ⟨rfl, by rw [hU], by rw [hU]; exact hPc, va_K.moved hW.alike hKc, hDc.weaken (fun _ _ _ _ => trivial)⟩⟩ rfl rfl hl.1 rfl (lv_room (Nat.le_of_ble_eq_true rfl)) dX7_chip_130 ⟨(Nat.zero_le _), (Nat.zero_le _)⟩) hS (fun q _ h => hFc q h) hFc (fun r_130 u_130 t H locs ht hvm hw hB hz1 hk1 hS => ?_)
          obtain ⟨hP1, hK1, hD1⟩ := hB
          rw [ht] at hP1
          subst hw
          obtain ⟨hP, hD⟩ := vb_bk2 (wc := (wwX7 q_mo q_mra q_mrA q_mrc q_mrk q_mpi q_mwc q_mwo q_mco q_mpo q_mky q_mla q_mcn q_mct k_mra k_mrA k_mrc k_mrk k_mpi k_mwc k_mwo k_mco k_mpo k_mky k_mla k_mcn k_mct mo_port mo_line mo_cycle mo_raised mo_idle mo_bad mo_glyph mo_fetched mo_rows mo_flags2 mo_enabled mo_a mo_x mo_y mo_s mo_flags mo_p mo_jammed mo_code mo_step mo_low mo_high mo_old mo_latest mo_cycles mo_stolen mo_interrupts mo_accesses f_mra f_mrA f_mrc f_mrk f_mpi f_mwc f_mwo f_mco f_mpo f_mky f_mla f_mcn f_mct)) (ws' := (wwX7 q_mo q_mra q_mrA q_mrc q_mrk q_mpi q_mwc q_mwo q_mco q_mpo q_mky q_mla q_mcn q_mct k_mra k_mrA k_mrc k_mrk k_mpi k_mwc k_mwo k_mco k_mpo k_mky k_mla k_mcn k_mct mo_port mo_line mo_cycle mo_raised mo_idle mo_bad mo_glyph mo_fetched mo_rows mo_flags2 mo_enabled mo_a mo_x mo_y mo_s mo_flags mo_p mo_jammed mo_code mo_step mo_low mo_high mo_old mo_latest mo_cycles mo_stolen mo_interrupts mo_accesses f_mra f_mrA f_mrc f_mrk f_mpi f_mwc f_mwo f_mco f_mpo f_mky f_mla f_mcn f_mct)) hP hD hD1 [0, 1, 2, 3, 4, 5, 6, 7, 8, 9, 10, 11, 12, 13] [] rfl [q_mo, q_mra, q_mrA, q_mrc, q_mrk, q_mpi, q_mwc, q_mwo, q_mco, q_mpo, q_mky, q_mla, q_mcn, q_mct] rfl rfl ae_n rfl rfl hk1 hP1
          exact W.iret (v := (fX7_keyboard mo_rows f_mky)) hx hb hr (fun t ht hW => ⟨⟨(fX7_keyboard mo_rows f_mky), mo_flags2, rfl, hF.symm, by rw [ht]; exact hP, va_K.moved hW.alike hK, hD⟩, hS.F ht⟩) hS.2.2 dX7_chip_133
      · have hF := hF.trans (if_pos c_116)
        refine lv_aload_n hx hb dX7_chip_119 rfl (lv_at hl 1 rfl) ?_
        refine va_get (D := (dC, dI)) (ci := 7) (v := .int mo_rows) (C := RX7) (T := TX7) (N := 41) hx hb hts hiX7 hown hK hP 0 rfl rfl 17 (by decide) (hts _ kFX7_82) (fun _ h9 => h9) rfl dX7_chip_120 ?_
        exact W.iret (v := mo_rows) hx hb hr (fun t ht hW => ⟨⟨mo_rows, mo_flags2, rfl, hF.symm, by rw [ht]; exact hP, va_K.moved hW.alike hK, hD⟩, hS.F ht⟩) hS.2.2 dX7_chip_123
    · have hF := hF.trans (if_neg c_85)
      refine lv_iload_n hx hb dX7_chip_88 rfl (lv_at hl 1 rfl) ?_
      refine lv_sipush (v := 152) hx hb dX7_chip_89 (by decide) ?_
      refine vj_join (j := 109) (rest := []) (Hyp := fun z H locs => z = (if (152:Int32) ≤ p1 then (0:Int32) else (f_mco (p1 - (128:Int32)).toNatClampNeg)) ∧ va_P (dC, dI) vwCl (wwX7 q_mo q_mra q_mrA q_mrc q_mrk q_mpi q_mwc q_mwo q_mco q_mpo q_mky q_mla q_mcn q_mct k_mra k_mrA k_mrc k_mrk k_mpi k_mwc k_mwo k_mco k_mpo k_mky k_mla k_mcn k_mct mo_port mo_line mo_cycle mo_raised mo_idle mo_bad mo_glyph mo_fetched mo_rows mo_flags2 mo_enabled mo_a mo_x mo_y mo_s mo_flags mo_p mo_jammed mo_code mo_step mo_low mo_high mo_old mo_latest mo_cycles mo_stolen mo_interrupts mo_accesses f_mra f_mrA f_mrc f_mrk f_mpi f_mwc f_mwo f_mco f_mpo f_mky f_mla f_mcn f_mct) H ∧ va_S A s.heap H locs) (fun z H locs hh => ?_) (fun J109 => ?_)
      · obtain ⟨hz, hP, hS⟩ := hh
        subst hz
        exact W.iret (v := (if (152:Int32) ≤ p1 then (0:Int32) else (f_mco (p1 - (128:Int32)).toNatClampNeg))) hx hb hr (fun t ht hW => ⟨⟨(if (152:Int32) ≤ p1 then (0:Int32) else (f_mco (p1 - (128:Int32)).toNatClampNeg)), mo_flags2, rfl, hF.symm, by rw [ht]; exact hP, va_K.moved hW.alike hK, hD⟩, hS.F ht⟩) hS.2.2 dX7_chip_109
      · refine lv_icmp_ge (tgt := 108) hx hb dX7_chip_92 (by decide) (fun c_92 => ?_) (fun c_92 => ?_)
        · refine lv_iconst (v := 0) hx hb dX7_chip_108 (by decide) ?_
          exact J109 _ _ _ ⟨by rw [if_pos c_92], hP, hS⟩
        · refine lv_aload_n hx hb dX7_chip_95 rfl (lv_at hl 0 rfl) ?_
          refine va_get (D := (dC, dI)) (ci := 7) (v := .ref q_mco) (C := RX7) (T := TX7) (N := 41) hx hb hts hiX7 hown hK hP 0 rfl rfl 15 (by decide) (hts _ kFX7_39) (fun _ h9 => h9) rfl dX7_chip_96 ?_
          refine lv_iload_n hx hb dX7_chip_99 rfl (lv_at hl 1 rfl) ?_
          refine lv_sipush (v := 128) hx hb dX7_chip_100 (by decide) ?_
          refine lv_isub hx hb dX7_chip_103 ?_
          refine va_iald hx hb hK hP 8 7 rfl rfl (rg_offn 128 24 c_85 c_92 (by decide)) dX7_chip_104 ?_
          refine lv_goto (tgt := 109) hx hb dX7_chip_105 (by decide) ?_
          exact J109 _ _ _ ⟨by rw [if_neg c_92], hP, hS⟩
  · have hF := hF.trans (if_neg c_3)
    refine lv_iload_n hx hb dX7_chip_6 rfl (lv_at hl 1 rfl) ?_
    refine lv_bipush (v := 16) hx hb dX7_chip_7 (by decide) ?_
    refine lv_irem hx hb dX7_chip_9 (by decide) ?_
    refine lv_istore_n (lv' := [(3, .int (p1 - p1 / (16:Int32) * (16:Int32))), (0, .ref q_mo), (1, .int p1), (2, .int p2)]) hx hb dX7_chip_10 rfl hl (by decide) rfl (fun ls hl => ?_)
    refine lv_iload_n hx hb dX7_chip_11 rfl (lv_at hl 0 rfl) ?_
    refine lv_iconst (v := 1) hx hb dX7_chip_12 (by decide) ?_
    refine lv_icmp_ne (tgt := 21) hx hb dX7_chip_13 (by decide) (fun c_13 => ?_) (fun c_13 => ?_)
    · have hF := hF.trans (if_neg c_13)
      refine lv_iload_n hx hb dX7_chip_21 rfl (lv_at hl 0 rfl) ?_
      refine lv_iconst (v := 4) hx hb dX7_chip_22 (by decide) ?_
      refine lv_icmp_ne (tgt := 64) hx hb dX7_chip_23 (by decide) (fun c_23 => ?_) (fun c_23 => ?_)
      · have hF := hF.trans (if_neg c_23)
        refine lv_iload_n hx hb dX7_chip_64 rfl (lv_at hl 0 rfl) ?_
        refine lv_bipush (v := 7) hx hb dX7_chip_65 (by decide) ?_
        refine vj_join (j := 80) (rest := []) (Hyp := fun z H locs => z = (if (7:Int32) ≤ (p1 - p1 / (16:Int32) * (16:Int32)) then (0:Int32) else (f_mpi (p1 - p1 / (16:Int32) * (16:Int32)).toNatClampNeg)) ∧ va_P (dC, dI) vwCl (wwX7 q_mo q_mra q_mrA q_mrc q_mrk q_mpi q_mwc q_mwo q_mco q_mpo q_mky q_mla q_mcn q_mct k_mra k_mrA k_mrc k_mrk k_mpi k_mwc k_mwo k_mco k_mpo k_mky k_mla k_mcn k_mct mo_port mo_line mo_cycle mo_raised mo_idle mo_bad mo_glyph mo_fetched mo_rows mo_flags2 mo_enabled mo_a mo_x mo_y mo_s mo_flags mo_p mo_jammed mo_code mo_step mo_low mo_high mo_old mo_latest mo_cycles mo_stolen mo_interrupts mo_accesses f_mra f_mrA f_mrc f_mrk f_mpi f_mwc f_mwo f_mco f_mpo f_mky f_mla f_mcn f_mct) H ∧ va_S A s.heap H locs) (fun z H locs hh => ?_) (fun J80 => ?_)
        · obtain ⟨hz, hP, hS⟩ := hh
          subst hz
          exact W.iret (v := (if (7:Int32) ≤ (p1 - p1 / (16:Int32) * (16:Int32)) then (0:Int32) else (f_mpi (p1 - p1 / (16:Int32) * (16:Int32)).toNatClampNeg))) hx hb hr (fun t ht hW => ⟨⟨(if (7:Int32) ≤ (p1 - p1 / (16:Int32) * (16:Int32)) then (0:Int32) else (f_mpi (p1 - p1 / (16:Int32) * (16:Int32)).toNatClampNeg)), mo_flags2, rfl, hF.symm, by rw [ht]; exact hP, va_K.moved hW.alike hK, hD⟩, hS.F ht⟩) hS.2.2 dX7_chip_80
        · refine lv_icmp_ge (tgt := 79) hx hb dX7_chip_67 (by decide) (fun c_67 => ?_) (fun c_67 => ?_)
          · refine lv_iconst (v := 0) hx hb dX7_chip_79 (by decide) ?_
            exact J80 _ _ _ ⟨by rw [if_pos c_67], hP, hS⟩
          · refine lv_aload_n hx hb dX7_chip_70 rfl (lv_at hl 1 rfl) ?_
            refine va_get (D := (dC, dI)) (ci := 7) (v := .ref q_mpi) (C := RX7) (T := TX7) (N := 41) hx hb hts hiX7 hown hK hP 0 rfl rfl 5 (by decide) (hts _ kFX7_26) (fun _ h9 => h9) rfl dX7_chip_71 ?_
            refine lv_iload_n hx hb dX7_chip_74 rfl (lv_at hl 0 rfl) ?_
            refine va_iald hx hb hK hP 5 4 rfl rfl (rg_lt (rg_nn (rg_r16 ho)) c_67 (by decide)) dX7_chip_75 ?_
            refine lv_goto (tgt := 80) hx hb dX7_chip_76 (by decide) ?_
            exact J80 _ _ _ ⟨by rw [if_neg c_67], hP, hS⟩
      · have hF := hF.trans (if_pos c_23)
        refine lv_aload_n hx hb dX7_chip_26 rfl (lv_at hl 1 rfl) ?_
        refine va_get (D := (dC, dI)) (ci := 7) (v := .int mo_raised) (C := RX7) (T := TX7) (N := 41) hx hb hts hiX7 hown hK hP 0 rfl rfl 8 (by decide) (hts _ kFX7_88) (fun _ h9 => h9) rfl dX7_chip_27 ?_
        refine vj_join (j := 38) (rest := []) (Hyp := fun z H locs => z = (if mo_raised = (0:Int32) then (0:Int32) else (1:Int32)) ∧ va_P (dC, dI) vwCl (wwX7 q_mo q_mra q_mrA q_mrc q_mrk q_mpi q_mwc q_mwo q_mco q_mpo q_mky q_mla q_mcn q_mct k_mra k_mrA k_mrc k_mrk k_mpi k_mwc k_mwo k_mco k_mpo k_mky k_mla k_mcn k_mct mo_port mo_line mo_cycle mo_raised mo_idle mo_bad mo_glyph mo_fetched mo_rows mo_flags2 mo_enabled mo_a mo_x mo_y mo_s mo_flags mo_p mo_jammed mo_code mo_step mo_low mo_high mo_old mo_latest mo_cycles mo_stolen mo_interrupts mo_accesses f_mra f_mrA f_mrc f_mrk f_mpi f_mwc f_mwo f_mco f_mpo f_mky f_mla f_mcn f_mct) H ∧ va_S A s.heap H locs) (fun z H locs hh => ?_) (fun J38 => ?_)
        · obtain ⟨hz, hP, hS⟩ := hh
          subst hz
          refine lv_aload_n hx hb dX7_chip_38 rfl (lv_at hl 1 rfl) ?_
          refine va_get (D := (dC, dI)) (ci := 7) (v := .int mo_raised) (C := RX7) (T := TX7) (N := 41) hx hb hts hiX7 hown hK hP 0 rfl rfl 8 (by decide) (hts _ kFX7_88) (fun _ h9 => h9) rfl dX7_chip_39 ?_
          refine vj_join (j := 62) (rest := [.int (if mo_raised = (0:Int32) then (0:Int32) else (1:Int32))]) (Hyp := fun z H locs => z = (if mo_raised = (0:Int32) then (0:Int32) else (if (f_mpi (5:Int32).toNatClampNeg) = (1:Int32) then (128:Int32) else (0:Int32))) ∧ va_P (dC, dI) vwCl (wwX7 q_mo q_mra q_mrA q_mrc q_mrk q_mpi q_mwc q_mwo q_mco q_mpo q_mky q_mla q_mcn q_mct k_mra k_mrA k_mrc k_mrk k_mpi k_mwc k_mwo k_mco k_mpo k_mky k_mla k_mcn k_mct mo_port mo_line mo_cycle mo_raised mo_idle mo_bad mo_glyph mo_fetched mo_rows mo_flags2 mo_enabled mo_a mo_x mo_y mo_s mo_flags mo_p mo_jammed mo_code mo_step mo_low mo_high mo_old mo_latest mo_cycles mo_stolen mo_interrupts mo_accesses f_mra f_mrA f_mrc f_mrk f_mpi f_mwc f_mwo f_mco f_mpo f_mky f_mla f_mcn f_mct) H ∧ va_S A s.heap H locs) (fun z H locs hh => ?_) (fun J62 => ?_)
          · obtain ⟨hz, hP, hS⟩ := hh
            subst hz
            refine lv_iadd hx hb dX7_chip_62 ?_
            exact W.iret (v := ((if mo_raised = (0:Int32) then (0:Int32) else (1:Int32)) + (if mo_raised = (0:Int32) then (0:Int32) else (if (f_mpi (5:Int32).toNatClampNeg) = (1:Int32) then (128:Int32) else (0:Int32))))) hx hb hr (fun t ht hW => ⟨⟨((if mo_raised = (0:Int32) then (0:Int32) else (1:Int32)) + (if mo_raised = (0:Int32) then (0:Int32) else (if (f_mpi (5:Int32).toNatClampNeg) = (1:Int32) then (128:Int32) else (0:Int32)))), mo_flags2, rfl, hF.symm, by rw [ht]; exact hP, va_K.moved hW.alike hK, hD⟩, hS.F ht⟩) hS.2.2 dX7_chip_63
          · refine lv_if_eq (tgt := 61) hx hb dX7_chip_42 (by decide) (fun c_42 => ?_) (fun c_42 => ?_)
            · refine lv_iconst (v := 0) hx hb dX7_chip_61 (by decide) ?_
              exact J62 _ _ _ ⟨by rw [if_pos c_42], hP, hS⟩
            · refine lv_aload_n hx hb dX7_chip_45 rfl (lv_at hl 1 rfl) ?_
              refine va_get (D := (dC, dI)) (ci := 7) (v := .ref q_mpi) (C := RX7) (T := TX7) (N := 41) hx hb hts hiX7 hown hK hP 0 rfl rfl 5 (by decide) (hts _ kFX7_26) (fun _ h9 => h9) rfl dX7_chip_46 ?_
              refine lv_iconst (v := 5) hx hb dX7_chip_49 (by decide) ?_
              refine va_iald hx hb hK hP 5 4 rfl rfl (by unfold vp_in; decide) dX7_chip_50 ?_
              refine lv_iconst (v := 1) hx hb dX7_chip_51 (by decide) ?_
              refine lv_icmp_ne (tgt := 61) hx hb dX7_chip_52 (by decide) (fun c_52 => ?_) (fun c_52 => ?_)
              · refine lv_iconst (v := 0) hx hb dX7_chip_61 (by decide) ?_
                exact J62 _ _ _ ⟨by rw [if_neg c_42, if_neg c_52], hP, hS⟩
              · refine lv_sipush (v := 128) hx hb dX7_chip_55 (by decide) ?_
                refine lv_goto (tgt := 62) hx hb dX7_chip_58 (by decide) ?_
                exact J62 _ _ _ ⟨by rw [if_neg c_42, if_pos c_52], hP, hS⟩
        · refine lv_if_eq (tgt := 37) hx hb dX7_chip_30 (by decide) (fun c_30 => ?_) (fun c_30 => ?_)
          · refine lv_iconst (v := 0) hx hb dX7_chip_37 (by decide) ?_
            exact J38 _ _ _ ⟨by rw [if_pos c_30], hP, hS⟩
          · refine lv_iconst (v := 1) hx hb dX7_chip_33 (by decide) ?_
            refine lv_goto (tgt := 38) hx hb dX7_chip_34 (by decide) ?_
            exact J38 _ _ _ ⟨by rw [if_neg c_30], hP, hS⟩
    · have hF := hF.trans (if_pos c_13)
      refine lv_aload_n hx hb dX7_chip_16 rfl (lv_at hl 1 rfl) ?_
      refine va_get (D := (dC, dI)) (ci := 7) (v := .int mo_line) (C := RX7) (T := TX7) (N := 41) hx hb hts hiX7 hown hK hP 0 rfl rfl 6 (by decide) (hts _ kFX7_85) (fun _ h9 => h9) rfl dX7_chip_17 ?_
      exact W.iret (v := mo_line) hx hb hr (fun t ht hW => ⟨⟨mo_line, mo_flags2, rfl, hF.symm, by rw [ht]; exact hP, va_K.moved hW.alike hK, hD⟩, hS.F ht⟩) hS.2.2 dX7_chip_20
