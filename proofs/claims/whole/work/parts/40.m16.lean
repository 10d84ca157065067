def fX7_stackStep (mo_port : Int32) (mo_line : Int32) (mo_raised : Int32) (mo_rows : Int32) (mo_flags2 : Int32) (mo_enabled : Int32) (mo_a : Int32) (mo_s : Int32) (mo_flags : Int32) (mo_p : Int32) (mo_code : Int32) (mo_step : Int32) (mo_latest : Int32) (mo_accesses : Int32) (f_mra : Nat → Int32) (f_mrA : Nat → Int32) (f_mrc : Nat → Int32) (f_mrk : Nat → Int32) (f_mpi : Nat → Int32) (f_mco : Nat → Int32) (f_mky : Nat → Int32) (f_mla : Nat → Int32) (f_mcn : Nat → Int32) (f_mct : Nat → Int32) : Int32 × Int32 × Int32 × Int32 × Int32 × Int32 × Int32 × Int32 × Int32 × Int32 × Int32 × (Nat → Int32) × (Nat → Int32) × (Nat → Int32) × (Nat → Int32) × (Nat → Int32) × (Nat → Int32) :=
  if mo_step = (1:Int32) then
   match (fX7_read mo_p mo_port mo_line mo_raised mo_rows mo_flags2 mo_enabled mo_accesses f_mra f_mrA f_mrc f_mrk f_mpi f_mco f_mky f_mcn f_mct) with
   | (r_13, mo_flags2_13, mo_latest_13, mo_accesses_13) =>
    if mo_code = (72:Int32) then
     (mo_port, mo_raised, mo_rows, mo_flags2_13, mo_enabled, mo_a, mo_s, mo_flags, (mo_step + (1:Int32)), mo_latest_13, mo_accesses_13, f_mra, f_mpi, f_mco, f_mla, f_mcn, f_mct)
    else
     if mo_code = (104:Int32) then
      (mo_port, mo_raised, mo_rows, mo_flags2_13, mo_enabled, mo_a, mo_s, mo_flags, (mo_step + (1:Int32)), mo_latest_13, mo_accesses_13, f_mra, f_mpi, f_mco, f_mla, f_mcn, f_mct)
     else
      (mo_port, mo_raised, mo_rows, mo_flags2_13, mo_enabled, mo_a, mo_s, mo_flags, (mo_step + (1:Int32)), mo_latest_13, mo_accesses_13, f_mra, f_mpi, f_mco, f_mla, f_mcn, f_mct)
  else
   if mo_code = (72:Int32) then
    if mo_step = (2:Int32) then
     match (fX7_push mo_a mo_port mo_raised mo_rows mo_enabled mo_s mo_accesses f_mra f_mpi f_mco f_mla f_mcn f_mct) with
     | (mo_port_39, mo_raised_39, mo_rows_39, mo_enabled_39, mo_s_39, mo_latest_39, mo_accesses_39, f_mra_39, f_mpi_39, f_mco_39, f_mla_39, f_mcn_39, f_mct_39) =>
      (mo_port_39, mo_raised_39, mo_rows_39, mo_flags2, mo_enabled_39, mo_a, mo_s_39, mo_flags, (0:Int32), mo_latest_39, mo_accesses_39, f_mra_39, f_mpi_39, f_mco_39, f_mla_39, f_mcn_39, f_mct_39)
    else
     (mo_port, mo_raised, mo_rows, mo_flags2, mo_enabled, mo_a, mo_s, mo_flags, (mo_step + (1:Int32)), mo_latest, mo_accesses, f_mra, f_mpi, f_mco, f_mla, f_mcn, f_mct)
   else
    if mo_code = (104:Int32) then
     if mo_step = (2:Int32) then
      match (fX7_pull (1:Int32) mo_port mo_line mo_raised mo_rows mo_flags2 mo_enabled mo_s mo_accesses f_mra f_mrA f_mrc f_mrk f_mpi f_mco f_mky f_mcn f_mct) with
      | (r_61, mo_flags2_61, mo_s_61, mo_latest_61, mo_accesses_61) =>
       (mo_port, mo_raised, mo_rows, mo_flags2_61, mo_enabled, mo_a, mo_s_61, mo_flags, (mo_step + (1:Int32)), mo_latest_61, mo_accesses_61, f_mra, f_mpi, f_mco, f_mla, f_mcn, f_mct)
     else
      if mo_step = (3:Int32) then
       match (fX7_pull (0:Int32) mo_port mo_line mo_raised mo_rows mo_flags2 mo_enabled mo_s mo_accesses f_mra f_mrA f_mrc f_mrk f_mpi f_mco f_mky f_mcn f_mct) with
       | (r_86, mo_flags2_86, mo_s_86, mo_latest_86, mo_accesses_86) =>
        match (fX7_judged r_86 mo_flags) with
        | (r_89, mo_flags_89) =>
         (mo_port, mo_raised, mo_rows, mo_flags2_86, mo_enabled, r_89, mo_s_86, mo_flags_89, (0:Int32), mo_latest_86, mo_accesses_86, f_mra, f_mpi, f_mco, f_mla, f_mcn, f_mct)
      else
       (mo_port, mo_raised, mo_rows, mo_flags2, mo_enabled, mo_a, mo_s, mo_flags, (mo_step + (1:Int32)), mo_latest, mo_accesses, f_mra, f_mpi, f_mco, f_mla, f_mcn, f_mct)
    else
     (mo_port, mo_raised, mo_rows, mo_flags2, mo_enabled, mo_a, mo_s, mo_flags, (if mo_step = (3:Int32) then (0:Int32) else (mo_step + (1:Int32))), mo_latest, mo_accesses, f_mra, f_mpi, f_mco, f_mla, f_mcn, f_mct)
set_option maxHeartbeats 4000000 in
set_option maxRecDepth 100000 in
theorem mX7_stackStep (l : Launch) (dC : Nat → ClassId) (dI : Nat → Nat → Nat) (q_mo q_mra q_mrA q_mrc q_mrk q_mpi q_mwc q_mwo q_mco q_mpo q_mky q_mla q_mcn q_mct : Nat) (k_mra k_mrA k_mrc k_mrk k_mpi k_mwc k_mwo k_mco k_mpo k_mky k_mla k_mcn k_mct : ClassId) (sz : Nat) (mo_port mo_line mo_cycle mo_raised mo_idle mo_bad mo_glyph mo_fetched mo_rows mo_flags2 mo_enabled mo_a mo_x mo_y mo_s mo_flags mo_p mo_jammed mo_code mo_step mo_low mo_high mo_old mo_latest mo_cycles mo_stolen mo_interrupts mo_accesses : Int32) (f_mra f_mrA f_mrc f_mrk f_mpi f_mwc f_mwo f_mco f_mpo f_mky f_mla f_mcn f_mct : Nat → Int32) (hp : vp_in mo_p 65536) (hs_ : vp_in mo_s 256) : Met l yX7_stackStep uX7_stackStep ({ frames := 5, cells := 0, slots := 0, locals := 111 }) (va_Pc [.ref q_mo] (fun U => U.heap.size = sz ∧ va_P (dC, dI) vwCl (wwX7 q_mo q_mra q_mrA q_mrc q_mrk q_mpi q_mwc q_mwo q_mco q_mpo q_mky q_mla q_mcn q_mct k_mra k_mrA k_mrc k_mrk k_mpi k_mwc k_mwo k_mco k_mpo k_mky k_mla k_mcn k_mct mo_port mo_line mo_cycle mo_raised mo_idle mo_bad mo_glyph mo_fetched mo_rows mo_flags2 mo_enabled mo_a mo_x mo_y mo_s mo_flags mo_p mo_jammed mo_code mo_step mo_low mo_high mo_old mo_latest mo_cycles mo_stolen mo_interrupts mo_accesses f_mra f_mrA f_mrc f_mrk f_mpi f_mwc f_mwo f_mco f_mpo f_mky f_mla f_mcn f_mct) U.heap ∧ va_K (dC, dI) vwCl [(k_mra, .int), (k_mrA, .int), (k_mrc, .int), (k_mrk, .int), (k_mpi, .int), (k_mwc, .int), (k_mwo, .int), (k_mco, .int), (k_mpo, .int), (k_mky, .int), (k_mla, .int), (k_mcn, .int), (k_mct, .int)] U ∧ va_D (fun _ => True) (wwX7 q_mo q_mra q_mrA q_mrc q_mrk q_mpi q_mwc q_mwo q_mco q_mpo q_mky q_mla q_mcn q_mct k_mra k_mrA k_mrc k_mrk k_mpi k_mwc k_mwo k_mco k_mpo k_mky k_mla k_mcn k_mct mo_port mo_line mo_cycle mo_raised mo_idle mo_bad mo_glyph mo_fetched mo_rows mo_flags2 mo_enabled mo_a mo_x mo_y mo_s mo_flags mo_p mo_jammed mo_code mo_step mo_low mo_high mo_old mo_latest mo_cycles mo_stolen mo_interrupts mo_accesses f_mra f_mrA f_mrc f_mrk f_mpi f_mwc f_mwo f_mco f_mpo f_mky f_mla f_mcn f_mct))) (va_Qv (fun (u : Int32 × Int32 × Int32 × Int32 × Int32 × Int32 × Int32 × Int32 × Int32 × Int32 × Int32 × (Nat → Int32) × (Nat → Int32) × (Nat → Int32) × (Nat → Int32) × (Nat → Int32) × (Nat → Int32)) => u = fX7_stackStep mo_port mo_line mo_raised mo_rows mo_flags2 mo_enabled mo_a mo_s mo_flags mo_p mo_code mo_step mo_latest mo_accesses f_mra f_mrA f_mrc f_mrk f_mpi f_mco f_mky f_mla f_mcn f_mct) (fun (u : Int32 × Int32 × Int32 × Int32 × Int32 × Int32 × Int32 × Int32 × Int32 × Int32 × Int32 × (Nat → Int32) × (Nat → Int32) × (Nat → Int32) × (Nat → Int32) × (Nat → Int32) × (Nat → Int32)) (t : State) => va_P (dC, dI) vwCl (wwX7 q_mo q_mra q_mrA q_mrc q_mrk q_mpi q_mwc q_mwo q_mco q_mpo q_mky q_mla q_mcn q_mct k_mra k_mrA k_mrc k_mrk k_mpi k_mwc k_mwo k_mco k_mpo k_mky k_mla k_mcn k_mct u.1 mo_line mo_cycle u.2.1 mo_idle mo_bad mo_glyph mo_fetched u.2.2.1 u.2.2.2.1 u.2.2.2.2.1 u.2.2.2.2.2.1 mo_x mo_y u.2.2.2.2.2.2.1 u.2.2.2.2.2.2.2.1 mo_p mo_jammed mo_code u.2.2.2.2.2.2.2.2.1 mo_low mo_high mo_old u.2.2.2.2.2.2.2.2.2.1 mo_cycles mo_stolen mo_interrupts u.2.2.2.2.2.2.2.2.2.2.1 u.2.2.2.2.2.2.2.2.2.2.2.1 f_mrA f_mrc f_mrk u.2.2.2.2.2.2.2.2.2.2.2.2.1 f_mwc f_mwo u.2.2.2.2.2.2.2.2.2.2.2.2.2.1 f_mpo f_mky u.2.2.2.2.2.2.2.2.2.2.2.2.2.2.1 u.2.2.2.2.2.2.2.2.2.2.2.2.2.2.2.1 u.2.2.2.2.2.2.2.2.2.2.2.2.2.2.2.2) t.heap ∧ va_K (dC, dI) vwCl [(k_mra, .int), (k_mrA, .int), (k_mrc, .int), (k_mrk, .int), (k_mpi, .int), (k_mwc, .int), (k_mwo, .int), (k_mco, .int), (k_mpo, .int), (k_mky, .int), (k_mla, .int), (k_mcn, .int), (k_mct, .int)] t ∧ va_D (va_A (wwX7 q_mo q_mra q_mrA q_mrc q_mrk q_mpi q_mwc q_mwo q_mco q_mpo q_mky q_mla q_mcn q_mct k_mra k_mrA k_mrc k_mrk k_mpi k_mwc k_mwo k_mco k_mpo k_mky k_mla k_mcn k_mct mo_port mo_line mo_cycle mo_raised mo_idle mo_bad mo_glyph mo_fetched mo_rows mo_flags2 mo_enabled mo_a mo_x mo_y mo_s mo_flags mo_p mo_jammed mo_code mo_step mo_low mo_high mo_old mo_latest mo_cycles mo_stolen mo_interrupts mo_accesses f_mra f_mrA f_mrc f_mrk f_mpi f_mwc f_mwo f_mco f_mpo f_mky f_mla f_mcn f_mct) sz) (wwX7 q_mo q_mra q_mrA q_mrc q_mrk q_mpi q_mwc q_mwo q_mco q_mpo q_mky q_mla q_mcn q_mct k_mra k_mrA k_mrc k_mrk k_mpi k_mwc k_mwo k_mco k_mpo k_mky k_mla k_mcn k_mct u.1 mo_line mo_cycle u.2.1 mo_idle mo_bad mo_glyph mo_fetched u.2.2.1 u.2.2.2.1 u.2.2.2.2.1 u.2.2.2.2.2.1 mo_x mo_y u.2.2.2.2.2.2.1 u.2.2.2.2.2.2.2.1 mo_p mo_jammed mo_code u.2.2.2.2.2.2.2.2.1 mo_low mo_high mo_old u.2.2.2.2.2.2.2.2.2.1 mo_cycles mo_stolen mo_interrupts u.2.2.2.2.2.2.2.2.2.2.1 u.2.2.2.2.2.2.2.2.2.2.2.1 f_mrA f_mrc f_mrk u.2.2.2.2.2.2.2.2.2.2.2.2.1 f_mwc f_mwo u.2.2.2.2.2.2.2.2.2.2.2.2.2.1 f_mpo f_mky u.2.2.2.2.2.2.2.2.2.2.2.2.2.2.1 u.2.2.2.2.2.2.2.2.2.2.2.2.2.2.2.1 u.2.2.2.2.2.2.2.2.2.2.2.2.2.2.2.2)) (va_A (wwX7 q_mo q_mra q_mrA q_mrc q_mrk q_mpi q_mwc q_mwo q_mco q_mpo q_mky q_mla q_mcn q_mct k_mra k_mrA k_mrc k_mrk k_mpi k_mwc k_mwo k_mco k_mpo k_mky k_mla k_mcn k_mct mo_port mo_line mo_cycle mo_raised mo_idle mo_bad mo_glyph mo_fetched mo_rows mo_flags2 mo_enabled mo_a mo_x mo_y mo_s mo_flags mo_p mo_jammed mo_code mo_step mo_low mo_high mo_old mo_latest mo_cycles mo_stolen mo_interrupts mo_accesses f_mra f_mrA f_mrc f_mrk f_mpi f_mwc f_mwo f_mco f_mpo f_mky f_mla f_mcn f_mct) sz)) 0 0 (va_A (wwX7 q_mo q_mra q_mrA q_mrc q_mrk q_mpi q_mwc q_mwo q_mco q_mpo q_mky q_mla q_mcn q_mct k_mra k_mrA k_mrc k_mrk k_mpi k_mwc k_mwo k_mco k_mpo k_mky k_mla k_mcn k_mct mo_port mo_line mo_cycle mo_raised mo_idle mo_bad mo_glyph mo_fetched mo_rows mo_flags2 mo_enabled mo_a mo_x mo_y mo_s mo_flags mo_p mo_jammed mo_code mo_step mo_low mo_high mo_old mo_latest mo_cycles mo_stolen mo_interrupts mo_accesses f_mra f_mrA f_mrc f_mrk f_mpi f_mwc f_mwo f_mco f_mpo f_mky f_mla f_mcn f_mct) sz) := by
  refine Met.ofW (cc := cX7_stackStep) (maxL := 1) (ret := none) (by decide) rfl ?_
  intro p e s m args below meth c s₁ B hml hv
  obtain ⟨rfl, hsz, hP, hK, hD0⟩ := hv
  have hx := B.exec
  have hb := B.bytes
  have hr := B.returns
  have hts : ∀ w ∈ ub, w.before _ s = true := fun w h => atoms_spec (ws := uX7_stackStep) B.pre w (List.mem_cons_of_mem _ h)
  have hown : s.vm.findClass RX7 = some m.cls := findClass_of_methodNamed B.named
  have hlocks := B.notSynchronized
  subst hsz
  have hD := hD0.self (sz := s.heap.size)
  generalize hAe : va_A (wwX7 q_mo q_mra q_mrA q_mrc q_mrk q_mpi q_mwc q_mwo q_mco q_mpo q_mky q_mla q_mcn q_mct k_mra k_mrA k_mrc k_mrk k_mpi k_mwc k_mwo k_mco k_mpo k_mky k_mla k_mcn k_mct mo_port mo_line mo_cycle mo_raised mo_idle mo_bad mo_glyph mo_fetched mo_rows mo_flags2 mo_enabled mo_a mo_x mo_y mo_s mo_flags mo_p mo_jammed mo_code mo_step mo_low mo_high mo_old mo_latest mo_cycles mo_stolen mo_interrupts mo_accesses f_mra f_mrA f_mrc f_mrk f_mpi f_mwc f_mwo f_mco f_mpo f_mky f_mla f_mcn f_mct) s.heap.size = A at hD ⊢
  have hA : ∀ q : Nat, s.heap.size ≤ q → A q := fun q h => by rw [← hAe]; exact Or.inr h
  have hS : va_S A s.heap s.heap [] := va_S.rf
  have hl := lv_entry ([.ref q_mo]) (n := 1) (Nat.le_of_ble_eq_true rfl)
  rw [lg_entry_eq]
  generalize (lg_sl ([.ref q_mo]) ++ List.replicate (1 - (lg_sl ([.ref q_mo])).length) Slot.unset).toArray = ls at hl ⊢
  have hl : lv_has ls 1 [(0, .ref q_mo)] := hl
  have hF := fX7_stackStep.eq_1 mo_port mo_line mo_raised mo_rows mo_flags2 mo_enabled mo_a mo_s mo_flags mo_p mo_code mo_step mo_latest mo_accesses f_mra f_mrA f_mrc f_mrk f_mpi f_mco f_mky f_mla f_mcn f_mct
  refine lv_aload_n hx hb dX7_stackStep_0 rfl (lv_at hl 0 rfl) ?_
  refine va_get (D := (dC, dI)) (ci := 7) (v := .int mo_step) (C := RX7) (T := TX7) (N := 41) hx hb hts hiX7 hown hK hP 0 rfl rfl 32 (by decide) (hts _ kFX7_148) (fun _ h9 => h9) rfl dX7_stackStep_1 ?_
  refine lv_iconst (v := 1) hx hb dX7_stackStep_4 (by decide) ?_
  refine lv_icmp_ne (tgt := 17) hx hb dX7_stackStep_5 (by decide) (fun c_5 => ?_) (fun c_5 => ?_)
  · have hF := hF.trans (if_neg c_5)
    refine lv_aload_n hx hb dX7_stackStep_17 rfl (lv_at hl 0 rfl) ?_
    refine va_get (D := (dC, dI)) (ci := 7) (v := .int mo_code) (C := RX7) (T := TX7) (N := 41) hx hb hts hiX7 hown hK hP 0 rfl rfl 31 (by decide) (hts _ kFX7_167) (fun _ h9 => h9) rfl dX7_stackStep_18 ?_
    refine lv_bipush (v := 72) hx hb dX7_stackStep_21 (by decide) ?_
    refine lv_icmp_ne (tgt := 42) hx hb dX7_stackStep_23 (by decide) (fun c_23 => ?_) (fun c_23 => ?_)
    · have hF := hF.trans (if_neg c_23)
      refine lv_aload_n hx hb dX7_stackStep_42 rfl (lv_at hl 0 rfl) ?_
      refine va_get (D := (dC, dI)) (ci := 7) (v := .int mo_code) (C := RX7) (T := TX7) (N := 41) hx hb hts hiX7 hown hK hP 0 rfl rfl 31 (by decide) (hts _ kFX7_167) (fun _ h9 => h9) rfl dX7_stackStep_43 ?_
      refine lv_bipush (v := 104) hx hb dX7_stackStep_46 (by decide) ?_
      refine lv_icmp_ne (tgt := 65) hx hb dX7_stackStep_48 (by decide) (fun c_48 => ?_) (fun c_48 => ?_)
      · have hF := hF.trans (if_neg c_48)
        refine lv_aload_n hx hb dX7_stackStep_65 rfl (lv_at hl 0 rfl) ?_
        refine va_get (D := (dC, dI)) (ci := 7) (v := .int mo_code) (C := RX7) (T := TX7) (N := 41) hx hb hts hiX7 hown hK hP 0 rfl rfl 31 (by decide) (hts _ kFX7_167) (fun _ h9 => h9) rfl dX7_stackStep_66 ?_
        refine lv_bipush (v := 104) hx hb dX7_stackStep_69 (by decide) ?_
        refine lv_icmp_ne (tgt := 95) hx hb dX7_stackStep_71 (by decide) (fun c_71 => ?_) (fun c_71 => by exact absurd c_71 c_48)
        refine lv_aload_n hx hb dX7_stackStep_95 rfl (lv_at hl 0 rfl) ?_
        refine lv_aload_n hx hb dX7_stackStep_96 rfl (lv_at hl 0 rfl) ?_
        refine va_get (D := (dC, dI)) (ci := 7) (v := .int mo_step) (C := RX7) (T := TX7) (N := 41) hx hb hts hiX7 hown hK hP 0 rfl rfl 32 (by decide) (hts _ kFX7_148) (fun _ h9 => h9) rfl dX7_stackStep_97 ?_
        refine lv_aload_n hx hb dX7_stackStep_100 rfl (lv_at hl 0 rfl) ?_
        refine va_get (D := (dC, dI)) (ci := 7) (v := .int mo_code) (C := RX7) (T := TX7) (N := 41) hx hb hts hiX7 hown hK hP 0 rfl rfl 31 (by decide) (hts _ kFX7_167) (fun _ h9 => h9) rfl dX7_stackStep_101 ?_
        refine lv_bipush (v := 72) hx hb dX7_stackStep_104 (by decide) ?_
        refine lv_icmp_ne (tgt := 113) hx hb dX7_stackStep_106 (by decide) (fun c_106 => ?_) (fun c_106 => by exact absurd c_106 c_23)
        refine lv_iconst (v := 3) hx hb dX7_stackStep_113 (by decide) ?_
        refine vj_join (j := 127) (rest := [.ref q_mo]) (Hyp := fun z H locs => z = (if mo_step = (3:Int32) then (0:Int32) else (mo_step + (1:Int32))) ∧ va_P (dC, dI) vwCl (wwX7 q_mo q_mra q_mrA q_mrc q_mrk q_mpi q_mwc q_mwo q_mco q_mpo q_mky q_mla q_mcn q_mct k_mra k_mrA k_mrc k_mrk k_mpi k_mwc k_mwo k_mco k_mpo k_mky k_mla k_mcn k_mct mo_port mo_line mo_cycle mo_raised mo_idle mo_bad mo_glyph mo_fetched mo_rows mo_flags2 mo_enabled mo_a mo_x mo_y mo_s mo_flags mo_p mo_jammed mo_code mo_step mo_low mo_high mo_old mo_latest mo_cycles mo_stolen mo_interrupts mo_accesses f_mra f_mrA f_mrc f_mrk f_mpi f_mwc f_mwo f_mco f_mpo f_mky f_mla f_mcn f_mct) H ∧ va_S A s.heap H locs) (fun z H locs hh => ?_) (fun J127 => ?_)
        · obtain ⟨hz, hP, hS⟩ := hh
          subst hz
          refine va_put (D := (dC, dI)) (ci := 7) (v := .int (if mo_step = (3:Int32) then (0:Int32) else (mo_step + (1:Int32)))) (ty := .int) (C := RX7) (T := TX7) (N := 41) hx hb hts hiX7 tyX7 tyX7_ok nmX7 hown hK hP hD hS 0 rfl rfl 32 (by decide) (hts _ kFX7_148) (fun _ h9 => h9) rfl (by decide +kernel) rfl rfl (Nat.le_of_ble_eq_true rfl) dX7_stackStep_127 (fun H locs hP hD hS => ?_)
          have hP : va_P (dC, dI) vwCl (wwX7 q_mo q_mra q_mrA q_mrc q_mrk q_mpi q_mwc q_mwo q_mco q_mpo q_mky q_mla q_mcn q_mct k_mra k_mrA k_mrc k_mrk k_mpi k_mwc k_mwo k_mco k_mpo k_mky k_mla k_mcn k_mct mo_port mo_line mo_cycle mo_raised mo_idle mo_bad mo_glyph mo_fetched mo_rows mo_flags2 mo_enabled mo_a mo_x mo_y mo_s mo_flags mo_p mo_jammed mo_code (if mo_step = (3:Int32) then (0:Int32) else (mo_step + (1:Int32))) mo_low mo_high mo_old mo_latest mo_cycles mo_stolen mo_interrupts mo_accesses f_mra f_mrA f_mrc f_mrk f_mpi f_mwc f_mwo f_mco f_mpo f_mky f_mla f_mcn f_mct) H := hP
          have hD : va_D A (wwX7 q_mo q_mra q_mrA q_mrc q_mrk q_mpi q_mwc q_mwo q_mco q_mpo q_mky q_mla q_mcn q_mct k_mra k_mrA k_mrc k_mrk k_mpi k_mwc k_mwo k_mco k_mpo k_mky k_mla k_mcn k_mct mo_port mo_line mo_cycle mo_raised mo_idle mo_bad mo_glyph mo_fetched mo_rows mo_flags2 mo_enabled mo_a mo_x mo_y mo_s mo_flags mo_p mo_jammed mo_code (if mo_step = (3:Int32) then (0:Int32) else (mo_step + (1:Int32))) mo_low mo_high mo_old mo_latest mo_cycles mo_stolen mo_interrupts mo_accesses f_mra f_mrA f_mrc f_mrk f_mpi f_mwc f_mwo f_mco f_mpo f_mky f_mla f_mcn f_mct) := hD
          exact W.vret hx hb hr (fun t ht hW => ⟨⟨(mo_port, mo_raised, mo_rows, mo_flags2, mo_enabled, mo_a, mo_s, mo_flags, (if mo_step = (3:Int32) then (0:Int32) else (mo_step + (1:Int32))), mo_latest, mo_accesses, f_mra, f_mpi, f_mco, f_mla, f_mcn, f_mct), rfl, hF.symm, by rw [ht]; exact hP, va_K.moved hW.alike hK, hD⟩, hS.F ht⟩) hS.2.2 dX7_stackStep_130
        · refine lv_icmp_ne (tgt := 121) hx hb dX7_stackStep_114 (by decide) (fun c_114 => ?_) (fun c_114 => ?_)
          · refine lv_aload_n hx hb dX7_stackStep_121 rfl (lv_at hl 0 rfl) ?_
            refine va_get (D := (dC, dI)) (ci := 7) (v := .int mo_step) (C := RX7) (T := TX7) (N := 41) hx hb hts hiX7 hown hK hP 0 rfl rfl 32 (by decide) (hts _ kFX7_148) (fun _ h9 => h9) rfl dX7_stackStep_122 ?_
            refine lv_iconst (v := 1) hx hb dX7_stackStep_125 (by decide) ?_
            refine lv_iadd hx hb dX7_stackStep_126 ?_
            exact J127 _ _ _ ⟨by rw [if_neg c_114], hP, hS⟩
          · refine lv_iconst (v := 0) hx hb dX7_stackStep_117 (by decide) ?_
            refine lv_goto (tgt := 127) hx hb dX7_stackStep_118 (by decide) ?_
            exact J127 _ _ _ ⟨by rw [if_pos c_114], hP, hS⟩
      · have hF := hF.trans (if_pos c_48)
        refine lv_aload_n hx hb dX7_stackStep_51 rfl (lv_at hl 0 rfl) ?_
        refine va_get (D := (dC, dI)) (ci := 7) (v := .int mo_step) (C := RX7) (T := TX7) (N := 41) hx hb hts hiX7 hown hK hP 0 rfl rfl 32 (by decide) (hts _ kFX7_148) (fun _ h9 => h9) rfl dX7_stackStep_52 ?_
        refine lv_iconst (v := 2) hx hb dX7_stackStep_55 (by decide) ?_
        refine lv_icmp_ne (tgt := 65) hx hb dX7_stackStep_56 (by decide) (fun c_56 => ?_) (fun c_56 => ?_)
        · have hF := hF.trans (if_neg c_56)
          refine lv_aload_n hx hb dX7_stackStep_65 rfl (lv_at hl 0 rfl) ?_
          refine va_get (D := (dC, dI)) (ci := 7) (v := .int mo_code) (C := RX7) (T := TX7) (N := 41) hx hb hts hiX7 hown hK hP 0 rfl rfl 31 (by decide) (hts _ kFX7_167) (fun _ h9 => h9) rfl dX7_stackStep_66 ?_
          refine lv_bipush (v := 104) hx hb dX7_stackStep_69 (by decide) ?_
          refine lv_icmp_ne (tgt := 95) hx hb dX7_stackStep_71 (by decide) (fun c_71 => by exact absurd c_48 c_71) (fun c_71 => ?_)
          refine lv_aload_n hx hb dX7_stackStep_74 rfl (lv_at hl 0 rfl) ?_
          refine va_get (D := (dC, dI)) (ci := 7) (v := .int mo_step) (C := RX7) (T := TX7) (N := 41) hx hb hts hiX7 hown hK hP 0 rfl rfl 32 (by decide) (hts _ kFX7_148) (fun _ h9 => h9) rfl dX7_stackStep_75 ?_
          refine lv_iconst (v := 3) hx hb dX7_stackStep_78 (by decide) ?_
          refine lv_icmp_ne (tgt := 95) hx hb dX7_stackStep_79 (by decide) (fun c_79 => ?_) (fun c_79 => ?_)
          · have hF := hF.trans (if_neg c_79)
            refine lv_aload_n hx hb dX7_stackStep_95 rfl (lv_at hl 0 rfl) ?_
            refine lv_aload_n hx hb dX7_stackStep_96 rfl (lv_at hl 0 rfl) ?_
            refine va_get (D := (dC, dI)) (ci := 7) (v := .int mo_step) (C := RX7) (T := TX7) (N := 41) hx hb hts hiX7 hown hK hP 0 rfl rfl 32 (by decide) (hts _ kFX7_148) (fun _ h9 => h9) rfl dX7_stackStep_97 ?_
            refine lv_aload_n hx hb dX7_stackStep_100 rfl (lv_at hl 0 rfl) ?_
            refine va_get (D := (dC, dI)) (ci := 7) (v := .int mo_code) (C := RX7) (T := TX7) (N := 41) hx hb hts hiX7 hown hK hP 0 rfl rfl 31 (by decide) (hts _ kFX7_167) (fun _ h9 => h9) rfl dX7_stackStep_101 ?_
            refine lv_bipush (v := 72) hx hb dX7_stackStep_104 (by decide) ?_
            refine lv_icmp_ne (tgt := 113) hx hb dX7_stackStep_106 (by decide) (fun c_106 => ?_) (fun c_106 => by exact absurd c_106 c_23)
            refine lv_iconst (v := 3) hx hb dX7_stackStep_113 (by decide) ?_
            refine lv_icmp_ne (tgt := 121) hx hb dX7_stackStep_114 (by decide) (fun c_114 => ?_) (fun c_114 => by exact absurd c_114 c_79)
            refine lv_aload_n hx hb dX7_stackStep_121 rfl (lv_at hl 0 rfl) ?_
            refine va_get (D := (dC, dI)) (ci := 7) (v := .int mo_step) (C := RX7) (T := TX7) (N := 41) hx hb hts hiX7 hown hK hP 0 rfl rfl 32 (by decide) (hts _ kFX7_148) (fun _ h9 => h9) rfl dX7_stackStep_122 ?_
            refine lv_iconst (v := 1) hx hb dX7_stackStep_125 (by decide) ?_
            refine lv_iadd hx hb dX7_stackStep_126 ?_
            refine va_put (D := (dC, dI)) (ci := 7) (v := .int (mo_step + (1:Int32))) (ty := .int) (C := RX7) (T := TX7) (N := 41) hx hb hts hiX7 tyX7 tyX7_ok nmX7 hown hK hP hD hS 0 rfl rfl 32 (by decide) (hts _ kFX7_148) (fun _ h9 => h9) rfl (by decide +kernel) rfl rfl (Nat.le_of_ble_eq_true rfl) dX7_stackStep_127 (fun H locs hP hD hS => ?_)
            have hP : va_P (dC, dI) vwCl (wwX7 q_mo q_mra q_mrA q_mrc q_mrk q_mpi q_mwc q_mwo q_mco q_mpo q_mky q_mla q_mcn q_mct k_mra k_mrA k_mrc k_mrk k_mpi k_mwc k_mwo k_mco k_mpo k_mky k_mla k_mcn k_mct mo_port mo_line mo_cycle mo_raised mo_idle mo_bad mo_glyph mo_fetched mo_rows mo_flags2 mo_enabled mo_a mo_x mo_y mo_s mo_flags mo_p mo_jammed mo_code (mo_step + (1:Int32)) mo_low mo_high mo_old mo_latest mo_cycles mo_stolen mo_interrupts mo_accesses f_mra f_mrA f_mrc f_mrk f_mpi f_mwc f_mwo f_mco f_mpo f_mky f_mla f_mcn f_mct) H := hP
            have hD : va_D A (wwX7 q_mo q_mra q_mrA q_mrc q_mrk q_mpi q_mwc q_mwo q_mco q_mpo q_mky q_mla q_mcn q_mct k_mra k_mrA k_mrc k_mrk k_mpi k_mwc k_mwo k_mco k_mpo k_mky k_mla k_mcn k_mct mo_port mo_line mo_cycle mo_raised mo_idle mo_bad mo_glyph mo_fetched mo_rows mo_flags2 mo_enabled mo_a mo_x mo_y mo_s mo_flags mo_p mo_jammed mo_code (mo_step + (1:Int32)) mo_low mo_high mo_old mo_latest mo_cycles mo_stolen mo_interrupts mo_accesses f_mra f_mrA f_mrc f_mrk f_mpi f_mwc f_mwo f_mco f_mpo f_mky f_mla f_mcn f_mct) := hD
            exact W.vret hx hb hr (fun t ht hW => ⟨⟨(mo_port, mo_raised, mo_rows, mo_flags2, mo_enabled, mo_a, mo_s, mo_flags, (mo_step + (1:Int32)), mo_latest, mo_accesses, f_mra, f_mpi, f_mco, f_mla, f_mcn, f_mct), rfl, hF.symm, by rw [ht]; exact hP, va_K.moved hW.alike hK, hD⟩, hS.F ht⟩) hS.2.2 dX7_stackStep_130
          · have hF := hF.trans (if_pos c_79)
            refine lv_aload_n hx hb dX7_stackStep_82 rfl (lv_at hl 0 rfl) ?_
            refine lv_aload_n hx hb dX7_stackStep_83 rfl (lv_at hl 0 rfl) ?_
            refine lv_aload_n hx hb dX7_stackStep_84 rfl (lv_at hl 0 rfl) ?_
            refine lv_iconst (v := 0) hx hb dX7_stackStep_85 (by decide) ?_
            have hPc := hP.sub (ws' := (wwX7 q_mo q_mra q_mrA q_mrc q_mrk q_mpi q_mwc q_mwo q_mco q_mpo q_mky q_mla q_mcn q_mct k_mra k_mrA k_mrc k_mrk k_mpi k_mwc k_mwo k_mco k_mpo k_mky k_mla k_mcn k_mct mo_port mo_line mo_cycle mo_raised mo_idle mo_bad mo_glyph mo_fetched mo_rows mo_flags2 mo_enabled mo_a mo_x mo_y mo_s mo_flags mo_p mo_jammed mo_code mo_step mo_low mo_high mo_old mo_latest mo_cycles mo_stolen mo_interrupts mo_accesses f_mra f_mrA f_mrc f_mrk f_mpi f_mwc f_mwo f_mco f_mpo f_mky f_mla f_mcn f_mct)) [0, 1, 2, 3, 4, 5, 6, 7, 8, 9, 10, 11, 12, 13] rfl
            have hDc := hD.sub (ws' := (wwX7 q_mo q_mra q_mrA q_mrc q_mrk q_mpi q_mwc q_mwo q_mco q_mpo q_mky q_mla q_mcn q_mct k_mra k_mrA k_mrc k_mrk k_mpi k_mwc k_mwo k_mco k_mpo k_mky k_mla k_mcn k_mct mo_port mo_line mo_cycle mo_raised mo_idle mo_bad mo_glyph mo_fetched mo_rows mo_flags2 mo_enabled mo_a mo_x mo_y mo_s mo_flags mo_p mo_jammed mo_code mo_step mo_low mo_high mo_old mo_latest mo_cycles mo_stolen mo_interrupts mo_accesses f_mra f_mrA f_mrc f_mrk f_mpi f_mwc f_mwo f_mco f_mpo f_mky f_mla f_mcn f_mct)) [0, 1, 2, 3, 4, 5, 6, 7, 8, 9, 10, 11, 12, 13] (by decide) rfl
            have hKc := hK.sub (tys' := [(k_mra, .int), (k_mrA, .int), (k_mrc, .int), (k_mrk, .int), (k_mpi, .int), (k_mwc, .int), (k_mwo, .int), (k_mco, .int), (k_mpo, .int), (k_mky, .int), (k_mla, .int), (k_mcn, .int), (k_mct, .int)]) [0, 1, 2, 3, 4, 5, 6, 7, 8, 9, 10, 11, 12] rfl
            have hFc := va_free (wc := (wwX7 q_mo q_mra q_mrA q_mrc q_mrk q_mpi q_mwc q_mwo q_mco q_mpo q_mky q_mla q_mcn q_mct k_mra k_mrA k_mrc k_mrk k_mpi k_mwc k_mwo k_mco k_mpo k_mky k_mla k_mcn k_mct mo_port mo_line mo_cycle mo_raised mo_idle mo_bad mo_glyph mo_fetched mo_rows mo_flags2 mo_enabled mo_a mo_x mo_y mo_s mo_flags mo_p mo_jammed mo_code mo_step mo_low mo_high mo_old mo_latest mo_cycles mo_stolen mo_interrupts mo_accesses f_mra f_mrA f_mrc f_mrk f_mpi f_mwc f_mwo f_mco f_mpo f_mky f_mla f_mcn f_mct)) hD hS hA [0, 1, 2, 3, 4, 5, 6, 7, 8, 9, 10, 11, 12, 13] rfl
            refine va_calli (va_runV (As := [.int (0:Int32)]) (rest := [.ref q_mo, .ref q_mo]) ⟨hx, hb, hml, hown, hts⟩ (mX7_pull l dC dI q_mo q_mra q_mrA q_mrc q_mrk q_mpi q_mwc q_mwo q_mco q_mpo q_mky q_mla q_mcn q_mct k_mra k_mrA k_mrc k_mrk k_mpi k_mwc k_mwo k_mco k_mpo k_mky k_mla k_mcn k_mct s.heap.size mo_port mo_line mo_cycle mo_raised mo_idle mo_bad mo_glyph mo_fetched mo_rows mo_flags2 mo_enabled mo_a mo_x mo_y mo_s mo_flags mo_p mo_jammed mo_code mo_step mo_low mo_high mo_old mo_latest mo_cycles mo_stolen mo_interrupts mo_accesses f_mra f_mrA f_mrc f_mrk f_mpi f_mwc f_mwo f_mco f_mpo f_mky f_mla f_mcn f_mct (0:Int32) hs_) (cwV 1 hts (ub_V kMX7_206 kYX7_pull kSX7_pull kIX7 kBX7_pull) rfl rfl rfl (by decide +kernel) ⟨Nat.le_of_ble_eq_true rfl, Nat.le_of_ble_eq_true rfl⟩) ⟨fun a U g mk q => by obtain ⟨q0, q1, qP, qK, qD⟩ := q; exact ⟨q0, q1, qP, va_K.moved (u := U) (U := U.calling g mk a) (Vm.Alike.refl U.vm) qK, qD⟩, va_recv hKc hPc (ci := 7) (q0 := 0) rfl rfl, fun U hU hW => ⟨rfl, by rw [hU], by rw [hU]; exact hPc, va_K.moved hW.alike hKc, hDc.weaken (fun _ _ _ _ => trivial)⟩⟩ rfl rfl hl.1 rfl (lv_room (Nat.le_of_ble_eq_true rfl)) dX7_stackStep_86 ⟨(Nat.zero_le _), (Nat.zero_le _)⟩) hS (fun q _ h => hFc q h) hFc (fun r_86 u_86 t H locs ht hvm hw hB hz1 hk1 hS => ?_)
            obtain ⟨mo_flags2_86, mo_s_86, mo_latest_86, mo_accesses_86⟩ := u_86
            obtain ⟨hP1, hK1, hD1⟩ := hB
            rw [ht] at hP1
            obtain ⟨hP, hD⟩ := vb_bk2 (wc := (wwX7 q_mo q_mra q_mrA q_mrc q_mrk q_mpi q_mwc q_mwo q_mco q_mpo q_mky q_mla q_mcn q_mct k_mra k_mrA k_mrc k_mrk k_mpi k_mwc k_mwo k_mco k_mpo k_mky k_mla k_mcn k_mct mo_port mo_line mo_cycle mo_raised mo_idle mo_bad mo_glyph mo_fetched mo_rows mo_flags2 mo_enabled mo_a mo_x mo_y mo_s mo_flags mo_p mo_jammed mo_code mo_step mo_low mo_high mo_old mo_latest mo_cycles mo_stolen mo_interrupts mo_accesses f_mra f_mrA f_mrc f_mrk f_mpi f_mwc f_mwo f_mco f_mpo f_mky f_mla f_mcn f_mct)) (ws' := (wwX7 q_mo q_mra q_mrA q_mrc q_mrk q_mpi q_mwc q_mwo q_mco q_mpo q_mky q_mla q_mcn q_mct k_mra k_mrA k_mrc k_mrk k_mpi k_mwc k_mwo k_mco k_mpo k_mky k_mla k_mcn k_mct mo_port mo_line mo_cycle mo_raised mo_idle mo_bad mo_glyph mo_fetched mo_rows mo_flags2_86 mo_enabled mo_a mo_x mo_y mo_s_86 mo_flags mo_p mo_jammed mo_code mo_step mo_low mo_high mo_old mo_latest_86 mo_cycles mo_stolen mo_interrupts mo_accesses_86 f_mra f_mrA f_mrc f_mrk f_mpi f_mwc f_mwo f_mco f_mpo f_mky f_mla f_mcn f_mct)) hP hD hD1 [0, 1, 2, 3, 4, 5, 6, 7, 8, 9, 10, 11, 12, 13] [] rfl [q_mo, q_mra, q_mrA, q_mrc, q_mrk, q_mpi, q_mwc, q_mwo, q_mco, q_mpo, q_mky, q_mla, q_mcn, q_mct] rfl rfl ae_n rfl rfl hk1 hP1
            rw [← hw] at hF
            dsimp only at hF
            have hPc := hP.sub (ws' := (wwX7 q_mo q_mra q_mrA q_mrc q_mrk q_mpi q_mwc q_mwo q_mco q_mpo q_mky q_mla q_mcn q_mct k_mra k_mrA k_mrc k_mrk k_mpi k_mwc k_mwo k_mco k_mpo k_mky k_mla k_mcn k_mct mo_port mo_line mo_cycle mo_raised mo_idle mo_bad mo_glyph mo_fetched mo_rows mo_flags2_86 mo_enabled mo_a mo_x mo_y mo_s_86 mo_flags mo_p mo_jammed mo_code mo_step mo_low mo_high mo_old mo_latest_86 mo_cycles mo_stolen mo_interrupts mo_accesses_86 f_mra f_mrA f_mrc f_mrk f_mpi f_mwc f_mwo f_mco f_mpo f_mky f_mla f_mcn f_mct)) [0, 1, 2, 3, 4, 5, 6, 7, 8, 9, 10, 11, 12, 13] rfl
            have hDc := hD.sub (ws' := (wwX7 q_mo q_mra q_mrA q_mrc q_mrk q_mpi q_mwc q_mwo q_mco q_mpo q_mky q_mla q_mcn q_mct k_mra k_mrA k_mrc k_mrk k_mpi k_mwc k_mwo k_mco k_mpo k_mky k_mla k_mcn k_mct mo_port mo_line mo_cycle mo_raised mo_idle mo_bad mo_glyph mo_fetched mo_rows mo_flags2_86 mo_enabled mo_a mo_x mo_y mo_s_86 mo_flags mo_p mo_jammed mo_code mo_step mo_low mo_high mo_old mo_latest_86 mo_cycles mo_stolen mo_interrupts mo_accesses_86 f_mra f_mrA f_mrc f_mrk f_mpi f_mwc f_mwo f_mco f_mpo f_mky f_mla f_mcn f_mct)) [0, 1, 2, 3, 4, 5, 6, 7, 8, 9, 10, 11, 12, 13] (by decide) rfl
            have hKc := hK.sub (tys' := [(k_mra, .int), (k_mrA, .int), (k_mrc, .int), (k_mrk, .int), (k_mpi, .int), (k_mwc, .int), (k_mwo, .int), (k_mco, .int), (k_mpo, .int), (k_mky, .int), (k_mla, .int), (k_mcn, .int), (k_mct, .int)]) [0, 1, 2, 3, 4, 5, 6, 7, 8, 9, 10, 11, 12] rfl
            have hFc := va_free (wc := (wwX7 q_mo q_mra q_mrA q_mrc q_mrk q_mpi q_mwc q_mwo q_mco q_mpo q_mky q_mla q_mcn q_mct k_mra k_mrA k_mrc k_mrk k_mpi k_mwc k_mwo k_mco k_mpo k_mky k_mla k_mcn k_mct mo_port mo_line mo_cycle mo_raised mo_idle mo_bad mo_glyph mo_fetched mo_rows mo_flags2_86 mo_enabled mo_a mo_x mo_y mo_s_86 mo_flags mo_p mo_jammed mo_code mo_step mo_low mo_high mo_old mo_latest_86 mo_cycles mo_stolen mo_interrupts mo_accesses_86 f_mra f_mrA f_mrc f_mrk f_mpi f_mwc f_mwo f_mco f_mpo f_mky f_mla f_mcn f_mct)) hD hS hA [0, 1, 2, 3, 4, 5, 6, 7, 8, 9, 10, 11, 12, 13] rfl
            refine va_calli (va_runV (As := [.int r_86]) (rest := [.ref q_mo]) ⟨hx, hb, hml, hown, hts⟩ (mX7_judged l dC dI q_mo q_mra q_mrA q_mrc q_mrk q_mpi q_mwc q_mwo q_mco q_mpo q_mky q_mla q_mcn q_mct k_mra k_mrA k_mrc k_mrk k_mpi k_mwc k_mwo k_mco k_mpo k_mky k_mla k_mcn k_mct H.size mo_port mo_line mo_cycle mo_raised mo_idle mo_bad mo_glyph mo_fetched mo_rows mo_flags2_86 mo_enabled mo_a mo_x mo_y mo_s_86 mo_flags mo_p mo_jammed mo_code mo_step mo_low mo_high mo_old mo_latest_86 mo_cycles mo_stolen mo_interrupts mo_accesses_86 f_mra f_mrA f_mrc f_mrk f_mpi f_mwc f_mwo f_mco f_mpo f_mky f_mla f_mcn f_mct r_86) (cwV 1 hts (ub_V kMX7_173 kYX7_judged kSX7_judged kIX7 kBX7_judged) rfl rfl rfl (by decide +kernel) ⟨Nat.le_of_ble_eq_true rfl, Nat.le_of_ble_eq_true rfl⟩) ⟨fun a U g mk q => by obtain ⟨q0, q1, qP, qK, qD⟩ := q; exact ⟨q0, q1, qP, va_K.moved (u := U) (U := U.calling g mk a) (Vm.Alike.refl U.vm) qK, qD⟩, va_recv hKc hPc (ci := 7) (q0 := 0) rfl rfl, fun U hU hW => ⟨rfl, by rw [hU], by rw [hU]; exact hPc, va_K.moved hW.alike hKc, hDc.weaken (fun _ _ _ _ => trivial)⟩⟩ rfl rfl hl.1 rfl (lv_room (Nat.le_of_ble_eq_true rfl)) dX7_stackStep_89 ⟨(Nat.zero_le _), (Nat.zero_le _)⟩) hS (fun q _ h => hFc q h) hFc (fun r_89 u_89 t H locs ht hvm hw hB hz1 hk1 hS => ?_)
            obtain ⟨mo_flags_89, rfl⟩ : ∃ z, z = u_89 := ⟨_, rfl⟩
            obtain ⟨hP1, hK1, hD1⟩ := hB
            rw [ht] at hP1
            obtain ⟨hP, hD⟩ := vb_bk2 (wc := (wwX7 q_mo q_mra q_mrA q_mrc q_mrk q_mpi q_mwc q_mwo q_mco q_mpo q_mky q_mla q_mcn q_mct k_mra k_mrA k_mrc k_mrk k_mpi k_mwc k_mwo k_mco k_mpo k_mky k_mla k_mcn k_mct mo_port mo_line mo_cycle mo_raised mo_idle mo_bad mo_glyph mo_fetched mo_rows mo_flags2_86 mo_enabled mo_a mo_x mo_y mo_s_86 mo_flags mo_p mo_jammed mo_code mo_step mo_low mo_high mo_old mo_latest_86 mo_cycles mo_stolen mo_interrupts mo_accesses_86 f_mra f_mrA f_mrc f_mrk f_mpi f_mwc f_mwo f_mco f_mpo f_mky f_mla f_mcn f_mct)) (ws' := (wwX7 q_mo q_mra q_mrA q_mrc q_mrk q_mpi q_mwc q_mwo q_mco q_mpo q_mky q_mla q_mcn q_mct k_mra k_mrA k_mrc k_mrk k_mpi k_mwc k_mwo k_mco k_mpo k_mky k_mla k_mcn k_mct mo_port mo_line mo_cycle mo_raised mo_idle mo_bad mo_glyph mo_fetched mo_rows mo_flags2_86 mo_enabled mo_a mo_x mo_y mo_s_86 mo_flags_89 mo_p mo_jammed mo_code mo_step mo_low mo_high mo_old mo_latest_86 mo_cycles mo_stolen mo_interrupts mo_accesses_86 f_mra f_mrA f_mrc f_mrk f_mpi f_mwc f_mwo f_mco f_mpo f_mky f_mla f_mcn f_mct)) hP hD hD1 [0, 1, 2, 3, 4, 5, 6, 7, 8, 9, 10, 11, 12, 13] [] rfl [q_mo, q_mra, q_mrA, q_mrc, q_mrk, q_mpi, q_mwc, q_mwo, q_mco, q_mpo, q_mky, q_mla, q_mcn, q_mct] rfl rfl ae_n rfl rfl hk1 hP1
            rw [← hw] at hF
            dsimp only at hF
            refine va_put (D := (dC, dI)) (ci := 7) (v := .int r_89) (ty := .int) (C := RX7) (T := TX7) (N := 41) hx hb hts hiX7 tyX7 tyX7_ok nmX7 hown hK hP hD hS 0 rfl rfl 24 (by decide) (hts _ kFX7_136) (fun _ h9 => h9) rfl (by decide +kernel) rfl rfl (Nat.le_of_ble_eq_true rfl) dX7_stackStep_92 (fun H locs hP hD hS => ?_)
            have hP : va_P (dC, dI) vwCl (wwX7 q_mo q_mra q_mrA q_mrc q_mrk q_mpi q_mwc q_mwo q_mco q_mpo q_mky q_mla q_mcn q_mct k_mra k_mrA k_mrc k_mrk k_mpi k_mwc k_mwo k_mco k_mpo k_mky k_mla k_mcn k_mct mo_port mo_line mo_cycle mo_raised mo_idle mo_bad mo_glyph mo_fetched mo_rows mo_flags2_86 mo_enabled r_89 mo_x mo_y mo_s_86 mo_flags_89 mo_p mo_jammed mo_code mo_step mo_low mo_high mo_old mo_latest_86 mo_cycles mo_stolen mo_interrupts mo_accesses_86 f_mra f_mrA f_mrc f_mrk f_mpi f_mwc f_mwo f_mco f_mpo f_mky f_mla f_mcn f_mct) H := hP
            have hD : va_D A (wwX7 q_mo q_mra q_mrA q_mrc q_mrk q_mpi q_mwc q_mwo q_mco q_mpo q_mky q_mla q_mcn q_mct k_mra k_mrA k_mrc k_mrk k_mpi k_mwc k_mwo k_mco k_mpo k_mky k_mla k_mcn k_mct mo_port mo_line mo_cycle mo_raised mo_idle mo_bad mo_glyph mo_fetched mo_rows mo_flags2_86 mo_enabled r_89 mo_x mo_y mo_s_86 mo_flags_89 mo_p mo_jammed mo_code mo_step mo_low mo_high mo_old mo_latest_86 mo_cycles mo_stolen mo_interrupts mo_accesses_86 f_mra f_mrA f_mrc f_mrk f_mpi f_mwc f_mwo f_mco f_mpo f_mky f_mla f_mcn f_mct) := hD
            refine lv_aload_n hx hb dX7_stackStep_95 rfl (lv_at hl 0 rfl) ?_
            refine lv_aload_n hx hb dX7_stackStep_96 rfl (lv_at hl 0 rfl) ?_
            refine va_get (D := (dC, dI)) (ci := 7) (v := .int mo_step) (C := RX7) (T := TX7) (N := 41) hx hb hts hiX7 hown hK hP 0 rfl rfl 32 (by decide) (hts _ kFX7_148) (fun _ h9 => h9) rfl dX7_stackStep_97 ?_
            refine lv_aload_n hx hb dX7_stackStep_100 rfl (lv_at hl 0 rfl) ?_
            refine va_get (D := (dC, dI)) (ci := 7) (v := .int mo_code) (C := RX7) (T := TX7) (N := 41) hx hb hts hiX7 hown hK hP 0 rfl rfl 31 (by decide) (hts _ kFX7_167) (fun _ h9 => h9) rfl dX7_stackStep_101 ?_
            refine lv_bipush (v := 72) hx hb dX7_stackStep_104 (by decide) ?_
            refine lv_icmp_ne (tgt := 113) hx hb dX7_stackStep_106 (by decide) (fun c_106 => ?_) (fun c_106 => by exact absurd c_106 c_23)
            refine lv_iconst (v := 3) hx hb dX7_stackStep_113 (by decide) ?_
            refine lv_icmp_ne (tgt := 121) hx hb dX7_stackStep_114 (by decide) (fun c_114 => by exact absurd c_79 c_114) (fun c_114 => ?_)
            refine lv_iconst (v := 0) hx hb dX7_stackStep_117 (by decide) ?_
            refine lv_goto (tgt := 127) hx hb dX7_stackStep_118 (by decide) ?_
            refine va_put (D := (dC, dI)) (ci := 7) (v := .int (0:Int32)) (ty := .int) (C := RX7) (T := TX7) (N := 41) hx hb hts hiX7 tyX7 tyX7_ok nmX7 hown hK hP hD hS 0 rfl rfl 32 (by decide) (hts _ kFX7_148) (fun _ h9 => h9) rfl (by decide +kernel) rfl rfl (Nat.le_of_ble_eq_true rfl) dX7_stackStep_127 (fun H locs hP hD hS => ?_)
            have hP : va_P (dC, dI) vwCl (wwX7 q_mo q_mra q_mrA q_mrc q_mrk q_mpi q_mwc q_mwo q_mco q_mpo q_mky q_mla q_mcn q_mct k_mra k_mrA k_mrc k_mrk k_mpi k_mwc k_mwo k_mco k_mpo k_mky k_mla k_mcn k_mct mo_port mo_line mo_cycle mo_raised mo_idle mo_bad mo_glyph mo_fetched mo_rows mo_flags2_86 mo_enabled r_89 mo_x mo_y mo_s_86 mo_flags_89 mo_p mo_jammed mo_code (0:Int32) mo_low mo_high mo_old mo_latest_86 mo_cycles mo_stolen mo_interrupts mo_accesses_86 f_mra f_mrA f_mrc f_mrk f_mpi f_mwc f_mwo f_mco f_mpo f_mky f_mla f_mcn f_mct) H := hP
            have hD : va_D A (wwX7 q_mo q_mra q_mrA q_mrc q_mrk q_mpi q_mwc q_mwo q_mco q_mpo q_mky q_mla q_mcn q_mct k_mra k_mrA k_mrc k_mrk k_mpi k_mwc k_mwo k_mco k_mpo k_mky k_mla k_mcn k_mct mo_port mo_line mo_cycle mo_raised mo_idle mo_bad mo_glyph mo_fetched mo_rows mo_flags2_86 mo_enabled r_89 mo_x mo_y mo_s_86 mo_flags_89 mo_p mo_jammed mo_code (0:Int32) mo_low mo_high mo_old mo_latest_86 mo_cycles mo_stolen mo_interrupts mo_accesses_86 f_mra f_mrA f_mrc f_mrk f_mpi f_mwc f_mwo f_mco f_mpo f_mky f_mla f_mcn f_mct) := hD
            exact W.vret hx hb hr (fun t ht hW => ⟨⟨(mo_port, mo_raised, mo_rows, mo_flags2_86, mo_enabled, r_89, mo_s_86, mo_flags_89, (0:Int32), mo_latest_86, mo_accesses_86, f_mra, f_mpi, f_mco, f_mla, f_mcn, f_mct), rfl, hF.symm, by rw [ht]; exact hP, va_K.moved hW.alike hK, hD⟩, hS.F ht⟩) hS.2.2 dX7_stackStep_130
        · have hF := hF.trans (if_pos c_56)
          refine lv_aload_n hx hb dX7_stackStep_59 rfl (lv_at hl 0 rfl) ?_
          refine lv_iconst (v := 1) hx hb dX7_stackStep_60 (by decide) ?_
          have hPc := hP.sub (ws' := (wwX7 q_mo q_mra q_mrA q_mrc q_mrk q_mpi q_mwc q_mwo q_mco q_mpo q_mky q_mla q_mcn q_mct k_mra k_mrA k_mrc k_mrk k_mpi k_mwc k_mwo k_mco k_mpo k_mky k_mla k_mcn k_mct mo_port mo_line mo_cycle mo_raised mo_idle mo_bad mo_glyph mo_fetched mo_rows mo_flags2 mo_enabled mo_a mo_x mo_y mo_s mo_flags mo_p mo_jammed mo_code mo_step mo_low mo_high mo_old mo_latest mo_cycles mo_stolen mo_interrupts mo_accesses f_mra f_mrA f_mrc f_mrk f_mpi f_mwc f_mwo f_mco f_mpo f_mky f_mla f_mcn f_mct)) [0, 1, 2, 3, 4, 5, 6, 7, 8, 9, 10, 11, 12, 13] rfl
          have hDc := hD.sub (ws' := (wwX7 q_mo q_mra q_mrA q_mrc q_mrk q_mpi q_mwc q_mwo q_mco q_mpo q_mky q_mla q_mcn q_mct k_mra k_mrA k_mrc k_mrk k_mpi k_mwc k_mwo k_mco k_mpo k_mky k_mla k_mcn k_mct mo_port mo_line mo_cycle mo_raised mo_idle mo_bad mo_glyph mo_fetched mo_rows mo_flags2 mo_enabled mo_a mo_x mo_y mo_s mo_flags mo_p mo_jammed mo_code mo_step mo_low mo_high mo_old mo_latest mo_cycles mo_stolen mo_interrupts mo_accesses f_mra f_mrA f_mrc f_mrk f_mpi f_mwc f_mwo f_mco f_mpo f_mky f_mla f_mcn f_mct)) [0, 1, 2, 3, 4, 5, 6, 7, 8, 9, 10, 11, 12, 13] (by decide) rfl
          have hKc := hK.sub (tys' := [(k_mra, .int), (k_mrA, .int), (k_mrc, .int), (k_mrk, .int), (k_mpi, .int), (k_mwc, .int), (k_mwo, .int), (k_mco, .int), (k_mpo, .int), (k_mky, .int), (k_mla, .int), (k_mcn, .int), (k_mct, .int)]) [0, 1, 2, 3, 4, 5, 6, 7, 8, 9, 10, 11, 12] rfl
          have hFc := va_free (wc := (wwX7 q_mo q_mra q_mrA q_mrc q_mrk q_mpi q_mwc q_mwo q_mco q_mpo q_mky q_mla q_mcn q_mct k_mra k_mrA k_mrc k_mrk k_mpi k_mwc k_mwo k_mco k_mpo k_mky k_mla k_mcn k_mct mo_port mo_line mo_cycle mo_raised mo_idle mo_bad mo_glyph mo_fetched mo_rows mo_flags2 mo_enabled mo_a mo_x mo_y mo_s mo_flags mo_p mo_jammed mo_code mo_step mo_low mo_high mo_old mo_latest mo_cycles mo_stolen mo_interrupts mo_accesses f_mra f_mrA f_mrc f_mrk f_mpi f_mwc f_mwo f_mco f_mpo f_mky f_mla f_mcn f_mct)) hD hS hA [0, 1, 2, 3, 4, 5, 6, 7, 8, 9, 10, 11, 12, 13] rfl
          refine va_calli (va_runV (As := [.int (1:Int32)]) (rest := []) ⟨hx, hb, hml, hown, hts⟩ (mX7_pull l dC dI q_mo q_mra q_mrA q_mrc q_mrk q_mpi q_mwc q_mwo q_mco q_mpo q_mky q_mla q_mcn q_mct k_mra k_mrA k_mrc k_mrk k_mpi k_mwc k_mwo k_mco k_mpo k_mky k_mla k_mcn k_mct s.heap.size mo_port mo_line mo_cycle mo_raised mo_idle mo_bad mo_glyph mo_fetched mo_rows mo_flags2 mo_enabled mo_a mo_x mo_y mo_s mo_flags mo_p mo_jammed mo_code mo_step mo_low mo_high mo_old mo_latest mo_cycles mo_stolen mo_interrupts mo_accesses f_mra f_mrA f_mrc f_mrk f_mpi f_mwc f_mwo f_mco f_mpo f_mky f_mla f_mcn f_mct (1:Int32) hs_) (cwV 1 hts (ub_V kMX7_206 kYX7_pull kSX7_pull kIX7 kBX7_pull) rfl rfl rfl (by decide +kernel) ⟨Nat.le_of_ble_eq_true rfl, Nat.le_of_ble_eq_true rfl⟩) ⟨fun a U g mk q => by obtain ⟨q0, q1, qP, qK, qD⟩ := q; exact ⟨q0, q1, qP, va_K.moved (u := U) (U := U.calling g mk a) (Vm.Alike.refl U.vm) qK, qD⟩, va_recv hKc hPc (ci := 7) (q0 := 0) rfl rfl, fun U hU hW => ⟨rfl, by rw [hU], by rw [hU]; exact hPc, va_K.moved hW.alike hKc, hDc.weaken (fun _ _ _ _ => trivial)⟩⟩ rfl rfl hl.1 rfl (lv_room (Nat.le_of_ble_eq_true rfl)) dX7_stackStep_61 ⟨(Nat.zero_le _), (Nat.zero_le _)⟩) hS (fun q _ h => hFc q h) hFc (fun r_61 u_61 t H locs ht hvm hw hB hz1 hk1 hS => ?_)
          obtain ⟨mo_flags2_61, mo_s_61, mo_latest_61, mo_accesses_61⟩ := u_61
          obtain ⟨hP1, hK1, hD1⟩ := hB
          rw [ht] at hP1
          obtain ⟨hP, hD⟩ := vb_bk2 (wc := (wwX7 q_mo q_mra q_mrA q_mrc q_mrk q_mpi q_mwc q_mwo q_mco q_mpo q_mky q_mla q_mcn q_mct k_mra k_mrA k_mrc k_mrk k_mpi k_mwc k_mwo k_mco k_mpo k_mky k_mla k_mcn k_mct mo_port mo_line mo_cycle mo_raised mo_idle mo_bad mo_glyph mo_fetched mo_rows mo_flags2 mo_enabled mo_a mo_x mo_y mo_s mo_flags mo_p mo_jammed mo_code mo_step mo_low mo_high mo_old mo_latest mo_cycles mo_stolen mo_interrupts mo_accesses f_mra f_mrA f_mrc f_mrk f_mpi f_mwc f_mwo f_mco f_mpo f_mky f_mla f_mcn f_mct)) (ws' := (wwX7 q_mo q_mra q_mrA q_mrc q_mrk q_mpi q_mwc q_mwo q_mco q_mpo q_mky q_mla q_mcn q_mct k_mra k_mrA k_mrc k_mrk k_mpi k_mwc k_mwo k_mco k_mpo k_mky k_mla k_mcn k_mct mo_port mo_line mo_cycle mo_raised mo_idle mo_bad mo_glyph mo_fetched mo_rows mo_flags2_61 mo_enabled mo_a mo_x mo_y mo_s_61 mo_flags mo_p mo_jammed mo_code mo_step mo_low mo_high mo_old mo_latest_61 mo_cycles mo_stolen mo_interrupts mo_accesses_61 f_mra f_mrA f_mrc f_mrk f_mpi f_mwc f_mwo f_mco f_mpo f_mky f_mla f_mcn f_mct)) hP hD hD1 [0, 1, 2, 3, 4, 5, 6, 7, 8, 9, 10, 11, 12, 13] [] rfl [q_mo, q_mra, q_mrA, q_mrc, q_mrk, q_mpi, q_mwc, q_mwo, q_mco, q_mpo, q_mky, q_mla, q_mcn, q_mct] rfl rfl ae_n rfl rfl hk1 hP1
          rw [← hw] at hF
          dsimp only at hF
          refine lv_pop hx hb dX7_stackStep_64 rfl ?_
          refine lv_aload_n hx hb dX7_stackStep_65 rfl (lv_at hl 0 rfl) ?_
          refine va_get (D := (dC, dI)) (ci := 7) (v := .int mo_code) (C := RX7) (T := TX7) (N := 41) hx hb hts hiX7 hown hK hP 0 rfl rfl 31 (by decide) (hts _ kFX7_167) (fun _ h9 => h9) rfl dX7_stackStep_66 ?_
          refine lv_bipush (v := 104) hx hb dX7_stackStep_69 (by decide) ?_
          refine lv_icmp_ne (tgt := 95) hx hb dX7_stackStep_71 (by decide) (fun c_71 => by exact absurd c_48 c_71) (fun c_71 => ?_)
          refine lv_aload_n hx hb dX7_stackStep_74 rfl (lv_at hl 0 rfl) ?_
          refine va_get (D := (dC, dI)) (ci := 7) (v := .int mo_step) (C := RX7) (T := TX7) (N := 41) hx hb hts hiX7 hown hK hP 0 rfl rfl 32 (by decide) (hts _ kFX7_148) (fun _ h9 => h9) rfl dX7_stackStep_75 ?_
          refine lv_iconst (v := 3) hx hb dX7_stackStep_78 (by decide) ?_
          refine lv_icmp_ne (tgt := 95) hx hb dX7_stackStep_79 (by decide) (fun c_79 => ?_) (fun c_79 => by exact absurd c_79 (by rw [c_56]; decide))
          refine lv_aload_n hx hb dX7_stackStep_95 rfl (lv_at hl 0 rfl) ?_
          refine lv_aload_n hx hb dX7_stackStep_96 rfl (lv_at hl 0 rfl) ?_
          refine va_get (D := (dC, dI)) (ci := 7) (v := .int mo_step) (C := RX7) (T := TX7) (N := 41) hx hb hts hiX7 hown hK hP 0 rfl rfl 32 (by decide) (hts _ kFX7_148) (fun _ h9 => h9) rfl dX7_stackStep_97 ?_
          refine lv_aload_n hx hb dX7_stackStep_100 rfl (lv_at hl 0 rfl) ?_
          refine va_get (D := (dC, dI)) (ci := 7) (v := .int mo_code) (C := RX7) (T := TX7) (N := 41) hx hb hts hiX7 hown hK hP 0 rfl rfl 31 (by decide) (hts _ kFX7_167) (fun _ h9 => h9) rfl dX7_stackStep_101 ?_
          refine lv_bipush (v := 72) hx hb dX7_stackStep_104 (by decide) ?_
          refine lv_icmp_ne (tgt := 113) hx hb dX7_stackStep_106 (by decide) (fun c_106 => ?_) (fun c_106 => by exact absurd c_106 c_23)
          refine lv_iconst (v := 3) hx hb dX7_stackStep_113 (by decide) ?_
          refine lv_icmp_ne (tgt := 121) hx hb dX7_stackStep_114 (by decide) (fun c_114 => ?_) (fun c_114 => by exact absurd c_114 (by rw [c_56]; decide))
          refine lv_aload_n hx hb dX7_stackStep_121 rfl (lv_at hl 0 rfl) ?_
          refine va_get (D := (dC, dI)) (ci := 7) (v := .int mo_step) (C := RX7) (T := TX7) (N := 41) hx hb hts hiX7 hown hK hP 0 rfl rfl 32 (by decide) (hts _ kFX7_148) (fun _ h9 => h9) rfl dX7_stackStep_122 ?_
          refine lv_iconst (v := 1) hx hb dX7_stackStep_125 (by decide) ?_
          refine lv_iadd hx hb dX7_stackStep_126 ?_
          refine va_put (D := (dC, dI)) (ci := 7) (v := .int (mo_step + (1:Int32))) (ty := .int) (C := RX7) (T := TX7) (N := 41) hx hb hts hiX7 tyX7 tyX7_ok nmX7 hown hK hP hD hS 0 rfl rfl 32 (by decide) (hts _ kFX7_148) (fun _ h9 => h9) rfl (by decide +kernel) rfl rfl (Nat.le_of_ble_eq_true rfl) dX7_stackStep_127 (fun H locs hP hD hS => ?_)
          have hP : va_P (dC, dI) vwCl (wwX7 q_mo q_mra q_mrA q_mrc q_mrk q_mpi q_mwc q_mwo q_mco q_mpo q_mky q_mla q_mcn q_mct k_mra k_mrA k_mrc k_mrk k_mpi k_mwc k_mwo k_mco k_mpo k_mky k_mla k_mcn k_mct mo_port mo_line mo_cycle mo_raised mo_idle mo_bad mo_glyph mo_fetched mo_rows mo_flags2_61 mo_enabled mo_a mo_x mo_y mo_s_61 mo_flags mo_p mo_jammed mo_code (mo_step + (1:Int32)) mo_low mo_high mo_old mo_latest_61 mo_cycles mo_stolen mo_interrupts mo_accesses_61 f_mra f_mrA f_mrc f_mrk f_mpi f_mwc f_mwo f_mco f_mpo f_mky f_mla f_mcn f_mct) H := hP
          have hD : va_D A (wwX7 q_mo q_mra q_mrA q_mrc q_mrk q_mpi q_mwc q_mwo q_mco q_mpo q_mky q_mla q_mcn q_mct k_mra k_mrA k_mrc k_mrk k_mpi k_mwc k_mwo k_mco k_mpo k_mky k_mla k_mcn k_mct mo_port mo_line mo_cycle mo_raised mo_idle mo_bad mo_glyph mo_fetched mo_rows mo_flags2_61 mo_enabled mo_a mo_x mo_y mo_s_61 mo_flags mo_p mo_jammed mo_code (mo_step + (1:Int32)) mo_low mo_high mo_old mo_latest_61 mo_cycles mo_stolen mo_interrupts mo_accesses_61 f_mra f_mrA f_mrc f_mrk f_mpi f_mwc f_mwo f_mco f_mpo f_mky f_mla f_mcn f_mct) := hD
          exact W.vret hx hb hr (fun t ht hW => ⟨⟨(mo_port, mo_raised, mo_rows, mo_flags2_61, mo_enabled, mo_a, mo_s_61, mo_flags, (mo_step + (1:Int32)), mo_latest_61, mo_accesses_61, f_mra, f_mpi, f_mco, f_mla, f_mcn, f_mct), rfl, hF.symm, by rw [ht]; exact hP, va_K.moved hW.alike hK, hD⟩, hS.F ht⟩) hS.2.2 dX7_stackStep_130
    · have hF := hF.trans (if_pos c_23)
      refine lv_aload_n hx hb dX7_stackStep_26 rfl (lv_at hl 0 rfl) ?_
      refine va_get (D := (dC, dI)) (ci := 7) (v := .int mo_step) (C := RX7) (T := TX7) (N := 41) hx hb hts hiX7 hown hK hP 0 rfl rfl 32 (by decide) (hts _ kFX7_148) (fun _ h9 => h9) rfl dX7_stackStep_27 ?_
      refine lv_iconst (v := 2) hx hb dX7_stackStep_30 (by decide) ?_
      refine lv_icmp_ne (tgt := 42) hx hb dX7_stackStep_31 (by decide) (fun c_31 => ?_) (fun c_31 => ?_)
      · have hF := hF.trans (if_neg c_31)
        refine lv_aload_n hx hb dX7_stackStep_42 rfl (lv_at hl 0 rfl) ?_
        refine va_get (D := (dC, dI)) (ci := 7) (v := .int mo_code) (C := RX7) (T := TX7) (N := 41) hx hb hts hiX7 hown hK hP 0 rfl rfl 31 (by decide) (hts _ kFX7_167) (fun _ h9 => h9) rfl dX7_stackStep_43 ?_
        refine lv_bipush (v := 104) hx hb dX7_stackStep_46 (by decide) ?_
        refine lv_icmp_ne (tgt := 65) hx hb dX7_stackStep_48 (by decide) (fun c_48 => ?_) (fun c_48 => by exact absurd c_48 (by rw [c_23]; decide))
        refine lv_aload_n hx hb dX7_stackStep_65 rfl (lv_at hl 0 rfl) ?_
        refine va_get (D := (dC, dI)) (ci := 7) (v := .int mo_code) (C := RX7) (T := TX7) (N := 41) hx hb hts hiX7 hown hK hP 0 rfl rfl 31 (by decide) (hts _ kFX7_167) (fun _ h9 => h9) rfl dX7_stackStep_66 ?_
        refine lv_bipush (v := 104) hx hb dX7_stackStep_69 (by decide) ?_
        refine lv_icmp_ne (tgt := 95) hx hb dX7_stackStep_71 (by decide) (fun c_71 => ?_) (fun c_71 => by exact absurd c_71 (by rw [c_23]; decide))
        refine lv_aload_n hx hb dX7_stackStep_95 rfl (lv_at hl 0 rfl) ?_
        refine lv_aload_n hx hb dX7_stackStep_96 rfl (lv_at hl 0 rfl) ?_
        refine va_get (D := (dC, dI)) (ci := 7) (v := .int mo_step) (C := RX7) (T := TX7) (N := 41) hx hb hts hiX7 hown hK hP 0 rfl rfl 32 (by decide) (hts _ kFX7_148) (fun _ h9 => h9) rfl dX7_stackStep_97 ?_
        refine lv_aload_n hx hb dX7_stackStep_100 rfl (lv_at hl 0 rfl) ?_
        refine va_get (D := (dC, dI)) (ci := 7) (v := .int mo_code) (C := RX7) (T := TX7) (N := 41) hx hb hts hiX7 hown hK hP 0 rfl rfl 31 (by decide) (hts _ kFX7_167) (fun _ h9 => h9) rfl dX7_stackStep_101 ?_
        refine lv_bipush (v := 72) hx hb dX7_stackStep_104 (by decide) ?_
        refine lv_icmp_ne (tgt := 113) hx hb dX7_stackStep_106 (by decide) (fun c_106 => by exact absurd c_23 c_106) (fun c_106 => ?_)
        refine lv_iconst (v := 2) hx hb dX7_stackStep_109 (by decide) ?_
        refine lv_goto (tgt := 114) hx hb dX7_stackStep_110 (by decide) ?_
        refine lv_icmp_ne (tgt := 121) hx hb dX7_stackStep_114 (by decide) (fun c_114 => ?_) (fun c_114 => by exact absurd c_114 c_31)
        refine lv_aload_n hx hb dX7_stackStep_121 rfl (lv_at hl 0 rfl) ?_
        refine va_get (D := (dC, dI)) (ci := 7) (v := .int mo_step) (C := RX7) (T := TX7) (N := 41) hx hb hts hiX7 hown hK hP 0 rfl rfl 32 (by decide) (hts _ kFX7_148) (fun _ h9 => h9) rfl dX7_stackStep_122 ?_
        refine lv_iconst (v := 1) hx hb dX7_stackStep_125 (by decide) ?_
        refine lv_iadd hx hb dX7_stackStep_126 ?_
        refine va_put (D := (dC, dI)) (ci := 7) (v := .int (mo_step + (1:Int32))) (ty := .int) (C := RX7) (T := TX7) (N := 41) hx hb hts hiX7 tyX7 tyX7_ok nmX7 hown hK hP hD hS 0 rfl rfl 32 (by decide) (hts _ kFX7_148) (fun _ h9 => h9) rfl (by decide +kernel) rfl rfl (Nat.le_of_ble_eq_true rfl) dX7_stackStep_127 (fun H locs hP hD hS => ?_)
        have hP : va_P (dC, dI) vwCl (wwX7 q_mo q_mra q_mrA q_mrc q_mrk q_mpi q_mwc q_mwo q_mco q_mpo q_mky q_mla q_mcn q_mct k_mra k_mrA k_mrc k_mrk k_mpi k_mwc k_mwo k_mco k_mpo k_mky k_mla k_mcn k_mct mo_port mo_line mo_cycle mo_raised mo_idle mo_bad mo_glyph mo_fetched mo_rows mo_flags2 mo_enabled mo_a mo_x mo_y mo_s mo_flags mo_p mo_jammed mo_code (mo_step + (1:Int32)) mo_low mo_high mo_old mo_latest mo_cycles mo_stolen mo_interrupts mo_accesses f_mra f_mrA f_mrc f_mrk f_mpi f_mwc f_mwo f_mco f_mpo f_mky f_mla f_mcn f_mct) H := hP
        have hD : va_D A (wwX7 q_mo q_mra q_mrA q_mrc q_mrk q_mpi q_mwc q_mwo q_mco q_mpo q_mky q_mla q_mcn q_mct k_mra k_mrA k_mrc k_mrk k_mpi k_mwc k_mwo k_mco k_mpo k_mky k_mla k_mcn k_mct mo_port mo_line mo_cycle mo_raised mo_idle mo_bad mo_glyph mo_fetched mo_rows mo_flags2 mo_enabled mo_a mo_x mo_y mo_s mo_flags mo_p mo_jammed mo_code (mo_step + (1:Int32)) mo_low mo_high mo_old mo_latest mo_cycles mo_stolen mo_interrupts mo_accesses f_mra f_mrA f_mrc f_mrk f_mpi f_mwc f_mwo f_mco f_mpo f_mky f_mla f_mcn f_mct) := hD
        exact W.vret hx hb hr (fun t ht hW => ⟨⟨(mo_port, mo_raised, mo_rows, mo_flags2, mo_enabled, mo_a, mo_s, mo_flags, (mo_step + (1:Int32)), mo_latest, mo_accesses, f_mra, f_mpi, f_mco, f_mla, f_mcn, f_mct), rfl, hF.symm, by rw [ht]; exact hP, va_K.moved hW.alike hK, hD⟩, hS.F ht⟩) hS.2.2 dX7_stackStep_130
      · have hF := hF.trans (if_pos c_31)
        refine lv_aload_n hx hb dX7_stackStep_34 rfl (lv_at hl 0 rfl) ?_
        refine lv_aload_n hx hb dX7_stackStep_35 rfl (lv_at hl 0 rfl) ?_
        refine va_get (D := (dC, dI)) (ci := 7) (v := .int mo_a) (C := RX7) (T := TX7) (N := 41) hx hb hts hiX7 hown hK hP 0 rfl rfl 24 (by decide) (hts _ kFX7_136) (fun _ h9 => h9) rfl dX7_stackStep_36 ?_
        have hPc := hP.sub (ws' := (wwX7 q_mo q_mra q_mrA q_mrc q_mrk q_mpi q_mwc q_mwo q_mco q_mpo q_mky q_mla q_mcn q_mct k_mra k_mrA k_mrc k_mrk k_mpi k_mwc k_mwo k_mco k_mpo k_mky k_mla k_mcn k_mct mo_port mo_line mo_cycle mo_raised mo_idle mo_bad mo_glyph mo_fetched mo_rows mo_flags2 mo_enabled mo_a mo_x mo_y mo_s mo_flags mo_p mo_jammed mo_code mo_step mo_low mo_high mo_old mo_latest mo_cycles mo_stolen mo_interrupts mo_accesses f_mra f_mrA f_mrc f_mrk f_mpi f_mwc f_mwo f_mco f_mpo f_mky f_mla f_mcn f_mct)) [0, 1, 2, 3, 4, 5, 6, 7, 8, 9, 10, 11, 12, 13] rfl
        have hDc := hD.sub (ws' := (wwX7 q_mo q_mra q_mrA q_mrc q_mrk q_mpi q_mwc q_mwo q_mco q_mpo q_mky q_mla q_mcn q_mct k_mra k_mrA k_mrc k_mrk k_mpi k_mwc k_mwo k_mco k_mpo k_mky k_mla k_mcn k_mct mo_port mo_line mo_cycle mo_raised mo_idle mo_bad mo_glyph mo_fetched mo_rows mo_flags2 mo_enabled mo_a mo_x mo_y mo_s mo_flags mo_p mo_jammed mo_code mo_step mo_low mo_high mo_old mo_latest mo_cycles mo_stolen mo_interrupts mo_accesses f_mra f_mrA f_mrc f_mrk f_mpi f_mwc f_mwo f_mco f_mpo f_mky f_mla f_mcn f_mct)) [0, 1, 2, 3, 4, 5, 6, 7, 8, 9, 10, 11, 12, 13] (by decide) rfl
        have hKc := hK.sub (tys' := [(k_mra, .int), (k_mrA, .int), (k_mrc, .int), (k_mrk, .int), (k_mpi, .int), (k_mwc, .int), (k_mwo, .int), (k_mco, .int), (k_mpo, .int), (k_mky, .int), (k_mla, .int), (k_mcn, .int), (k_mct, .int)]) [0, 1, 2, 3, 4, 5, 6, 7, 8, 9, 10, 11, 12] rfl
        have hFc := va_free (wc := (wwX7 q_mo q_mra q_mrA q_mrc q_mrk q_mpi q_mwc q_mwo q_mco q_mpo q_mky q_mla q_mcn q_mct k_mra k_mrA k_mrc k_mrk k_mpi k_mwc k_mwo k_mco k_mpo k_mky k_mla k_mcn k_mct mo_port mo_line mo_cycle mo_raised mo_idle mo_bad mo_glyph mo_fetched mo_rows mo_flags2 mo_enabled mo_a mo_x mo_y mo_s mo_flags mo_p mo_jammed mo_code mo_step mo_low mo_high mo_old mo_latest mo_cycles mo_stolen mo_interrupts mo_accesses f_mra f_mrA f_mrc f_mrk f_mpi f_mwc f_mwo f_mco f_mpo f_mky f_mla f_mcn f_mct)) hD hS hA [0, 1, 2, 3, 4, 5, 6, 7, 8, 9, 10, 11, 12, 13] rfl
        refine va_callv (va_runV (As := [.int mo_a]) (rest := []) ⟨hx, hb, hml, hown, hts⟩ (mX7_push l dC dI q_mo q_mra q_mrA q_mrc q_mrk q_mpi q_mwc q_mwo q_mco q_mpo q_mky q_mla q_mcn q_mct k_mra k_mrA k_mrc k_mrk k_mpi k_mwc k_mwo k_mco k_mpo k_mky k_mla k_mcn k_mct s.heap.size mo_port mo_line mo_cycle mo_raised mo_idle mo_bad mo_glyph mo_fetched mo_rows mo_flags2 mo_enabled mo_a mo_x mo_y mo_s mo_flags mo_p mo_jammed mo_code mo_step mo_low mo_high mo_old mo_latest mo_cycles mo_stolen mo_interrupts mo_accesses f_mra f_mrA f_mrc f_mrk f_mpi f_mwc f_mwo f_mco f_mpo f_mky f_mla f_mcn f_mct mo_a hs_) (cwV 1 hts (ub_V kMX7_200 kYX7_push kSX7_push kIX7 kBX7_push) rfl rfl rfl (by decide +kernel) ⟨Nat.le_of_ble_eq_true rfl, Nat.le_of_ble_eq_true rfl⟩) ⟨fun a U g mk q => by obtain ⟨q0, q1, qP, qK, qD⟩ := q; exact ⟨q0, q1, qP, va_K.moved (u := U) (U := U.calling g mk a) (Vm.Alike.refl U.vm) qK, qD⟩, va_recv hKc hPc (ci := 7) (q0 := 0) rfl rfl, fun U hU hW => ⟨rfl, by rw [hU], by rw [hU]; exact hPc, va_K.moved hW.alike hKc, hDc.weaken (fun _ _ _ _ => trivial)⟩⟩ rfl rfl hl.1 rfl (lv_room (Nat.le_of_ble_eq_true rfl)) dX7_stackStep_39 ⟨(Nat.zero_le _), (Nat.zero_le _)⟩) hS (fun q _ h => hFc q h) hFc (fun u_39 t H locs ht hvm hw hB hz1 hk1 hS => ?_)
        obtain ⟨mo_port_39, mo_raised_39, mo_rows_39, mo_enabled_39, mo_s_39, mo_latest_39, mo_accesses_39, f_mra_39, f_mpi_39, f_mco_39, f_mla_39, f_mcn_39, f_mct_39⟩ := u_39
        obtain ⟨hP1, hK1, hD1⟩ := hB
        rw [ht] at hP1
        obtain ⟨hP, hD⟩ := vb_bk2 (wc := (wwX7 q_mo q_mra q_mrA q_mrc q_mrk q_mpi q_mwc q_mwo q_mco q_mpo q_mky q_mla q_mcn q_mct k_mra k_mrA k_mrc k_mrk k_mpi k_mwc k_mwo k_mco k_mpo k_mky k_mla k_mcn k_mct mo_port mo_line mo_cycle mo_raised mo_idle mo_bad mo_glyph mo_fetched mo_rows mo_flags2 mo_enabled mo_a mo_x mo_y mo_s mo_flags mo_p mo_jammed mo_code mo_step mo_low mo_high mo_old mo_latest mo_cycles mo_stolen mo_interrupts mo_accesses f_mra f_mrA f_mrc f_mrk f_mpi f_mwc f_mwo f_mco f_mpo f_mky f_mla f_mcn f_mct)) (ws' := (wwX7 q_mo q_mra q_mrA q_mrc q_mrk q_mpi q_mwc q_mwo q_mco q_mpo q_mky q_mla q_mcn q_mct k_mra k_mrA k_mrc k_mrk k_mpi k_mwc k_mwo k_mco k_mpo k_mky k_mla k_mcn k_mct mo_port_39 mo_line mo_cycle mo_raised_39 mo_idle mo_bad mo_glyph mo_fetched mo_rows_39 mo_flags2 mo_enabled_39 mo_a mo_x mo_y mo_s_39 mo_flags mo_p mo_jammed mo_code mo_step mo_low mo_high mo_old mo_latest_39 mo_cycles mo_stolen mo_interrupts mo_accesses_39 f_mra_39 f_mrA f_mrc f_mrk f_mpi_39 f_mwc f_mwo f_mco_39 f_mpo f_mky f_mla_39 f_mcn_39 f_mct_39)) hP hD hD1 [0, 1, 2, 3, 4, 5, 6, 7, 8, 9, 10, 11, 12, 13] [] rfl [q_mo, q_mra, q_mrA, q_mrc, q_mrk, q_mpi, q_mwc, q_mwo, q_mco, q_mpo, q_mky, q_mla, q_mcn, q_mct] rfl rfl ae_n rfl rfl hk1 hP1
        rw [← hw] at hF
        dsimp only at hF
        refine lv_aload_n hx hb dX7_stackStep_42 rfl (lv_at hl 0 rfl) ?_
        refine va_get (D := (dC, dI)) (ci := 7) (v := .int mo_code) (C := RX7) (T := TX7) (N := 41) hx hb hts hiX7 hown hK hP 0 rfl rfl 31 (by decide) (hts _ kFX7_167) (fun _ h9 => h9) rfl dX7_stackStep_43 ?_
        refine lv_bipush (v := 104) hx hb dX7_stackStep_46 (by decide) ?_
        refine lv_icmp_ne (tgt := 65) hx hb dX7_stackStep_48 (by decide) (fun c_48 => ?_) (fun c_48 => by exact absurd c_48 (by rw [c_23]; decide))
        refine lv_aload_n hx hb dX7_stackStep_65 rfl (lv_at hl 0 rfl) ?_
        refine va_get (D := (dC, dI)) (ci := 7) (v := .int mo_code) (C := RX7) (T := TX7) (N := 41) hx hb hts hiX7 hown hK hP 0 rfl rfl 31 (by decide) (hts _ kFX7_167) (fun _ h9 => h9) rfl dX7_stackStep_66 ?_
        refine lv_bipush (v := 104) hx hb dX7_stackStep_69 (by decide) ?_
        refine lv_icmp_ne (tgt := 95) hx hb dX7_stackStep_71 (by decide) (fun c_71 => ?_) (fun c_71 => by exact absurd c_71 (by rw [c_23]; decide))
        refine lv_aload_n hx hb dX7_stackStep_95 rfl (lv_at hl 0 rfl) ?_
        refine lv_aload_n hx hb dX7_stackStep_96 rfl (lv_at hl 0 rfl) ?_
        refine va_get (D := (dC, dI)) (ci := 7) (v := .int mo_step) (C := RX7) (T := TX7) (N := 41) hx hb hts hiX7 hown hK hP 0 rfl rfl 32 (by decide) (hts _ kFX7_148) (fun _ h9 => h9) rfl dX7_stackStep_97 ?_
        refine lv_aload_n hx hb dX7_stackStep_100 rfl (lv_at hl 0 rfl) ?_
        refine va_get (D := (dC, dI)) (ci := 7) (v := .int mo_code) (C := RX7) (T := TX7) (N := 41) hx hb hts hiX7 hown hK hP 0 rfl rfl 31 (by decide) (hts _ kFX7_167) (fun _ h9 => h9) rfl dX7_stackStep_101 ?_
        refine lv_bipush (v := 72) hx hb dX7_stackStep_104 (by decide) ?_
        refine lv_icmp_ne (tgt := 113) hx hb dX7_stackStep_106 (by decide) (fun c_106 => by exact absurd c_23 c_106) (fun c_106 => ?_)
        refine lv_iconst (v := 2) hx hb dX7_stackStep_109 (by decide) ?_
        refine lv_goto (tgt := 114) hx hb dX7_stackStep_110 (by decide) ?_
        refine lv_icmp_ne (tgt := 121) hx hb dX7_stackStep_114 (by decide) (fun c_114 => by exact absurd c_31 c_114) (fun c_114 => ?_)
        refine lv_iconst (v := 0) hx hb dX7_stackStep_117 (by decide) ?_
        refine lv_goto (tgt := 127) hx hb dX7_stackStep_118 (by decide) ?_
        refine va_put (D := (dC, dI)) (ci := 7) (v := .int (0:Int32)) (ty := .int) (C := RX7) (T := TX7) (N := 41) hx hb hts hiX7 tyX7 tyX7_ok nmX7 hown hK hP hD hS 0 rfl rfl 32 (by decide) (hts _ kFX7_148) (fun _ h9 => h9) rfl (by decide +kernel) rfl rfl (Nat.le_of_ble_eq_true rfl) dX7_stackStep_127 (fun H locs hP hD hS => ?_)
        have hP : va_P (dC, dI) vwCl (wwX7 q_mo q_mra q_mrA q_mrc q_mrk q_mpi q_mwc q_mwo q_mco q_mpo q_mky q_mla q_mcn q_mct k_mra k_mrA k_mrc k_mrk k_mpi k_mwc k_mwo k_mco k_mpo k_mky k_mla k_mcn k_mct mo_port_39 mo_line mo_cycle mo_raised_39 mo_idle mo_bad mo_glyph mo_fetched mo_rows_39 mo_flags2 mo_enabled_39 mo_a mo_x mo_y mo_s_39 mo_flags mo_p mo_jammed mo_code (0:Int32) mo_low mo_high mo_old mo_latest_39 mo_cycles mo_stolen mo_interrupts mo_accesses_39 f_mra_39 f_mrA f_mrc f_mrk f_mpi_39 f_mwc f_mwo f_mco_39 f_mpo f_mky f_mla_39 f_mcn_39 f_mct_39) H := hP
        have hD : va_D A (wwX7 q_mo q_mra q_mrA q_mrc q_mrk q_mpi q_mwc q_mwo q_mco q_mpo q_mky q_mla q_mcn q_mct k_mra k_mrA k_mrc k_mrk k_mpi k_mwc k_mwo k_mco k_mpo k_mky k_mla k_mcn k_mct mo_port_39 mo_line mo_cycle mo_raised_39 mo_idle mo_bad mo_glyph mo_fetched mo_rows_39 mo_flags2 mo_enabled_39 mo_a mo_x mo_y mo_s_39 mo_flags mo_p mo_jammed mo_code (0:Int32) mo_low mo_high mo_old mo_latest_39 mo_cycles mo_stolen mo_interrupts mo_accesses_39 f_mra_39 f_mrA f_mrc f_mrk f_mpi_39 f_mwc f_mwo f_mco_39 f_mpo f_mky f_mla_39 f_mcn_39 f_mct_39) := hD
        exact W.vret hx hb hr (fun t ht hW => ⟨⟨(mo_port_39, mo_raised_39, mo_rows_39, mo_flags2, mo_enabled_39, mo_a, mo_s_39, mo_flags, (0:Int32), mo_latest_39, mo_accesses_39, f_mra_39, f_mpi_39, f_mco_39, f_mla_39, f_mcn_39, f_mct_39), rfl, hF.symm, by rw [ht]; exact hP, va_K.moved hW.alike hK, hD⟩, hS.F ht⟩) hS.2.2 dX7_stackStep_130
  · have hF := hF.trans (if_pos c_5)
    refine lv_aload_n hx hb dX7_stackStep_8 rfl (lv_at hl 0 rfl) ?_
    refine lv_aload_n hx hb dX7_stackStep_9 rfl (lv_at hl 0 rfl) ?_
    refine va_get (D := (dC, dI)) (ci := 7) (v := .int mo_p) (C := RX7) (T := TX7) (N := 41) hx hb hts hiX7 hown hK hP 0 rfl rfl 29 (by decide) (hts _ kFX7_145) (fun _ h9 => h9) rfl dX7_stackStep_10 ?_
    have hPc := hP.sub (ws' := (wwX7 q_mo q_mra q_mrA q_mrc q_mrk q_mpi q_mwc q_mwo q_mco q_mpo q_mky q_mla q_mcn q_mct k_mra k_mrA k_mrc k_mrk k_mpi k_mwc k_mwo k_mco k_mpo k_mky k_mla k_mcn k_mct mo_port mo_line mo_cycle mo_raised mo_idle mo_bad mo_glyph mo_fetched mo_rows mo_flags2 mo_enabled mo_a mo_x mo_y mo_s mo_flags mo_p mo_jammed mo_code mo_step mo_low mo_high mo_old mo_latest mo_cycles mo_stolen mo_interrupts mo_accesses f_mra f_mrA f_mrc f_mrk f_mpi f_mwc f_mwo f_mco f_mpo f_mky f_mla f_mcn f_mct)) [0, 1, 2, 3, 4, 5, 6, 7, 8, 9, 10, 11, 12, 13] rfl
    have hDc := hD.sub (ws' := (wwX7 q_mo q_mra q_mrA q_mrc q_mrk q_mpi q_mwc q_mwo q_mco q_mpo q_mky q_mla q_mcn q_mct k_mra k_mrA k_mrc k_mrk k_mpi k_mwc k_mwo k_mco k_mpo k_mky k_mla k_mcn k_mct mo_port mo_line mo_cycle mo_raised mo_idle mo_bad mo_glyph mo_fetched mo_rows mo_flags2 mo_enabled mo_a mo_x mo_y mo_s mo_flags mo_p mo_jammed mo_code mo_step mo_low mo_high mo_old mo_latest mo_cycles mo_stolen mo_interrupts mo_accesses f_mra f_mrA f_mrc f_mrk f_mpi f_mwc f_mwo f_mco f_mpo f_mky f_mla f_mcn f_mct)) [0, 1, 2, 3, 4, 5, 6, 7, 8, 9, 10, 11, 12, 13] (by decide) rfl
    have hKc := hK.sub (tys' := [(k_mra, .int), (k_mrA, .int), (k_mrc, .int), (k_mrk, .int), (k_mpi, .int), (k_mwc, .int), (k_mwo, .int), (k_mco, .int), (k_mpo, .int), (k_mky, .int), (k_mla, .int), (k_mcn, .int), (k_mct, .int)]) [0, 1, 2, 3, 4, 5, 6, 7, 8, 9, 10, 11, 12] rfl
    have hFc := va_free (wc := (wwX7 q_mo q_mra q_mrA q_mrc q_mrk q_mpi q_mwc q_mwo q_mco q_mpo q_mky q_mla q_mcn q_mct k_mra k_mrA k_mrc k_mrk k_mpi k_mwc k_mwo k_mco k_mpo k_mky k_mla k_mcn k_mct mo_port mo_line mo_cycle mo_raised mo_idle mo_bad mo_glyph mo_fetched mo_rows mo_flags2 mo_enabled mo_a mo_x mo_y mo_s mo_flags mo_p mo_jammed mo_code mo_step mo_low mo_high mo_old mo_latest mo_cycles mo_stolen mo_interrupts mo_accesses f_mra f_mrA f_mrc f_mrk f_mpi f_mwc f_mwo f_mco f_mpo f_mky f_mla f_mcn f_mct)) hD hS hA [0, 1, 2, 3, 4, 5, 6, 7, 8, 9, 10, 11, 12, 13] rfl
    refine va_calli (va_runV (As := [.int mo_p]) (rest := []) ⟨hx, hb, hml, hown, hts⟩ (mX7_read l dC dI q_mo q_mra q_mrA q_mrc q_mrk q_mpi q_mwc q_mwo q_mco q_mpo q_mky q_mla q_mcn q_mct k_mra k_mrA k_mrc k_mrk k_mpi k_mwc k_mwo k_mco k_mpo k_mky k_mla k_mcn k_mct s.heap.size mo_port mo_line mo_cycle mo_raised mo_idle mo_bad mo_glyph mo_fetched mo_rows mo_flags2 mo_enabled mo_a mo_x mo_y mo_s mo_flags mo_p mo_jammed mo_code mo_step mo_low mo_high mo_old mo_latest mo_cycles mo_stolen mo_interrupts mo_accesses f_mra f_mrA f_mrc f_mrk f_mpi f_mwc f_mwo f_mco f_mpo f_mky f_mla f_mcn f_mct mo_p (rg_nn hp)) (cwV 1 hts (ub_V kMX7_161 kYX7_read kSX7_read kIX7 kBX7_read) rfl rfl rfl (by decide +kernel) ⟨Nat.le_of_ble_eq_true rfl, Nat.le_of_ble_eq_true rfl⟩) ⟨fun a U g mk q => by obtain ⟨q0, q1, qP, qK, qD⟩ := q; exact ⟨q0, q1, qP, va_K.moved (u := U) (U := U.calling g mk a) (Vm.Alike.refl U.vm) qK, qD⟩, va_recv hKc hPc (ci := 7) (q0 := 0) rfl rfl, fun U hU hW => ⟨rfl, by rw [hU], by rw [hU]; exact hPc, va_K.moved hW.alike hKc, hDc.weaken (fun _ _ _ _ => trivial)⟩⟩ rfl rfl hl.1 rfl (lv_room (Nat.le_of_ble_eq_true rfl)) dX7_stackStep_13 ⟨(Nat.zero_le _), (Nat.zero_le _)⟩) hS (fun q _ h => hFc q h) hFc (fun r_13 u_13 t H locs ht hvm hw hB hz1 hk1 hS => ?_)
    obtain ⟨mo_flags2_13, mo_latest_13, mo_accesses_13⟩ := u_13
    obtain ⟨hP1, hK1, hD1⟩ := hB
    rw [ht] at hP1
    obtain ⟨hP, hD⟩ := vb_bk2 (wc := (wwX7 q_mo q_mra q_mrA q_mrc q_mrk q_mpi q_mwc q_mwo q_mco q_mpo q_mky q_mla q_mcn q_mct k_mra k_mrA k_mrc k_mrk k_mpi k_mwc k_mwo k_mco k_mpo k_mky k_mla k_mcn k_mct mo_port mo_line mo_cycle mo_raised mo_idle mo_bad mo_glyph mo_fetched mo_rows mo_flags2 mo_enabled mo_a mo_x mo_y mo_s mo_flags mo_p mo_jammed mo_code mo_step mo_low mo_high mo_old mo_latest mo_cycles mo_stolen mo_interrupts mo_accesses f_mra f_mrA f_mrc f_mrk f_mpi f_mwc f_mwo f_mco f_mpo f_mky f_mla f_mcn f_mct)) (ws' := (wwX7 q_mo q_mra q_mrA q_mrc q_mrk q_mpi q_mwc q_mwo q_mco q_mpo q_mky q_mla q_mcn q_mct k_mra k_mrA k_mrc k_mrk k_mpi k_mwc k_mwo k_mco k_mpo k_mky k_mla k_mcn k_mct mo_port mo_line mo_cycle mo_raised mo_idle mo_bad mo_glyph mo_fetched mo_rows mo_flags2_13 mo_enabled mo_a mo_x mo_y mo_s mo_flags mo_p mo_jammed mo_code mo_step mo_low mo_high mo_old mo_latest_13 mo_cycles mo_stolen mo_interrupts mo_accesses_13 f_mra f_mrA f_mrc f_mrk f_mpi f_mwc f_mwo f_mco f_mpo f_mky f_mla f_mcn f_mct)) hP hD hD1 [0, 1, 2, 3, 4, 5, 6, 7, 8, 9, 10, 11, 12, 13] [] rfl [q_mo, q_mra, q_mrA, q_mrc, q_mrk, q_mpi, q_mwc, q_mwo, q_mco, q_mpo, q_mky, q_mla, q_mcn, q_mct] rfl rfl ae_n rfl rfl hk1 hP1
    rw [← hw] at hF
    dsimp only at hF
    refine lv_pop hx hb dX7_stackStep_16 rfl ?_
    refine lv_aload_n hx hb dX7_stackStep_17 rfl (lv_at hl 0 rfl) ?_
    refine va_get (D := (dC, dI)) (ci := 7) (v := .int mo_code) (C := RX7) (T := TX7) (N := 41) hx hb hts hiX7 hown hK hP 0 rfl rfl 31 (by decide) (hts _ kFX7_167) (fun _ h9 => h9) rfl dX7_stackStep_18 ?_
    refine lv_bipush (v := 72) hx hb dX7_stackStep_21 (by decide) ?_
    refine lv_icmp_ne (tgt := 42) hx hb dX7_stackStep_23 (by decide) (fun c_23 => ?_) (fun c_23 => ?_)
    · have hF := hF.trans (if_neg c_23)
      refine lv_aload_n hx hb dX7_stackStep_42 rfl (lv_at hl 0 rfl) ?_
      refine va_get (D := (dC, dI)) (ci := 7) (v := .int mo_code) (C := RX7) (T := TX7) (N := 41) hx hb hts hiX7 hown hK hP 0 rfl rfl 31 (by decide) (hts _ kFX7_167) (fun _ h9 => h9) rfl dX7_stackStep_43 ?_
      refine lv_bipush (v := 104) hx hb dX7_stackStep_46 (by decide) ?_
      refine lv_icmp_ne (tgt := 65) hx hb dX7_stackStep_48 (by decide) (fun c_48 => ?_) (fun c_48 => ?_)
      · have hF := hF.trans (if_neg c_48)
        refine lv_aload_n hx hb dX7_stackStep_65 rfl (lv_at hl 0 rfl) ?_
        refine va_get (D := (dC, dI)) (ci := 7) (v := .int mo_code) (C := RX7) (T := TX7) (N := 41) hx hb hts hiX7 hown hK hP 0 rfl rfl 31 (by decide) (hts _ kFX7_167) (fun _ h9 => h9) rfl dX7_stackStep_66 ?_
        refine lv_bipush (v := 104) hx hb dX7_stackStep_69 (by decide) ?_
        refine lv_icmp_ne (tgt := 95) hx hb dX7_stackStep_71 (by decide) (fun c_71 => ?_) (fun c_71 => by exact absurd c_71 c_48)
        refine lv_aload_n hx hb dX7_stackStep_95 rfl (lv_at hl 0 rfl) ?_
        refine lv_aload_n hx hb dX7_stackStep_96 rfl (lv_at hl 0 rfl) ?_
        refine va_get (D := (dC, dI)) (ci := 7) (v := .int mo_step) (C := RX7) (T := TX7) (N := 41) hx hb hts hiX7 hown hK hP 0 rfl rfl 32 (by decide) (hts _ kFX7_148) (fun _ h9 => h9) rfl dX7_stackStep_97 ?_
        refine lv_aload_n hx hb dX7_stackStep_100 rfl (lv_at hl 0 rfl) ?_
        refine va_get (D := (dC, dI)) (ci := 7) (v := .int mo_code) (C := RX7) (T := TX7) (N := 41) hx hb hts hiX7 hown hK hP 0 rfl rfl 31 (by decide) (hts _ kFX7_167) (fun _ h9 => h9) rfl dX7_stackStep_101 ?_
        refine lv_bipush (v := 72) hx hb dX7_stackStep_104 (by decide) ?_
        refine lv_icmp_ne (tgt := 113) hx hb dX7_stackStep_106 (by decide) (fun c_106 => ?_) (fun c_106 => by exact absurd c_106 c_23)
        refine lv_iconst (v := 3) hx hb dX7_stackStep_113 (by decide) ?_
        refine lv_icmp_ne (tgt := 121) hx hb dX7_stackStep_114 (by decide) (fun c_114 => ?_) (fun c_114 => by exact absurd c_114 (by rw [c_5]; decide))
        refine lv_aload_n hx hb dX7_stackStep_121 rfl (lv_at hl 0 rfl) ?_
        refine va_get (D := (dC, dI)) (ci := 7) (v := .int mo_step) (C := RX7) (T := TX7) (N := 41) hx hb hts hiX7 hown hK hP 0 rfl rfl 32 (by decide) (hts _ kFX7_148) (fun _ h9 => h9) rfl dX7_stackStep_122 ?_
        refine lv_iconst (v := 1) hx hb dX7_stackStep_125 (by decide) ?_
        refine lv_iadd hx hb dX7_stackStep_126 ?_
        refine va_put (D := (dC, dI)) (ci := 7) (v := .int (mo_step + (1:Int32))) (ty := .int) (C := RX7) (T := TX7) (N := 41) hx hb hts hiX7 tyX7 tyX7_ok nmX7 hown hK hP hD hS 0 rfl rfl 32 (by decide) (hts _ kFX7_148) (fun _ h9 => h9) rfl (by decide +kernel) rfl rfl (Nat.le_of_ble_eq_true rfl) dX7_stackStep_127 (fun H locs hP hD hS => ?_)
        have hP : va_P (dC, dI) vwCl (wwX7 q_mo q_mra q_mrA q_mrc q_mrk q_mpi q_mwc q_mwo q_mco q_mpo q_mky q_mla q_mcn q_mct k_mra k_mrA k_mrc k_mrk k_mpi k_mwc k_mwo k_mco k_mpo k_mky k_mla k_mcn k_mct mo_port mo_line mo_cycle mo_raised mo_idle mo_bad mo_glyph mo_fetched mo_rows mo_flags2_13 mo_enabled mo_a mo_x mo_y mo_s mo_flags mo_p mo_jammed mo_code (mo_step + (1:Int32)) mo_low mo_high mo_old mo_latest_13 mo_cycles mo_stolen mo_interrupts mo_accesses_13 f_mra f_mrA f_mrc f_mrk f_mpi f_mwc f_mwo f_mco f_mpo f_mky f_mla f_mcn f_mct) H := hP
        have hD : va_D A (wwX7 q_mo q_mra q_mrA q_mrc q_mrk q_mpi q_mwc q_mwo q_mco q_mpo q_mky q_mla q_mcn q_mct k_mra k_mrA k_mrc k_mrk k_mpi k_mwc k_mwo k_mco k_mpo k_mky k_mla k_mcn k_mct mo_port mo_line mo_cycle mo_raised mo_idle mo_bad mo_glyph mo_fetched mo_rows mo_flags2_13 mo_enabled mo_a mo_x mo_y mo_s mo_flags mo_p mo_jammed mo_code (mo_step + (1:Int32)) mo_low mo_high mo_old mo_latest_13 mo_cycles mo_stolen mo_interrupts mo_accesses_13 f_mra f_mrA f_mrc f_mrk f_mpi f_mwc f_mwo f_mco f_mpo f_mky f_mla f_mcn f_mct) := hD
        exact W.vret hx hb hr (fun t ht hW => ⟨⟨(mo_port, mo_raised, mo_rows, mo_flags2_13, mo_enabled, mo_a, mo_s, mo_flags, (mo_step + (1:Int32)), mo_latest_13, mo_accesses_13, f_mra, f_mpi, f_mco, f_mla, f_mcn, f_mct), rfl, hF.symm, by rw [ht]; exact hP, va_K.moved hW.alike hK, hD⟩, hS.F ht⟩) hS.2.2 dX7_stackStep_130
      · have hF := hF.trans (if_pos c_48)
        refine lv_aload_n hx hb dX7_stackStep_51 rfl (lv_at hl 0 rfl) ?_
        refine va_get (D := (dC, dI)) (ci := 7) (v := .int mo_step) (C := RX7) (T := TX7) (N := 41) hx hb hts hiX7 hown hK hP 0 rfl rfl 32 (by decide) (hts _ kFX7_148) (fun _ h9 => h9) rfl dX7_stackStep_52 ?_
        refine lv_iconst (v := 2) hx hb dX7_stackStep_55 (by decide) ?_
        refine lv_icmp_ne (tgt := 65) hx hb dX7_stackStep_56 (by decide) (fun c_56 => ?_) (fun c_56 => by exact absurd c_56 (by rw [c_5]; decide))
        refine lv_aload_n hx hb dX7_stackStep_65 rfl (lv_at hl 0 rfl) ?_
        refine va_get (D := (dC, dI)) (ci := 7) (v := .int mo_code) (C := RX7) (T := TX7) (N := 41) hx hb hts hiX7 hown hK hP 0 rfl rfl 31 (by decide) (hts _ kFX7_167) (fun _ h9 => h9) rfl dX7_stackStep_66 ?_
        refine lv_bipush (v := 104) hx hb dX7_stackStep_69 (by decide) ?_
        refine lv_icmp_ne (tgt := 95) hx hb dX7_stackStep_71 (by decide) (fun c_71 => by exact absurd c_48 c_71) (fun c_71 => ?_)
        refine lv_aload_n hx hb dX7_stackStep_74 rfl (lv_at hl 0 rfl) ?_
        refine va_get (D := (dC, dI)) (ci := 7) (v := .int mo_step) (C := RX7) (T := TX7) (N := 41) hx hb hts hiX7 hown hK hP 0 rfl rfl 32 (by decide) (hts _ kFX7_148) (fun _ h9 => h9) rfl dX7_stackStep_75 ?_
        refine lv_iconst (v := 3) hx hb dX7_stackStep_78 (by decide) ?_
        refine lv_icmp_ne (tgt := 95) hx hb dX7_stackStep_79 (by decide) (fun c_79 => ?_) (fun c_79 => by exact absurd c_79 (by rw [c_5]; decide))
        refine lv_aload_n hx hb dX7_stackStep_95 rfl (lv_at hl 0 rfl) ?_
        refine lv_aload_n hx hb dX7_stackStep_96 rfl (lv_at hl 0 rfl) ?_
        refine va_get (D := (dC, dI)) (ci := 7) (v := .int mo_step) (C := RX7) (T := TX7) (N := 41) hx hb hts hiX7 hown hK hP 0 rfl rfl 32 (by decide) (hts _ kFX7_148) (fun _ h9 => h9) rfl dX7_stackStep_97 ?_
        refine lv_aload_n hx hb dX7_stackStep_100 rfl (lv_at hl 0 rfl) ?_
        refine va_get (D := (dC, dI)) (ci := 7) (v := .int mo_code) (C := RX7) (T := TX7) (N := 41) hx hb hts hiX7 hown hK hP 0 rfl rfl 31 (by decide) (hts _ kFX7_167) (fun _ h9 => h9) rfl dX7_stackStep_101 ?_
        refine lv_bipush (v := 72) hx hb dX7_stackStep_104 (by decide) ?_
        refine lv_icmp_ne (tgt := 113) hx hb dX7_stackStep_106 (by decide) (fun c_106 => ?_) (fun c_106 => by exact absurd c_106 c_23)
        refine lv_iconst (v := 3) hx hb dX7_stackStep_113 (by decide) ?_
        refine lv_icmp_ne (tgt := 121) hx hb dX7_stackStep_114 (by decide) (fun c_114 => ?_) (fun c_114 => by exact absurd c_114 (by rw [c_5]; decide))
        refine lv_aload_n hx hb dX7_stackStep_121 rfl (lv_at hl 0 rfl) ?_
        refine va_get (D := (dC, dI)) (ci := 7) (v := .int mo_step) (C := RX7) (T := TX7) (N := 41) hx hb hts hiX7 hown hK hP 0 rfl rfl 32 (by decide) (hts _ kFX7_148) (fun _ h9 => h9) rfl dX7_stackStep_122 ?_
        refine lv_iconst (v := 1) hx hb dX7_stackStep_125 (by decide) ?_
        refine lv_iadd hx hb dX7_stackStep_126 ?_
        refine va_put (D := (dC, dI)) (ci := 7) (v := .int (mo_step + (1:Int32))) (ty := .int) (C := RX7) (T := TX7) (N := 41) hx hb hts hiX7 tyX7 tyX7_ok nmX7 hown hK hP hD hS 0 rfl rfl 32 (by decide) (hts _ kFX7_148) (fun _ h9 => h9) rfl (by decide +kernel) rfl rfl (Nat.le_of_ble_eq_true rfl) dX7_stackStep_127 (fun H locs hP hD hS => ?_)
        have hP : va_P (dC, dI) vwCl (wwX7 q_mo q_mra q_mrA q_mrc q_mrk q_mpi q_mwc q_mwo q_mco q_mpo q_mky q_mla q_mcn q_mct k_mra k_mrA k_mrc k_mrk k_mpi k_mwc k_mwo k_mco k_mpo k_mky k_mla k_mcn k_mct mo_port mo_line mo_cycle mo_raised mo_idle mo_bad mo_glyph mo_fetched mo_rows mo_flags2_13 mo_enabled mo_a mo_x mo_y mo_s mo_flags mo_p mo_jammed mo_code (mo_step + (1:Int32)) mo_low mo_high mo_old mo_latest_13 mo_cycles mo_stolen mo_interrupts mo_accesses_13 f_mra f_mrA f_mrc f_mrk f_mpi f_mwc f_mwo f_mco f_mpo f_mky f_mla f_mcn f_mct) H := hP
        have hD : va_D A (wwX7 q_mo q_mra q_mrA q_mrc q_mrk q_mpi q_mwc q_mwo q_mco q_mpo q_mky q_mla q_mcn q_mct k_mra k_mrA k_mrc k_mrk k_mpi k_mwc k_mwo k_mco k_mpo k_mky k_mla k_mcn k_mct mo_port mo_line mo_cycle mo_raised mo_idle mo_bad mo_glyph mo_fetched mo_rows mo_flags2_13 mo_enabled mo_a mo_x mo_y mo_s mo_flags mo_p mo_jammed mo_code (mo_step + (1:Int32)) mo_low mo_high mo_old mo_latest_13 mo_cycles mo_stolen mo_interrupts mo_accesses_13 f_mra f_mrA f_mrc f_mrk f_mpi f_mwc f_mwo f_mco f_mpo f_mky f_mla f_mcn f_mct) := hD
        exact W.vret hx hb hr (fun t ht hW => ⟨⟨(mo_port, mo_raised, mo_rows, mo_flags2_13, mo_enabled, mo_a, mo_s, mo_flags, (mo_step + (1:Int32)), mo_latest_13, mo_accesses_13, f_mra, f_mpi, f_mco, f_mla, f_mcn, f_mct), rfl, hF.symm, by rw [ht]; exact hP, va_K.moved hW.alike hK, hD⟩, hS.F ht⟩) hS.2.2 dX7_stackStep_130
    · have hF := hF.trans (if_pos c_23)
      refine lv_aload_n hx hb dX7_stackStep_26 rfl (lv_at hl 0 rfl) ?_
      refine va_get (D := (dC, dI)) (ci := 7) (v := .int mo_step) (C := RX7) (T := TX7) (N := 41) hx hb hts hiX7 hown hK hP 0 rfl rfl 32 (by decide) (hts _ kFX7_148) (fun _ h9 => h9) rfl dX7_stackStep_27 ?_
      refine lv_iconst (v := 2) hx hb dX7_stackStep_30 (by decide) ?_
      refine lv_icmp_ne (tgt := 42) hx hb dX7_stackStep_31 (by decide) (fun c_31 => ?_) (fun c_31 => by exact absurd c_31 (by rw [c_5]; decide))
      refine lv_aload_n hx hb dX7_stackStep_42 rfl (lv_at hl 0 rfl) ?_
      refine va_get (D := (dC, dI)) (ci := 7) (v := .int mo_code) (C := RX7) (T := TX7) (N := 41) hx hb hts hiX7 hown hK hP 0 rfl rfl 31 (by decide) (hts _ kFX7_167) (fun _ h9 => h9) rfl dX7_stackStep_43 ?_
      refine lv_bipush (v := 104) hx hb dX7_stackStep_46 (by decide) ?_
      refine lv_icmp_ne (tgt := 65) hx hb dX7_stackStep_48 (by decide) (fun c_48 => ?_) (fun c_48 => by exact absurd c_48 (by rw [c_23]; decide))
      refine lv_aload_n hx hb dX7_stackStep_65 rfl (lv_at hl 0 rfl) ?_
      refine va_get (D := (dC, dI)) (ci := 7) (v := .int mo_code) (C := RX7) (T := TX7) (N := 41) hx hb hts hiX7 hown hK hP 0 rfl rfl 31 (by decide) (hts _ kFX7_167) (fun _ h9 => h9) rfl dX7_stackStep_66 ?_
      refine lv_bipush (v := 104) hx hb dX7_stackStep_69 (by decide) ?_
      refine lv_icmp_ne (tgt := 95) hx hb dX7_stackStep_71 (by decide) (fun c_71 => ?_) (fun c_71 => by exact absurd c_71 (by rw [c_23]; decide))
      refine lv_aload_n hx hb dX7_stackStep_95 rfl (lv_at hl 0 rfl) ?_
      refine lv_aload_n hx hb dX7_stackStep_96 rfl (lv_at hl 0 rfl) ?_
      refine va_get (D := (dC, dI)) (ci := 7) (v := .int mo_step) (C := RX7) (T := TX7) (N := 41) hx hb hts hiX7 hown hK hP 0 rfl rfl 32 (by decide) (hts _ kFX7_148) (fun _ h9 => h9) rfl dX7_stackStep_97 ?_
      refine lv_aload_n hx hb dX7_stackStep_100 rfl (lv_at hl 0 rfl) ?_
      refine va_get (D := (dC, dI)) (ci := 7) (v := .int mo_code) (C := RX7) (T := TX7) (N := 41) hx hb hts hiX7 hown hK hP 0 rfl rfl 31 (by decide) (hts _ kFX7_167) (fun _ h9 => h9) rfl dX7_stackStep_101 ?_
      refine lv_bipush (v := 72) hx hb dX7_stackStep_104 (by decide) ?_
      refine lv_icmp_ne (tgt := 113) hx hb dX7_stackStep_106 (by decide) (fun c_106 => by exact absurd c_23 c_106) (fun c_106 => ?_)
      refine lv_iconst (v := 2) hx hb dX7_stackStep_109 (by decide) ?_
      refine lv_goto (tgt := 114) hx hb dX7_stackStep_110 (by decide) ?_
      refine lv_icmp_ne (tgt := 121) hx hb dX7_stackStep_114 (by decide) (fun c_114 => ?_) (fun c_114 => by exact absurd c_114 (by rw [c_5]; decide))
      refine lv_aload_n hx hb dX7_stackStep_121 rfl (lv_at hl 0 rfl) ?_
      refine va_get (D := (dC, dI)) (ci := 7) (v := .int mo_step) (C := RX7) (T := TX7) (N := 41) hx hb hts hiX7 hown hK hP 0 rfl rfl 32 (by decide) (hts _ kFX7_148) (fun _ h9 => h9) rfl dX7_stackStep_122 ?_
      refine lv_iconst (v := 1) hx hb dX7_stackStep_125 (by decide) ?_
      refine lv_iadd hx hb dX7_stackStep_126 ?_
      refine va_put (D := (dC, dI)) (ci := 7) (v := .int (mo_step + (1:Int32))) (ty := .int) (C := RX7) (T := TX7) (N := 41) hx hb hts hiX7 tyX7 tyX7_ok nmX7 hown hK hP hD hS 0 rfl rfl 32 (by decide) (hts _ kFX7_148) (fun _ h9 => h9) rfl (by decide +kernel) rfl rfl (Nat.le_of_ble_eq_true rfl) dX7_stackStep_127 (fun H locs hP hD hS => ?_)
      have hP : va_P (dC, dI) vwCl (wwX7 q_mo q_mra q_mrA q_mrc q_mrk q_mpi q_mwc q_mwo q_mco q_mpo q_mky q_mla q_mcn q_mct k_mra k_mrA k_mrc k_mrk k_mpi k_mwc k_mwo k_mco k_mpo k_mky k_mla k_mcn k_mct mo_port mo_line mo_cycle mo_raised mo_idle mo_bad mo_glyph mo_fetched mo_rows mo_flags2_13 mo_enabled mo_a mo_x mo_y mo_s mo_flags mo_p mo_jammed mo_code (mo_step + (1:Int32)) mo_low mo_high mo_old mo_latest_13 mo_cycles mo_stolen mo_interrupts mo_accesses_13 f_mra f_mrA f_mrc f_mrk f_mpi f_mwc f_mwo f_mco f_mpo f_mky f_mla f_mcn f_mct) H := hP
      have hD : va_D A (wwX7 q_mo q_mra q_mrA q_mrc q_mrk q_mpi q_mwc q_mwo q_mco q_mpo q_mky q_mla q_mcn q_mct k_mra k_mrA k_mrc k_mrk k_mpi k_mwc k_mwo k_mco k_mpo k_mky k_mla k_mcn k_mct mo_port mo_line mo_cycle mo_raised mo_idle mo_bad mo_glyph mo_fetched mo_rows mo_flags2_13 mo_enabled mo_a mo_x mo_y mo_s mo_flags mo_p mo_jammed mo_code (mo_step + (1:Int32)) mo_low mo_high mo_old mo_latest_13 mo_cycles mo_stolen mo_interrupts mo_accesses_13 f_mra f_mrA f_mrc f_mrk f_mpi f_mwc f_mwo f_mco f_mpo f_mky f_mla f_mcn f_mct) := hD
      exact W.vret hx hb hr (fun t ht hW => ⟨⟨(mo_port, mo_raised, mo_rows, mo_flags2_13, mo_enabled, mo_a, mo_s, mo_flags, (mo_step + (1:Int32)), mo_latest_13, mo_accesses_13, f_mra, f_mpi, f_mco, f_mla, f_mcn, f_mct), rfl, hF.symm, by rw [ht]; exact hP, va_K.moved hW.alike hK, hD⟩, hS.F ht⟩) hS.2.2 dX7_stackStep_130
def fX7_branch (p1 : Int32) : Int32 :=
  (if (p1 &&& (31:Int32)) = (16:Int32) then (1:Int32) else (0:Int32))
set_option maxHeartbeats 4000000 in
set_option maxRecDepth 100000 in
theorem mX7_branch (l : Launch) (dC : Nat → ClassId) (dI : Nat → Nat → Nat) (sz : Nat) (p1 : Int32) : Met l yX7_branch uX7_branch ({ frames := 0, cells := 0, slots := 0, locals := 0 }) (va_Pc [.int p1] (fun U => U.heap.size = sz ∧ va_P (dC, dI) vwCl ([] : va_W) U.heap ∧ va_K (dC, dI) vwCl [] U ∧ va_D (fun _ => True) ([] : va_W))) (va_Qi (fun (r : Int32) (u : Unit) => r = fX7_branch p1) (fun (u : Unit) (t : State) => va_P (dC, dI) vwCl ([] : va_W) t.heap ∧ va_K (dC, dI) vwCl [] t ∧ va_D (va_A ([] : va_W) sz) ([] : va_W)) (va_A ([] : va_W) sz)) 0 0 (va_A ([] : va_W) sz) := by
  refine Met.ofW (cc := cX7_branch) (maxL := 1) (ret := (some .boolean)) (by decide) rfl ?_
  intro p e s m args below meth c s₁ B hml hv
  obtain ⟨rfl, hsz, hP, hK, hD0⟩ := hv
  have hx := B.exec
  have hb := B.bytes
  have hr := B.returns
  have hts : ∀ w ∈ ub, w.before _ s = true := fun w h => atoms_spec (ws := uX7_branch) B.pre w (List.mem_cons_of_mem _ h)
  have hown : s.vm.findClass RX7 = some m.cls := findClass_of_methodNamed B.named
  have hlocks := B.notSynchronized
  subst hsz
  have hD := hD0.self (sz := s.heap.size)
  generalize hAe : va_A ([] : va_W) s.heap.size = A at hD ⊢
  have hA : ∀ q : Nat, s.heap.size ≤ q → A q := fun q h => by rw [← hAe]; exact Or.inr h
  have hS : va_S A s.heap s.heap [] := va_S.rf
  have hl := lv_entry ([.int p1]) (n := 1) (Nat.le_of_ble_eq_true rfl)
  rw [lg_entry_eq]
  generalize (lg_sl ([.int p1]) ++ List.replicate (1 - (lg_sl ([.int p1])).length) Slot.unset).toArray = ls at hl ⊢
  have hl : lv_has ls 1 [(0, .int p1)] := hl
  have hF := fX7_branch.eq_1 p1
  refine lv_iload_n hx hb dX7_branch_0 rfl (lv_at hl 0 rfl) ?_
  refine lv_bipush (v := 31) hx hb dX7_branch_1 (by decide) ?_
  refine lv_iand hx hb dX7_branch_3 ?_
  refine lv_bipush (v := 16) hx hb dX7_branch_4 (by decide) ?_
  refine vj_join (j := 14) (rest := []) (Hyp := fun z H locs => z = (if (p1 &&& (31:Int32)) = (16:Int32) then (1:Int32) else (0:Int32)) ∧ va_P (dC, dI) vwCl ([] : va_W) H ∧ va_S A s.heap H locs) (fun z H locs hh => ?_) (fun J14 => ?_)
  · obtain ⟨hz, hP, hS⟩ := hh
    subst hz
    exact W.zret (v := (if (p1 &&& (31:Int32)) = (16:Int32) then (1:Int32) else (0:Int32))) hx hb hr (nb_if rfl rfl) (fun t ht hW => ⟨⟨(if (p1 &&& (31:Int32)) = (16:Int32) then (1:Int32) else (0:Int32)), (), rfl, hF.symm, by rw [ht]; exact hP, va_K.moved hW.alike hK, hD⟩, hS.F ht⟩) hS.2.2 dX7_branch_14
  · refine lv_icmp_ne (tgt := 13) hx hb dX7_branch_6 (by decide) (fun c_6 => ?_) (fun c_6 => ?_)
    · refine lv_iconst (v := 0) hx hb dX7_branch_13 (by decide) ?_
      exact J14 _ _ _ ⟨by rw [if_neg c_6], hP, hS⟩
    · refine lv_iconst (v := 1) hx hb dX7_branch_9 (by decide) ?_
      refine lv_goto (tgt := 14) hx hb dX7_branch_10 (by decide) ?_
      exact J14 _ _ _ ⟨by rw [if_pos c_6], hP, hS⟩
def fX7_jump (p1 : Int32) : Int32 :=
  (if p1 = (76:Int32) then (1:Int32) else (if p1 = (32:Int32) then (1:Int32) else (if p1 = (96:Int32) then (1:Int32) else (if p1 = (64:Int32) then (1:Int32) else (0:Int32)))))
set_option maxHeartbeats 4000000 in
set_option maxRecDepth 100000 in
theorem mX7_jump (l : Launch) (dC : Nat → ClassId) (dI : Nat → Nat → Nat) (sz : Nat) (p1 : Int32) : Met l yX7_jump uX7_jump ({ frames := 0, cells := 0, slots := 0, locals := 0 }) (va_Pc [.int p1] (fun U => U.heap.size = sz ∧ va_P (dC, dI) vwCl ([] : va_W) U.heap ∧ va_K (dC, dI) vwCl [] U ∧ va_D (fun _ => True) ([] : va_W))) (va_Qi (fun (r : Int32) (u : Unit) => r = fX7_jump p1) (fun (u : Unit) (t : State) => va_P (dC, dI) vwCl ([] : va_W) t.heap ∧ va_K (dC, dI) vwCl [] t ∧ va_D (va_A ([] : va_W) sz) ([] : va_W)) (va_A ([] : va_W) sz)) 0 0 (va_A ([] : va_W) sz) := by
  refine Met.ofW (cc := cX7_jump) (maxL := 1) (ret := (some .boolean)) (by decide) rfl ?_
  intro p e s m args below meth c s₁ B hml hv
  obtain ⟨rfl, hsz, hP, hK, hD0⟩ := hv
  have hx := B.exec
  have hb := B.bytes
  have hr := B.returns
  have hts : ∀ w ∈ ub, w.before _ s = true := fun w h => atoms_spec (ws := uX7_jump) B.pre w (List.mem_cons_of_mem _ h)
  have hown : s.vm.findClass RX7 = some m.cls := findClass_of_methodNamed B.named
  have hlocks := B.notSynchronized
  subst hsz
  have hD := hD0.self (sz := s.heap.size)
  generalize hAe : va_A ([] : va_W) s.heap.size = A at hD ⊢
  have hA : ∀ q : Nat, s.heap.size ≤ q → A q := fun q h => by rw [← hAe]; exact Or.inr h
  have hS : va_S A s.heap s.heap [] := va_S.rf
  have hl := lv_entry ([.int p1]) (n := 1) (Nat.le_of_ble_eq_true rfl)
  rw [lg_entry_eq]
  generalize (lg_sl ([.int p1]) ++ List.replicate (1 - (lg_sl ([.int p1])).length) Slot.unset).toArray = ls at hl ⊢
  have hl : lv_has ls 1 [(0, .int p1)] := hl
  have hF := fX7_jump.eq_1 p1
  refine lv_iload_n hx hb dX7_jump_0 rfl (lv_at hl 0 rfl) ?_
  refine lv_bipush (v := 76) hx hb dX7_jump_1 (by decide) ?_
  refine vj_join (j := 29) (rest := []) (Hyp := fun z H locs => z = (if p1 = (76:Int32) then (1:Int32) else (if p1 = (32:Int32) then (1:Int32) else (if p1 = (96:Int32) then (1:Int32) else (if p1 = (64:Int32) then (1:Int32) else (0:Int32))))) ∧ va_P (dC, dI) vwCl ([] : va_W) H ∧ va_S A s.heap H locs) (fun z H locs hh => ?_) (fun J29 => ?_)
  · obtain ⟨hz, hP, hS⟩ := hh
    subst hz
    exact W.zret (v := (if p1 = (76:Int32) then (1:Int32) else (if p1 = (32:Int32) then (1:Int32) else (if p1 = (96:Int32) then (1:Int32) else (if p1 = (64:Int32) then (1:Int32) else (0:Int32)))))) hx hb hr (nb_if rfl (nb_if rfl (nb_if rfl (nb_if rfl rfl)))) (fun t ht hW => ⟨⟨(if p1 = (76:Int32) then (1:Int32) else (if p1 = (32:Int32) then (1:Int32) else (if p1 = (96:Int32) then (1:Int32) else (if p1 = (64:Int32) then (1:Int32) else (0:Int32))))), (), rfl, hF.symm, by rw [ht]; exact hP, va_K.moved hW.alike hK, hD⟩, hS.F ht⟩) hS.2.2 dX7_jump_29
  · refine lv_icmp_eq (tgt := 24) hx hb dX7_jump_3 (by decide) (fun c_3 => ?_) (fun c_3 => ?_)
    · refine lv_iconst (v := 1) hx hb dX7_jump_24 (by decide) ?_
      refine lv_goto (tgt := 29) hx hb dX7_jump_25 (by decide) ?_
      exact J29 _ _ _ ⟨by rw [if_pos c_3], hP, hS⟩
    · refine lv_iload_n hx hb dX7_jump_6 rfl (lv_at hl 0 rfl) ?_
      refine lv_bipush (v := 32) hx hb dX7_jump_7 (by decide) ?_
      refine lv_icmp_eq (tgt := 24) hx hb dX7_jump_9 (by decide) (fun c_9 => ?_) (fun c_9 => ?_)
      · refine lv_iconst (v := 1) hx hb dX7_jump_24 (by decide) ?_
        refine lv_goto (tgt := 29) hx hb dX7_jump_25 (by decide) ?_
        exact J29 _ _ _ ⟨by rw [if_neg c_3, if_pos c_9], hP, hS⟩
      · refine lv_iload_n hx hb dX7_jump_12 rfl (lv_at hl 0 rfl) ?_
        refine lv_bipush (v := 96) hx hb dX7_jump_13 (by decide) ?_
        refine lv_icmp_eq (tgt := 24) hx hb dX7_jump_15 (by decide) (fun c_15 => ?_) (fun c_15 => ?_)
        · refine lv_iconst (v := 1) hx hb dX7_jump_24 (by decide) ?_
          refine lv_goto (tgt := 29) hx hb dX7_jump_25 (by decide) ?_
          exact J29 _ _ _ ⟨by rw [if_neg c_3, if_neg c_9, if_pos c_15], hP, hS⟩
        · refine lv_iload_n hx hb dX7_jump_18 rfl (lv_at hl 0 rfl) ?_
          refine lv_bipush (v := 64) hx hb dX7_jump_19 (by decide) ?_
          refine lv_icmp_ne (tgt := 28) hx hb dX7_jump_21 (by decide) (fun c_21 => ?_) (fun c_21 => ?_)
          · refine lv_iconst (v := 0) hx hb dX7_jump_28 (by decide) ?_
            exact J29 _ _ _ ⟨by rw [if_neg c_3, if_neg c_9, if_neg c_15, if_neg c_21], hP, hS⟩
          · refine lv_iconst (v := 1) hx hb dX7_jump_24 (by decide) ?_
            refine lv_goto (tgt := 29) hx hb dX7_jump_25 (by decide) ?_
            exact J29 _ _ _ ⟨by rw [if_neg c_3, if_neg c_9, if_neg c_15, if_pos c_21], hP, hS⟩
def fX7_withByte (p1 : Int32) : Int32 :=
  (if p1 = (162:Int32) then (1:Int32) else (if p1 = (160:Int32) then (1:Int32) else (if p1 = (224:Int32) then (1:Int32) else (if p1 = (192:Int32) then (1:Int32) else (if p1 = (134:Int32) then (1:Int32) else (if p1 = (132:Int32) then (1:Int32) else (if p1 = (230:Int32) then (1:Int32) else (if p1 = (198:Int32) then (1:Int32) else (0:Int32)))))))))
set_option maxHeartbeats 4000000 in
set_option maxRecDepth 100000 in
theorem mX7_withByte (l : Launch) (dC : Nat → ClassId) (dI : Nat → Nat → Nat) (sz : Nat) (p1 : Int32) : Met l yX7_withByte uX7_withByte ({ frames := 0, cells := 0, slots := 0, locals := 0 }) (va_Pc [.int p1] (fun U => U.heap.size = sz ∧ va_P (dC, dI) vwCl ([] : va_W) U.heap ∧ va_K (dC, dI) vwCl [] U ∧ va_D (fun _ => True) ([] : va_W))) (va_Qi (fun (r : Int32) (u : Unit) => r = fX7_withByte p1) (fun (u : Unit) (t : State) => va_P (dC, dI) vwCl ([] : va_W) t.heap ∧ va_K (dC, dI) vwCl [] t ∧ va_D (va_A ([] : va_W) sz) ([] : va_W)) (va_A ([] : va_W) sz)) 0 0 (va_A ([] : va_W) sz) := by
  refine Met.ofW (cc := cX7_withByte) (maxL := 1) (ret := (some .boolean)) (by decide) rfl ?_
  intro p e s m args below meth c s₁ B hml hv
  obtain ⟨rfl, hsz, hP, hK, hD0⟩ := hv
  have hx := B.exec
  have hb := B.bytes
  have hr := B.returns
  have hts : ∀ w ∈ ub, w.before _ s = true := fun w h => atoms_spec (ws := uX7_withByte) B.pre w (List.mem_cons_of_mem _ h)
  have hown : s.vm.findClass RX7 = some m.cls := findClass_of_methodNamed B.named
  have hlocks := B.notSynchronized
  subst hsz
  have hD := hD0.self (sz := s.heap.size)
  generalize hAe : va_A ([] : va_W) s.heap.size = A at hD ⊢
  have hA : ∀ q : Nat, s.heap.size ≤ q → A q := fun q h => by rw [← hAe]; exact Or.inr h
  have hS : va_S A s.heap s.heap [] := va_S.rf
  have hl := lv_entry ([.int p1]) (n := 1) (Nat.le_of_ble_eq_true rfl)
  rw [lg_entry_eq]
  generalize (lg_sl ([.int p1]) ++ List.replicate (1 - (lg_sl ([.int p1])).length) Slot.unset).toArray = ls at hl ⊢
  have hl : lv_has ls 1 [(0, .int p1)] := hl
  have hF := fX7_withByte.eq_1 p1
  refine lv_iload_n hx hb dX7_withByte_0 rfl (lv_at hl 0 rfl) ?_
  refine lv_sipush (v := 162) hx hb dX7_withByte_1 (by decide) ?_
  refine vj_join (j := 61) (rest := []) (Hyp := fun z H locs => z = (if p1 = (162:Int32) then (1:Int32) else (if p1 = (160:Int32) then (1:Int32) else (if p1 = (224:Int32) then (1:Int32) else (if p1 = (192:Int32) then (1:Int32) else (if p1 = (134:Int32) then (1:Int32) else (if p1 = (132:Int32) then (1:Int32) else (if p1 = (230:Int32) then (1:Int32) else (if p1 = (198:Int32) then (1:Int32) else (0:Int32))))))))) ∧ va_P (dC, dI) vwCl ([] : va_W) H ∧ va_S A s.heap H locs) (fun z H locs hh => ?_) (fun J61 => ?_)
  · obtain ⟨hz, hP, hS⟩ := hh
    subst hz
    exact W.zret (v := (if p1 = (162:Int32) then (1:Int32) else (if p1 = (160:Int32) then (1:Int32) else (if p1 = (224:Int32) then (1:Int32) else (if p1 = (192:Int32) then (1:Int32) else (if p1 = (134:Int32) then (1:Int32) else (if p1 = (132:Int32) then (1:Int32) else (if p1 = (230:Int32) then (1:Int32) else (if p1 = (198:Int32) then (1:Int32) else (0:Int32)))))))))) hx hb hr (nb_if rfl (nb_if rfl (nb_if rfl (nb_if rfl (nb_if rfl (nb_if rfl (nb_if rfl (nb_if rfl rfl)))))))) (fun t ht hW => ⟨⟨(if p1 = (162:Int32) then (1:Int32) else (if p1 = (160:Int32) then (1:Int32) else (if p1 = (224:Int32) then (1:Int32) else (if p1 = (192:Int32) then (1:Int32) else (if p1 = (134:Int32) then (1:Int32) else (if p1 = (132:Int32) then (1:Int32) else (if p1 = (230:Int32) then (1:Int32) else (if p1 = (198:Int32) then (1:Int32) else (0:Int32))))))))), (), rfl, hF.symm, by rw [ht]; exact hP, va_K.moved hW.alike hK, hD⟩, hS.F ht⟩) hS.2.2 dX7_withByte_61
  · refine lv_icmp_eq (tgt := 56) hx hb dX7_withByte_4 (by decide) (fun c_4 => ?_) (fun c_4 => ?_)
    · refine lv_iconst (v := 1) hx hb dX7_withByte_56 (by decide) ?_
      refine lv_goto (tgt := 61) hx hb dX7_withByte_57 (by decide) ?_
      exact J61 _ _ _ ⟨by rw [if_pos c_4], hP, hS⟩
    · refine lv_iload_n hx hb dX7_withByte_7 rfl (lv_at hl 0 rfl) ?_
      refine lv_sipush (v := 160) hx hb dX7_withByte_8 (by decide) ?_
      refine lv_icmp_eq (tgt := 56) hx hb dX7_withByte_11 (by decide) (fun c_11 => ?_) (fun c_11 => ?_)
      · refine lv_iconst (v := 1) hx hb dX7_withByte_56 (by decide) ?_
        refine lv_goto (tgt := 61) hx hb dX7_withByte_57 (by decide) ?_
        exact J61 _ _ _ ⟨by rw [if_neg c_4, if_pos c_11], hP, hS⟩
      · refine lv_iload_n hx hb dX7_withByte_14 rfl (lv_at hl 0 rfl) ?_
        refine lv_sipush (v := 224) hx hb dX7_withByte_15 (by decide) ?_
        refine lv_icmp_eq (tgt := 56) hx hb dX7_withByte_18 (by decide) (fun c_18 => ?_) (fun c_18 => ?_)
        · refine lv_iconst (v := 1) hx hb dX7_withByte_56 (by decide) ?_
          refine lv_goto (tgt := 61) hx hb dX7_withByte_57 (by decide) ?_
          exact J61 _ _ _ ⟨by rw [if_neg c_4, if_neg c_11, if_pos c_18], hP, hS⟩
        · refine lv_iload_n hx hb dX7_withByte_21 rfl (lv_at hl 0 rfl) ?_
          refine lv_sipush (v := 192) hx hb dX7_withByte_22 (by decide) ?_
          refine lv_icmp_eq (tgt := 56) hx hb dX7_withByte_25 (by decide) (fun c_25 => ?_) (fun c_25 => ?_)
          · refine lv_iconst (v := 1) hx hb dX7_withByte_56 (by decide) ?_
            refine lv_goto (tgt := 61) hx hb dX7_withByte_57 (by decide) ?_
            exact J61 _ _ _ ⟨by rw [if_neg c_4, if_neg c_11, if_neg c_18, if_pos c_25], hP, hS⟩
          · refine lv_iload_n hx hb dX7_withByte_28 rfl (lv_at hl 0 rfl) ?_
            refine lv_sipush (v := 134) hx hb dX7_withByte_29 (by decide) ?_
            refine lv_icmp_eq (tgt := 56) hx hb dX7_withByte_32 (by decide) (fun c_32 => ?_) (fun c_32 => ?_)
            · refine lv_iconst (v := 1) hx hb dX7_withByte_56 (by decide) ?_
              refine lv_goto (tgt := 61) hx hb dX7_withByte_57 (by decide) ?_
              exact J61 _ _ _ ⟨by rw [if_neg c_4, if_neg c_11, if_neg c_18, if_neg c_25, if_pos c_32], hP, hS⟩
            · refine lv_iload_n hx hb dX7_withByte_35 rfl (lv_at hl 0 rfl) ?_
              refine lv_sipush (v := 132) hx hb dX7_withByte_36 (by decide) ?_
              refine lv_icmp_eq (tgt := 56) hx hb dX7_withByte_39 (by decide) (fun c_39 => ?_) (fun c_39 => ?_)
              · refine lv_iconst (v := 1) hx hb dX7_withByte_56 (by decide) ?_
                refine lv_goto (tgt := 61) hx hb dX7_withByte_57 (by decide) ?_
                exact J61 _ _ _ ⟨by rw [if_neg c_4, if_neg c_11, if_neg c_18, if_neg c_25, if_neg c_32, if_pos c_39], hP, hS⟩
              · refine lv_iload_n hx hb dX7_withByte_42 rfl (lv_at hl 0 rfl) ?_
                refine lv_sipush (v := 230) hx hb dX7_withByte_43 (by decide) ?_
                refine lv_icmp_eq (tgt := 56) hx hb dX7_withByte_46 (by decide) (fun c_46 => ?_) (fun c_46 => ?_)
                · refine lv_iconst (v := 1) hx hb dX7_withByte_56 (by decide) ?_
                  refine lv_goto (tgt := 61) hx hb dX7_withByte_57 (by decide) ?_
                  exact J61 _ _ _ ⟨by rw [if_neg c_4, if_neg c_11, if_neg c_18, if_neg c_25, if_neg c_32, if_neg c_39, if_pos c_46], hP, hS⟩
                · refine lv_iload_n hx hb dX7_withByte_49 rfl (lv_at hl 0 rfl) ?_
                  refine lv_sipush (v := 198) hx hb dX7_withByte_50 (by decide) ?_
                  refine lv_icmp_ne (tgt := 60) hx hb dX7_withByte_53 (by decide) (fun c_53 => ?_) (fun c_53 => ?_)
                  · refine lv_iconst (v := 0) hx hb dX7_withByte_60 (by decide) ?_
                    exact J61 _ _ _ ⟨by rw [if_neg c_4, if_neg c_11, if_neg c_18, if_neg c_25, if_neg c_32, if_neg c_39, if_neg c_46, if_neg c_53], hP, hS⟩
                  · refine lv_iconst (v := 1) hx hb dX7_withByte_56 (by decide) ?_
                    refine lv_goto (tgt := 61) hx hb dX7_withByte_57 (by decide) ?_
                    exact J61 _ _ _ ⟨by rw [if_neg c_4, if_neg c_11, if_neg c_18, if_neg c_25, if_neg c_32, if_neg c_39, if_neg c_46, if_pos c_53], hP, hS⟩
def fX7_plain (p1 : Int32) : Int32 :=
  (if (if p1 = (24:Int32) then (1:Int32) else (if p1 = (56:Int32) then (1:Int32) else (if p1 = (88:Int32) then (1:Int32) else (if p1 = (120:Int32) then (1:Int32) else (if p1 = (216:Int32) then (1:Int32) else (if p1 = (248:Int32) then (1:Int32) else (0:Int32))))))) = (0:Int32) then (if (if p1 = (170:Int32) then (1:Int32) else (if p1 = (138:Int32) then (1:Int32) else (if p1 = (168:Int32) then (1:Int32) else (if p1 = (152:Int32) then (1:Int32) else (if p1 = (232:Int32) then (1:Int32) else (if p1 = (200:Int32) then (1:Int32) else (if p1 = (202:Int32) then (1:Int32) else (if p1 = (136:Int32) then (1:Int32) else (0:Int32))))))))) = (0:Int32) then (if p1 = (10:Int32) then (1:Int32) else (if p1 = (74:Int32) then (1:Int32) else (if p1 = (234:Int32) then (1:Int32) else (0:Int32)))) else (1:Int32)) else (1:Int32))
set_option maxHeartbeats 4000000 in
set_option maxRecDepth 100000 in
theorem mX7_plain (l : Launch) (dC : Nat → ClassId) (dI : Nat → Nat → Nat) (sz : Nat) (p1 : Int32) : Met l yX7_plain uX7_plain ({ frames := 0, cells := 0, slots := 0, locals := 0 }) (va_Pc [.int p1] (fun U => U.heap.size = sz ∧ va_P (dC, dI) vwCl ([] : va_W) U.heap ∧ va_K (dC, dI) vwCl [] U ∧ va_D (fun _ => True) ([] : va_W))) (va_Qi (fun (r : Int32) (u : Unit) => r = fX7_plain p1) (fun (u : Unit) (t : State) => va_P (dC, dI) vwCl ([] : va_W) t.heap ∧ va_K (dC, dI) vwCl [] t ∧ va_D (va_A ([] : va_W) sz) ([] : va_W)) (va_A ([] : va_W) sz)) 0 0 (va_A ([] : va_W) sz) := by
  refine Met.ofW (cc := cX7_plain) (maxL := 3) (ret := (some .boolean)) (by decide) rfl ?_
  intro p e s m args below meth c s₁ B hml hv
  obtain ⟨rfl, hsz, hP, hK, hD0⟩ := hv
  have hx := B.exec
  have hb := B.bytes
  have hr := B.returns
  have hts : ∀ w ∈ ub, w.before _ s = true := fun w h => atoms_spec (ws := uX7_plain) B.pre w (List.mem_cons_of_mem _ h)
  have hown : s.vm.findClass RX7 = some m.cls := findClass_of_methodNamed B.named
  have hlocks := B.notSynchronized
  subst hsz
  have hD := hD0.self (sz := s.heap.size)
  generalize hAe : va_A ([] : va_W) s.heap.size = A at hD ⊢
  have hA : ∀ q : Nat, s.heap.size ≤ q → A q := fun q h => by rw [← hAe]; exact Or.inr h
  have hS : va_S A s.heap s.heap [] := va_S.rf
  have hl := lv_entry ([.int p1]) (n := 3) (Nat.le_of_ble_eq_true rfl)
  rw [lg_entry_eq]
  generalize (lg_sl ([.int p1]) ++ List.replicate (3 - (lg_sl ([.int p1])).length) Slot.unset).toArray = ls at hl ⊢
  have hl : lv_has ls 3 [(0, .int p1)] := hl
  have hF := fX7_plain.eq_1 p1
  refine lv_iload_n hx hb dX7_plain_0 rfl (lv_at hl 0 rfl) ?_
  refine lv_bipush (v := 24) hx hb dX7_plain_1 (by decide) ?_
  refine vj_join (j := 43) (rest := []) (Hyp := fun z H locs => z = (if p1 = (24:Int32) then (1:Int32) else (if p1 = (56:Int32) then (1:Int32) else (if p1 = (88:Int32) then (1:Int32) else (if p1 = (120:Int32) then (1:Int32) else (if p1 = (216:Int32) then (1:Int32) else (if p1 = (248:Int32) then (1:Int32) else (0:Int32))))))) ∧ va_P (dC, dI) vwCl ([] : va_W) H ∧ va_S A s.heap H locs) (fun z H locs hh => ?_) (fun J43 => ?_)
  · obtain ⟨hz, hP, hS⟩ := hh
    subst hz
    refine lv_istore_n (lv' := [(1, .int (if p1 = (24:Int32) then (1:Int32) else (if p1 = (56:Int32) then (1:Int32) else (if p1 = (88:Int32) then (1:Int32) else (if p1 = (120:Int32) then (1:Int32) else (if p1 = (216:Int32) then (1:Int32) else (if p1 = (248:Int32) then (1:Int32) else (0:Int32)))))))), (0, .int p1)]) hx hb dX7_plain_43 rfl hl (by decide) rfl (fun ls hl => ?_)
    refine lv_iload_n hx hb dX7_plain_44 rfl (lv_at hl 1 rfl) ?_
    refine lv_sipush (v := 170) hx hb dX7_plain_45 (by decide) ?_
    refine vj_join (j := 105) (rest := []) (Hyp := fun z H locs => z = (if p1 = (170:Int32) then (1:Int32) else (if p1 = (138:Int32) then (1:Int32) else (if p1 = (168:Int32) then (1:Int32) else (if p1 = (152:Int32) then (1:Int32) else (if p1 = (232:Int32) then (1:Int32) else (if p1 = (200:Int32) then (1:Int32) else (if p1 = (202:Int32) then (1:Int32) else (if p1 = (136:Int32) then (1:Int32) else (0:Int32))))))))) ∧ va_P (dC, dI) vwCl ([] : va_W) H ∧ va_S A s.heap H locs) (fun z H locs hh => ?_) (fun J105 => ?_)
    · obtain ⟨hz, hP, hS⟩ := hh
      subst hz
      refine lv_istore_n (lv' := [(2, .int (if p1 = (170:Int32) then (1:Int32) else (if p1 = (138:Int32) then (1:Int32) else (if p1 = (168:Int32) then (1:Int32) else (if p1 = (152:Int32) then (1:Int32) else (if p1 = (232:Int32) then (1:Int32) else (if p1 = (200:Int32) then (1:Int32) else (if p1 = (202:Int32) then (1:Int32) else (if p1 = (136:Int32) then (1:Int32) else (0:Int32)))))))))), (1, .int (if p1 = (24:Int32) then (1:Int32) else (if p1 = (56:Int32) then (1:Int32) else (if p1 = (88:Int32) then (1:Int32) else (if p1 = (120:Int32) then (1:Int32) else (if p1 = (216:Int32) then (1:Int32) else (if p1 = (248:Int32) then (1:Int32) else (0:Int32)))))))), (0, .int p1)]) hx hb dX7_plain_105 rfl hl (by decide) rfl (fun ls hl => ?_)
      refine lv_iload_n hx hb dX7_plain_106 rfl (lv_at hl 1 rfl) ?_
      refine vj_join (j := 138) (rest := []) (Hyp := fun z H locs => z = (if (if p1 = (24:Int32) then (1:Int32) else (if p1 = (56:Int32) then (1:Int32) else (if p1 = (88:Int32) then (1:Int32) else (if p1 = (120:Int32) then (1:Int32) else (if p1 = (216:Int32) then (1:Int32) else (if p1 = (248:Int32) then (1:Int32) else (0:Int32))))))) = (0:Int32) then (if (if p1 = (170:Int32) then (1:Int32) else (if p1 = (138:Int32) then (1:Int32) else (if p1 = (168:Int32) then (1:Int32) else (if p1 = (152:Int32) then (1:Int32) else (if p1 = (232:Int32) then (1:Int32) else (if p1 = (200:Int32) then (1:Int32) else (if p1 = (202:Int32) then (1:Int32) else (if p1 = (136:Int32) then (1:Int32) else (0:Int32))))))))) = (0:Int32) then (if p1 = (10:Int32) then (1:Int32) else (if p1 = (74:Int32) then (1:Int32) else (if p1 = (234:Int32) then (1:Int32) else (0:Int32)))) else (1:Int32)) else (1:Int32)) ∧ va_P (dC, dI) vwCl ([] : va_W) H ∧ va_S A s.heap H locs) (fun z H locs hh => ?_) (fun J138 => ?_)
      · obtain ⟨hz, hP, hS⟩ := hh
        subst hz
        exact W.zret (v := (if (if p1 = (24:Int32) then (1:Int32) else (if p1 = (56:Int32) then (1:Int32) else (if p1 = (88:Int32) then (1:Int32) else (if p1 = (120:Int32) then (1:Int32) else (if p1 = (216:Int32) then (1:Int32) else (if p1 = (248:Int32) then (1:Int32) else (0:Int32))))))) = (0:Int32) then (if (if p1 = (170:Int32) then (1:Int32) else (if p1 = (138:Int32) then (1:Int32) else (if p1 = (168:Int32) then (1:Int32) else (if p1 = (152:Int32) then (1:Int32) else (if p1 = (232:Int32) then (1:Int32) else (if p1 = (200:Int32) then (1:Int32) else (if p1 = (202:Int32) then (1:Int32) else (if p1 = (136:Int32) then (1:Int32) else (0:Int32))))))))) = (0:Int32) then (if p1 = (10:Int32) then (1:Int32) else (if p1 = (74:Int32) then (1:Int32) else (if p1 = (234:Int32) then (1:Int32) else (0:Int32)))) else (1:Int32)) else (1:Int32))) hx hb hr (nb_if (nb_if (nb_if rfl (nb_if rfl (nb_if rfl rfl))) rfl) rfl) (fun t ht hW => ⟨⟨(if (if p1 = (24:Int32) then (1:Int32) else (if p1 = (56:Int32) then (1:Int32) else (if p1 = (88:Int32) then (1:Int32) else (if p1 = (120:Int32) then (1:Int32) else (if p1 = (216:Int32) then (1:Int32) else (if p1 = (248:Int32) then (1:Int32) else (0:Int32))))))) = (0:Int32) then (if (if p1 = (170:Int32) then (1:Int32) else (if p1 = (138:Int32) then (1:Int32) else (if p1 = (168:Int32) then (1:Int32) else (if p1 = (152:Int32) then (1:Int32) else (if p1 = (232:Int32) then (1:Int32) else (if p1 = (200:Int32) then (1:Int32) else (if p1 = (202:Int32) then (1:Int32) else (if p1 = (136:Int32) then (1:Int32) else (0:Int32))))))))) = (0:Int32) then (if p1 = (10:Int32) then (1:Int32) else (if p1 = (74:Int32) then (1:Int32) else (if p1 = (234:Int32) then (1:Int32) else (0:Int32)))) else (1:Int32)) else (1:Int32)), (), rfl, hF.symm, by rw [ht]; exact hP, va_K.moved hW.alike hK, hD⟩, hS.F ht⟩) hS.2.2 dX7_plain_138
      · refine lv_if_ne (tgt := 133) hx hb dX7_plain_107 (by decide) (fun c_107 => ?_) (fun c_107 => ?_)
        · refine lv_iconst (v := 1) hx hb dX7_plain_133 (by decide) ?_
          refine lv_goto (tgt := 138) hx hb dX7_plain_134 (by decide) ?_
          exact J138 _ _ _ ⟨by rw [if_neg c_107], hP, hS⟩
        · refine lv_iload_n hx hb dX7_plain_110 rfl (lv_at hl 0 rfl) ?_
          refine lv_if_ne (tgt := 133) hx hb dX7_plain_111 (by decide) (fun c_111 => ?_) (fun c_111 => ?_)
          · refine lv_iconst (v := 1) hx hb dX7_plain_133 (by decide) ?_
            refine lv_goto (tgt := 138) hx hb dX7_plain_134 (by decide) ?_
            exact J138 _ _ _ ⟨by rw [if_pos c_107, if_neg c_111], hP, hS⟩
          · refine lv_iload_n hx hb dX7_plain_114 rfl (lv_at hl 2 rfl) ?_
            refine lv_bipush (v := 10) hx hb dX7_plain_115 (by decide) ?_
            refine lv_icmp_eq (tgt := 133) hx hb dX7_plain_117 (by decide) (fun c_117 => ?_) (fun c_117 => ?_)
            · refine lv_iconst (v := 1) hx hb dX7_plain_133 (by decide) ?_
              refine lv_goto (tgt := 138) hx hb dX7_plain_134 (by decide) ?_
              exact J138 _ _ _ ⟨by rw [if_pos c_107, if_pos c_111, if_pos c_117], hP, hS⟩
            · refine lv_iload_n hx hb dX7_plain_120 rfl (lv_at hl 2 rfl) ?_
              refine lv_bipush (v := 74) hx hb dX7_plain_121 (by decide) ?_
              refine lv_icmp_eq (tgt := 133) hx hb dX7_plain_123 (by decide) (fun c_123 => ?_) (fun c_123 => ?_)
              · refine lv_iconst (v := 1) hx hb dX7_plain_133 (by decide) ?_
                refine lv_goto (tgt := 138) hx hb dX7_plain_134 (by decide) ?_
                exact J138 _ _ _ ⟨by rw [if_pos c_107, if_pos c_111, if_neg c_117, if_pos c_123], hP, hS⟩
              · refine lv_iload_n hx hb dX7_plain_126 rfl (lv_at hl 2 rfl) ?_
                refine lv_sipush (v := 234) hx hb dX7_plain_127 (by decide) ?_
                refine lv_icmp_ne (tgt := 137) hx hb dX7_plain_130 (by decide) (fun c_130 => ?_) (fun c_130 => ?_)
                · refine lv_iconst (v := 0) hx hb dX7_plain_137 (by decide) ?_
                  exact J138 _ _ _ ⟨by rw [if_pos c_107, if_pos c_111, if_neg c_117, if_neg c_123, if_neg c_130], hP, hS⟩
                · refine lv_iconst (v := 1) hx hb dX7_plain_133 (by decide) ?_
                  refine lv_goto (tgt := 138) hx hb dX7_plain_134 (by decide) ?_
                  exact J138 _ _ _ ⟨by rw [if_pos c_107, if_pos c_111, if_neg c_117, if_neg c_123, if_pos c_130], hP, hS⟩
    · refine lv_icmp_eq (tgt := 100) hx hb dX7_plain_48 (by decide) (fun c_48 => ?_) (fun c_48 => ?_)
      · refine lv_iconst (v := 1) hx hb dX7_plain_100 (by decide) ?_
        refine lv_goto (tgt := 105) hx hb dX7_plain_101 (by decide) ?_
        exact J105 _ _ _ ⟨by rw [if_pos c_48], hP, hS⟩
      · refine lv_iload_n hx hb dX7_plain_51 rfl (lv_at hl 1 rfl) ?_
        refine lv_sipush (v := 138) hx hb dX7_plain_52 (by decide) ?_
        refine lv_icmp_eq (tgt := 100) hx hb dX7_plain_55 (by decide) (fun c_55 => ?_) (fun c_55 => ?_)
        · refine lv_iconst (v := 1) hx hb dX7_plain_100 (by decide) ?_
          refine lv_goto (tgt := 105) hx hb dX7_plain_101 (by decide) ?_
          exact J105 _ _ _ ⟨by rw [if_neg c_48, if_pos c_55], hP, hS⟩
        · refine lv_iload_n hx hb dX7_plain_58 rfl (lv_at hl 1 rfl) ?_
          refine lv_sipush (v := 168) hx hb dX7_plain_59 (by decide) ?_
          refine lv_icmp_eq (tgt := 100) hx hb dX7_plain_62 (by decide) (fun c_62 => ?_) (fun c_62 => ?_)
          · refine lv_iconst (v := 1) hx hb dX7_plain_100 (by decide) ?_
            refine lv_goto (tgt := 105) hx hb dX7_plain_101 (by decide) ?_
            exact J105 _ _ _ ⟨by rw [if_neg c_48, if_neg c_55, if_pos c_62], hP, hS⟩
          · refine lv_iload_n hx hb dX7_plain_65 rfl (lv_at hl 1 rfl) ?_
            refine lv_sipush (v := 152) hx hb dX7_plain_66 (by decide) ?_
            refine lv_icmp_eq (tgt := 100) hx hb dX7_plain_69 (by decide) (fun c_69 => ?_) (fun c_69 => ?_)
            · refine lv_iconst (v := 1) hx hb dX7_plain_100 (by decide) ?_
              refine lv_goto (tgt := 105) hx hb dX7_plain_101 (by decide) ?_
              exact J105 _ _ _ ⟨by rw [if_neg c_48, if_neg c_55, if_neg c_62, if_pos c_69], hP, hS⟩
            · refine lv_iload_n hx hb dX7_plain_72 rfl (lv_at hl 1 rfl) ?_
              refine lv_sipush (v := 232) hx hb dX7_plain_73 (by decide) ?_
              refine lv_icmp_eq (tgt := 100) hx hb dX7_plain_76 (by decide) (fun c_76 => ?_) (fun c_76 => ?_)
              · refine lv_iconst (v := 1) hx hb dX7_plain_100 (by decide) ?_
                refine lv_goto (tgt := 105) hx hb dX7_plain_101 (by decide) ?_
                exact J105 _ _ _ ⟨by rw [if_neg c_48, if_neg c_55, if_neg c_62, if_neg c_69, if_pos c_76], hP, hS⟩
              · refine lv_iload_n hx hb dX7_plain_79 rfl (lv_at hl 1 rfl) ?_
                refine lv_sipush (v := 200) hx hb dX7_plain_80 (by decide) ?_
                refine lv_icmp_eq (tgt := 100) hx hb dX7_plain_83 (by decide) (fun c_83 => ?_) (fun c_83 => ?_)
                · refine lv_iconst (v := 1) hx hb dX7_plain_100 (by decide) ?_
                  refine lv_goto (tgt := 105) hx hb dX7_plain_101 (by decide) ?_
                  exact J105 _ _ _ ⟨by rw [if_neg c_48, if_neg c_55, if_neg c_62, if_neg c_69, if_neg c_76, if_pos c_83], hP, hS⟩
                · refine lv_iload_n hx hb dX7_plain_86 rfl (lv_at hl 1 rfl) ?_
                  refine lv_sipush (v := 202) hx hb dX7_plain_87 (by decide) ?_
                  refine lv_icmp_eq (tgt := 100) hx hb dX7_plain_90 (by decide) (fun c_90 => ?_) (fun c_90 => ?_)
                  · refine lv_iconst (v := 1) hx hb dX7_plain_100 (by decide) ?_
                    refine lv_goto (tgt := 105) hx hb dX7_plain_101 (by decide) ?_
                    exact J105 _ _ _ ⟨by rw [if_neg c_48, if_neg c_55, if_neg c_62, if_neg c_69, if_neg c_76, if_neg c_83, if_pos c_90], hP, hS⟩
                  · refine lv_iload_n hx hb dX7_plain_93 rfl (lv_at hl 1 rfl) ?_
                    refine lv_sipush (v := 136) hx hb dX7_plain_94 (by decide) ?_
                    refine lv_icmp_ne (tgt := 104) hx hb dX7_plain_97 (by decide) (fun c_97 => ?_) (fun c_97 => ?_)
                    · refine lv_iconst (v := 0) hx hb dX7_plain_104 (by decide) ?_
                      exact J105 _ _ _ ⟨by rw [if_neg c_48, if_neg c_55, if_neg c_62, if_neg c_69, if_neg c_76, if_neg c_83, if_neg c_90, if_neg c_97], hP, hS⟩
                    · refine lv_iconst (v := 1) hx hb dX7_plain_100 (by decide) ?_
                      refine lv_goto (tgt := 105) hx hb dX7_plain_101 (by decide) ?_
                      exact J105 _ _ _ ⟨by rw [if_neg c_48, if_neg c_55, if_neg c_62, if_neg c_69, if_neg c_76, if_neg c_83, if_neg c_90, if_pos c_97], hP, hS⟩
  · refine lv_icmp_eq (tgt := 38) hx hb dX7_plain_3 (by decide) (fun c_3 => ?_) (fun c_3 => ?_)
    · refine lv_iconst (v := 1) hx hb dX7_plain_38 (by decide) ?_
      refine lv_goto (tgt := 43) hx hb dX7_plain_39 (by decide) ?_
      exact J43 _ _ _ ⟨by rw [if_pos c_3], hP, hS⟩
    · refine lv_iload_n hx hb dX7_plain_6 rfl (lv_at hl 0 rfl) ?_
      refine lv_bipush (v := 56) hx hb dX7_plain_7 (by decide) ?_
      refine lv_icmp_eq (tgt := 38) hx hb dX7_plain_9 (by decide) (fun c_9 => ?_) (fun c_9 => ?_)
      · refine lv_iconst (v := 1) hx hb dX7_plain_38 (by decide) ?_
        refine lv_goto (tgt := 43) hx hb dX7_plain_39 (by decide) ?_
        exact J43 _ _ _ ⟨by rw [if_neg c_3, if_pos c_9], hP, hS⟩
      · refine lv_iload_n hx hb dX7_plain_12 rfl (lv_at hl 0 rfl) ?_
        refine lv_bipush (v := 88) hx hb dX7_plain_13 (by decide) ?_
        refine lv_icmp_eq (tgt := 38) hx hb dX7_plain_15 (by decide) (fun c_15 => ?_) (fun c_15 => ?_)
        · refine lv_iconst (v := 1) hx hb dX7_plain_38 (by decide) ?_
          refine lv_goto (tgt := 43) hx hb dX7_plain_39 (by decide) ?_
          exact J43 _ _ _ ⟨by rw [if_neg c_3, if_neg c_9, if_pos c_15], hP, hS⟩
        · refine lv_iload_n hx hb dX7_plain_18 rfl (lv_at hl 0 rfl) ?_
          refine lv_bipush (v := 120) hx hb dX7_plain_19 (by decide) ?_
          refine lv_icmp_eq (tgt := 38) hx hb dX7_plain_21 (by decide) (fun c_21 => ?_) (fun c_21 => ?_)
          · refine lv_iconst (v := 1) hx hb dX7_plain_38 (by decide) ?_
            refine lv_goto (tgt := 43) hx hb dX7_plain_39 (by decide) ?_
            exact J43 _ _ _ ⟨by rw [if_neg c_3, if_neg c_9, if_neg c_15, if_pos c_21], hP, hS⟩
          · refine lv_iload_n hx hb dX7_plain_24 rfl (lv_at hl 0 rfl) ?_
            refine lv_sipush (v := 216) hx hb dX7_plain_25 (by decide) ?_
            refine lv_icmp_eq (tgt := 38) hx hb dX7_plain_28 (by decide) (fun c_28 => ?_) (fun c_28 => ?_)
            · refine lv_iconst (v := 1) hx hb dX7_plain_38 (by decide) ?_
              refine lv_goto (tgt := 43) hx hb dX7_plain_39 (by decide) ?_
              exact J43 _ _ _ ⟨by rw [if_neg c_3, if_neg c_9, if_neg c_15, if_neg c_21, if_pos c_28], hP, hS⟩
            · refine lv_iload_n hx hb dX7_plain_31 rfl (lv_at hl 0 rfl) ?_
              refine lv_sipush (v := 248) hx hb dX7_plain_32 (by decide) ?_
              refine lv_icmp_ne (tgt := 42) hx hb dX7_plain_35 (by decide) (fun c_35 => ?_) (fun c_35 => ?_)
              · refine lv_iconst (v := 0) hx hb dX7_plain_42 (by decide) ?_
                exact J43 _ _ _ ⟨by rw [if_neg c_3, if_neg c_9, if_neg c_15, if_neg c_21, if_neg c_28, if_neg c_35], hP, hS⟩
              · refine lv_iconst (v := 1) hx hb dX7_plain_38 (by decide) ?_
                refine lv_goto (tgt := 43) hx hb dX7_plain_39 (by decide) ?_
                exact J43 _ _ _ ⟨by rw [if_neg c_3, if_neg c_9, if_neg c_15, if_neg c_21, if_neg c_28, if_pos c_35], hP, hS⟩
