def fX7_returnStep (mo_port : Int32) (mo_line : Int32) (mo_raised : Int32) (mo_rows : Int32) (mo_flags2 : Int32) (mo_enabled : Int32) (mo_s : Int32) (mo_flags : Int32) (mo_p : Int32) (mo_code : Int32) (mo_step : Int32) (mo_low : Int32) (mo_latest : Int32) (mo_accesses : Int32) (f_mra : Nat → Int32) (f_mrA : Nat → Int32) (f_mrc : Nat → Int32) (f_mrk : Nat → Int32) (f_mpi : Nat → Int32) (f_mco : Nat → Int32) (f_mky : Nat → Int32) (f_mcn : Nat → Int32) (f_mct : Nat → Int32) : Int32 × Int32 × Int32 × Int32 × Int32 × Int32 × Int32 :=
  if mo_step = (1:Int32) then
   match (fX7_read mo_p mo_port mo_line mo_raised mo_rows mo_flags2 mo_enabled mo_accesses f_mra f_mrA f_mrc f_mrk f_mpi f_mco f_mky f_mcn f_mct) with
   | (r_13, mo_flags2_13, mo_latest_13, mo_accesses_13) =>
    if mo_code = (64:Int32) then
     (mo_flags2_13, mo_s, mo_flags, mo_p, mo_low, mo_latest_13, mo_accesses_13)
    else
     if mo_code = (96:Int32) then
      (mo_flags2_13, mo_s, mo_flags, mo_p, mo_low, mo_latest_13, mo_accesses_13)
     else
      (mo_flags2_13, mo_s, mo_flags, mo_p, mo_low, mo_latest_13, mo_accesses_13)
  else
   if mo_step = (2:Int32) then
    match (fX7_pull (1:Int32) mo_port mo_line mo_raised mo_rows mo_flags2 mo_enabled mo_s mo_accesses f_mra f_mrA f_mrc f_mrk f_mpi f_mco f_mky f_mcn f_mct) with
    | (r_27, mo_flags2_27, mo_s_27, mo_latest_27, mo_accesses_27) =>
     if mo_code = (64:Int32) then
      (mo_flags2_27, mo_s_27, mo_flags, mo_p, mo_low, mo_latest_27, mo_accesses_27)
     else
      if mo_code = (96:Int32) then
       (mo_flags2_27, mo_s_27, mo_flags, mo_p, mo_low, mo_latest_27, mo_accesses_27)
      else
       (mo_flags2_27, mo_s_27, mo_flags, mo_p, mo_low, mo_latest_27, mo_accesses_27)
   else
    if mo_code = (64:Int32) then
     if mo_step = (3:Int32) then
      match (fX7_pull (1:Int32) mo_port mo_line mo_raised mo_rows mo_flags2 mo_enabled mo_s mo_accesses f_mra f_mrA f_mrc f_mrk f_mpi f_mco f_mky f_mcn f_mct) with
      | (r_51, mo_flags2_51, mo_s_51, mo_latest_51, mo_accesses_51) =>
       (mo_flags2_51, mo_s_51, (r_51 &&& (207:Int32)), mo_p, mo_low, mo_latest_51, mo_accesses_51)
     else
      if mo_step = (4:Int32) then
       match (fX7_pull (1:Int32) mo_port mo_line mo_raised mo_rows mo_flags2 mo_enabled mo_s mo_accesses f_mra f_mrA f_mrc f_mrk f_mpi f_mco f_mky f_mcn f_mct) with
       | (r_88, mo_flags2_88, mo_s_88, mo_latest_88, mo_accesses_88) =>
        (mo_flags2_88, mo_s_88, mo_flags, ((mo_p &&& (65280:Int32)) + r_88), mo_low, mo_latest_88, mo_accesses_88)
      else
       if mo_step = (5:Int32) then
        match (fX7_pull (0:Int32) mo_port mo_line mo_raised mo_rows mo_flags2 mo_enabled mo_s mo_accesses f_mra f_mrA f_mrc f_mrk f_mpi f_mco f_mky f_mcn f_mct) with
        | (r_126, mo_flags2_126, mo_s_126, mo_latest_126, mo_accesses_126) =>
         (mo_flags2_126, mo_s_126, mo_flags, ((mo_p &&& (255:Int32)) + ((256:Int32) * r_126)), mo_low, mo_latest_126, mo_accesses_126)
       else
        (mo_flags2, mo_s, mo_flags, mo_p, mo_low, mo_latest, mo_accesses)
    else
     if mo_code = (96:Int32) then
      if mo_step = (3:Int32) then
       match (fX7_pull (1:Int32) mo_port mo_line mo_raised mo_rows mo_flags2 mo_enabled mo_s mo_accesses f_mra f_mrA f_mrc f_mrk f_mpi f_mco f_mky f_mcn f_mct) with
       | (r_154, mo_flags2_154, mo_s_154, mo_latest_154, mo_accesses_154) =>
        (mo_flags2_154, mo_s_154, mo_flags, mo_p, r_154, mo_latest_154, mo_accesses_154)
      else
       if mo_step = (4:Int32) then
        match (fX7_pull (0:Int32) mo_port mo_line mo_raised mo_rows mo_flags2 mo_enabled mo_s mo_accesses f_mra f_mrA f_mrc f_mrk f_mpi f_mco f_mky f_mcn f_mct) with
        | (r_183, mo_flags2_183, mo_s_183, mo_latest_183, mo_accesses_183) =>
         (mo_flags2_183, mo_s_183, mo_flags, (((256:Int32) * r_183) + mo_low), mo_low, mo_latest_183, mo_accesses_183)
       else
        if mo_step = (5:Int32) then
         match (fX7_next mo_port mo_line mo_raised mo_rows mo_flags2 mo_enabled mo_p mo_accesses f_mra f_mrA f_mrc f_mrk f_mpi f_mco f_mky f_mcn f_mct) with
         | (r_213, mo_flags2_213, mo_p_213, mo_latest_213, mo_accesses_213) =>
          (mo_flags2_213, mo_s, mo_flags, mo_p_213, mo_low, mo_latest_213, mo_accesses_213)
        else
         (mo_flags2, mo_s, mo_flags, mo_p, mo_low, mo_latest, mo_accesses)
     else
      (mo_flags2, mo_s, mo_flags, mo_p, mo_low, mo_latest, mo_accesses)
set_option maxHeartbeats 4000000 in
set_option maxRecDepth 100000 in
theorem mX7_returnStep (l : Launch) (dC : Nat → ClassId) (dI : Nat → Nat → Nat) (q_mo q_mra q_mrA q_mrc q_mrk q_mpi q_mwc q_mwo q_mco q_mpo q_mky q_mla q_mcn q_mct : Nat) (k_mra k_mrA k_mrc k_mrk k_mpi k_mwc k_mwo k_mco k_mpo k_mky k_mla k_mcn k_mct : ClassId) (sz : Nat) (mo_port mo_line mo_cycle mo_raised mo_idle mo_bad mo_glyph mo_fetched mo_rows mo_flags2 mo_enabled mo_a mo_x mo_y mo_s mo_flags mo_p mo_jammed mo_code mo_step mo_low mo_high mo_old mo_latest mo_cycles mo_stolen mo_interrupts mo_accesses : Int32) (f_mra f_mrA f_mrc f_mrk f_mpi f_mwc f_mwo f_mco f_mpo f_mky f_mla f_mcn f_mct : Nat → Int32) (hp : vp_in mo_p 65536) (hs_ : vp_in mo_s 256) : Met l yX7_returnStep uX7_returnStep ({ frames := 5, cells := 0, slots := 0, locals := 111 }) (va_Pc [.ref q_mo] (fun U => U.heap.size = sz ∧ va_P (dC, dI) vwCl (wwX7 q_mo q_mra q_mrA q_mrc q_mrk q_mpi q_mwc q_mwo q_mco q_mpo q_mky q_mla q_mcn q_mct k_mra k_mrA k_mrc k_mrk k_mpi k_mwc k_mwo k_mco k_mpo k_mky k_mla k_mcn k_mct mo_port mo_line mo_cycle mo_raised mo_idle mo_bad mo_glyph mo_fetched mo_rows mo_flags2 mo_enabled mo_a mo_x mo_y mo_s mo_flags mo_p mo_jammed mo_code mo_step mo_low mo_high mo_old mo_latest mo_cycles mo_stolen mo_interrupts mo_accesses f_mra f_mrA f_mrc f_mrk f_mpi f_mwc f_mwo f_mco f_mpo f_mky f_mla f_mcn f_mct) U.heap ∧ va_K (dC, dI) vwCl [(k_mra, .int), (k_mrA, .int), (k_mrc, .int), (k_mrk, .int), (k_mpi, .int), (k_mwc, .int), (k_mwo, .int), (k_mco, .int), (k_mpo, .int), (k_mky, .int), (k_mla, .int), (k_mcn, .int), (k_mct, .int)] U ∧ va_D (fun _ => True) (wwX7 q_mo q_mra q_mrA q_mrc q_mrk q_mpi q_mwc q_mwo q_mco q_mpo q_mky q_mla q_mcn q_mct k_mra k_mrA k_mrc k_mrk k_mpi k_mwc k_mwo k_mco k_mpo k_mky k_mla k_mcn k_mct mo_port mo_line mo_cycle mo_raised mo_idle mo_bad mo_glyph mo_fetched mo_rows mo_flags2 mo_enabled mo_a mo_x mo_y mo_s mo_flags mo_p mo_jammed mo_code mo_step mo_low mo_high mo_old mo_latest mo_cycles mo_stolen mo_interrupts mo_accesses f_mra f_mrA f_mrc f_mrk f_mpi f_mwc f_mwo f_mco f_mpo f_mky f_mla f_mcn f_mct))) (va_Qv (fun (u : Int32 × Int32 × Int32 × Int32 × Int32 × Int32 × Int32) => u = fX7_returnStep mo_port mo_line mo_raised mo_rows mo_flags2 mo_enabled mo_s mo_flags mo_p mo_code mo_step mo_low mo_latest mo_accesses f_mra f_mrA f_mrc f_mrk f_mpi f_mco f_mky f_mcn f_mct) (fun (u : Int32 × Int32 × Int32 × Int32 × Int32 × Int32 × Int32) (t : State) => va_P (dC, dI) vwCl (wwX7 q_mo q_mra q_mrA q_mrc q_mrk q_mpi q_mwc q_mwo q_mco q_mpo q_mky q_mla q_mcn q_mct k_mra k_mrA k_mrc k_mrk k_mpi k_mwc k_mwo k_mco k_mpo k_mky k_mla k_mcn k_mct mo_port mo_line mo_cycle mo_raised mo_idle mo_bad mo_glyph mo_fetched mo_rows u.1 mo_enabled mo_a mo_x mo_y u.2.1 u.2.2.1 u.2.2.2.1 mo_jammed mo_code mo_step u.2.2.2.2.1 mo_high mo_old u.2.2.2.2.2.1 mo_cycles mo_stolen mo_interrupts u.2.2.2.2.2.2 f_mra f_mrA f_mrc f_mrk f_mpi f_mwc f_mwo f_mco f_mpo f_mky f_mla f_mcn f_mct) t.heap ∧ va_K (dC, dI) vwCl [(k_mra, .int), (k_mrA, .int), (k_mrc, .int), (k_mrk, .int), (k_mpi, .int), (k_mwc, .int), (k_mwo, .int), (k_mco, .int), (k_mpo, .int), (k_mky, .int), (k_mla, .int), (k_mcn, .int), (k_mct, .int)] t ∧ va_D (va_A (wwX7 q_mo q_mra q_mrA q_mrc q_mrk q_mpi q_mwc q_mwo q_mco q_mpo q_mky q_mla q_mcn q_mct k_mra k_mrA k_mrc k_mrk k_mpi k_mwc k_mwo k_mco k_mpo k_mky k_mla k_mcn k_mct mo_port mo_line mo_cycle mo_raised mo_idle mo_bad mo_glyph mo_fetched mo_rows mo_flags2 mo_enabled mo_a mo_x mo_y mo_s mo_flags mo_p mo_jammed mo_code mo_step mo_low mo_high mo_old mo_latest mo_cycles mo_stolen mo_interrupts mo_accesses f_mra f_mrA f_mrc f_mrk f_mpi f_mwc f_mwo f_mco f_mpo f_mky f_mla f_mcn f_mct) sz) (wwX7 q_mo q_mra q_mrA q_mrc q_mrk q_mpi q_mwc q_mwo q_mco q_mpo q_mky q_mla q_mcn q_mct k_mra k_mrA k_mrc k_mrk k_mpi k_mwc k_mwo k_mco k_mpo k_mky k_mla k_mcn k_mct mo_port mo_line mo_cycle mo_raised mo_idle mo_bad mo_glyph mo_fetched mo_rows u.1 mo_enabled mo_a mo_x mo_y u.2.1 u.2.2.1 u.2.2.2.1 mo_jammed mo_code mo_step u.2.2.2.2.1 mo_high mo_old u.2.2.2.2.2.1 mo_cycles mo_stolen mo_interrupts u.2.2.2.2.2.2 f_mra f_mrA f_mrc f_mrk f_mpi f_mwc f_mwo f_mco f_mpo f_mky f_mla f_mcn f_mct)) (va_A (wwX7 q_mo q_mra q_mrA q_mrc q_mrk q_mpi q_mwc q_mwo q_mco q_mpo q_mky q_mla q_mcn q_mct k_mra k_mrA k_mrc k_mrk k_mpi k_mwc k_mwo k_mco k_mpo k_mky k_mla k_mcn k_mct mo_port mo_line mo_cycle mo_raised mo_idle mo_bad mo_glyph mo_fetched mo_rows mo_flags2 mo_enabled mo_a mo_x mo_y mo_s mo_flags mo_p mo_jammed mo_code mo_step mo_low mo_high mo_old mo_latest mo_cycles mo_stolen mo_interrupts mo_accesses f_mra f_mrA f_mrc f_mrk f_mpi f_mwc f_mwo f_mco f_mpo f_mky f_mla f_mcn f_mct) sz)) 0 0 (va_A (wwX7 q_mo q_mra q_mrA q_mrc q_mrk q_mpi q_mwc q_mwo q_mco q_mpo q_mky q_mla q_mcn q_mct k_mra k_mrA k_mrc k_mrk k_mpi k_mwc k_mwo k_mco k_mpo k_mky k_mla k_mcn k_mct mo_port mo_line mo_cycle mo_raised mo_idle mo_bad mo_glyph mo_fetched mo_rows mo_flags2 mo_enabled mo_a mo_x mo_y mo_s mo_flags mo_p mo_jammed mo_code mo_step mo_low mo_high mo_old mo_latest mo_cycles mo_stolen mo_interrupts mo_accesses f_mra f_mrA f_mrc f_mrk f_mpi f_mwc f_mwo f_mco f_mpo f_mky f_mla f_mcn f_mct) sz) := by
  refine Met.ofW (cc := cX7_returnStep) (maxL := 1) (ret := none) (by decide) rfl ?_
  intro p e s m args below meth c s₁ B hml hv
  obtain ⟨rfl, hsz, hP, hK, hD0⟩ := hv
  have hx := B.exec
  have hb := B.bytes
  have hr := B.returns
  have hts : ∀ w ∈ ub, w.before _ s = true := fun w h => atoms_spec (ws := uX7_returnStep) B.pre w (List.mem_cons_of_mem _ h)
  have hown : s.vm.findClass RX7 = some m.cls := findClass_of_methodNamed B.named
  have hlocks := B.notSynchronized
  subst hsz
  have hD := hD0.self (sz := s.heap.size)
  generalize hAe : va_A (wwX7 q_mo q_mra q_mrA q_mrc q_mrk q_mpi q_mwc q_mwo q_mco q_mpo q_mky q_mla q_mcn q_mct k_mra k_mrA k_mrc k_mrk k_mpi k_mwc k_mwo k_mco k_mpo k_mky k_mla k_mcn k_mct mo_port mo_line mo_cycle mo_raised mo_idle mo_bad mo_glyph mo_fetched mo_rows mo_flags2 mo_enabled mo_a mo_x mo_y mo_s mo_flags mo_p mo_jammed mo_code mo_step mo_low mo_high mo_old mo_latest mo_cycles mo_stolen mo_interrupts mo_accesses f_mra f_mrA f_mrc f_mrk f_mpi f_mwc f_mwo f_mco f_mpo f_mky f_mla f_mcn f_mct) s.heap.size = A at hD ⊢
  have hA : ∀ q : Nat, s.heap.size ≤ q → A q := fun q h => by rw [← hAe]; exact Or.inr h
  have hS : va_S A s.heap s.heap [] := va_S.rf
  have hl := lv_entry ([.ref q_mo]) (n := 1) (Nat.le_of_ble_eq_true rfl)
  rw [lg_entry_eq]
  generalize (lg_sl ([.ref q_mo]) ++ List.replicate (1 - (lg_sl ([.ref q_mo])).length) Slot.unset).toArray = ls at hl ⊢
  have hl : lv_has ls 1 [(0, .ref q_mo)] := hl
  have hF := fX7_returnStep.eq_1 mo_port mo_line mo_raised mo_rows mo_flags2 mo_enabled mo_s mo_flags mo_p mo_code mo_step mo_low mo_latest mo_accesses f_mra f_mrA f_mrc f_mrk f_mpi f_mco f_mky f_mcn f_mct
  refine lv_aload_n hx hb dX7_returnStep_0 rfl (lv_at hl 0 rfl) ?_
  refine va_get (D := (dC, dI)) (ci := 7) (v := .int mo_step) (C := RX7) (T := TX7) (N := 41) hx hb hts hiX7 hown hK hP 0 rfl rfl 32 (by decide) (hts _ kFX7_148) (fun _ h9 => h9) rfl dX7_returnStep_1 ?_
  refine lv_iconst (v := 1) hx hb dX7_returnStep_4 (by decide) ?_
  refine lv_icmp_ne (tgt := 17) hx hb dX7_returnStep_5 (by decide) (fun c_5 => ?_) (fun c_5 => ?_)
  · have hF := hF.trans (if_neg c_5)
    refine lv_aload_n hx hb dX7_returnStep_17 rfl (lv_at hl 0 rfl) ?_
    refine va_get (D := (dC, dI)) (ci := 7) (v := .int mo_step) (C := RX7) (T := TX7) (N := 41) hx hb hts hiX7 hown hK hP 0 rfl rfl 32 (by decide) (hts _ kFX7_148) (fun _ h9 => h9) rfl dX7_returnStep_18 ?_
    refine lv_iconst (v := 2) hx hb dX7_returnStep_21 (by decide) ?_
    refine lv_icmp_ne (tgt := 31) hx hb dX7_returnStep_22 (by decide) (fun c_22 => ?_) (fun c_22 => ?_)
    · have hF := hF.trans (if_neg c_22)
      refine lv_aload_n hx hb dX7_returnStep_31 rfl (lv_at hl 0 rfl) ?_
      refine va_get (D := (dC, dI)) (ci := 7) (v := .int mo_code) (C := RX7) (T := TX7) (N := 41) hx hb hts hiX7 hown hK hP 0 rfl rfl 31 (by decide) (hts _ kFX7_167) (fun _ h9 => h9) rfl dX7_returnStep_32 ?_
      refine lv_bipush (v := 64) hx hb dX7_returnStep_35 (by decide) ?_
      refine lv_icmp_ne (tgt := 61) hx hb dX7_returnStep_37 (by decide) (fun c_37 => ?_) (fun c_37 => ?_)
      · have hF := hF.trans (if_neg c_37)
        refine lv_aload_n hx hb dX7_returnStep_61 rfl (lv_at hl 0 rfl) ?_
        refine va_get (D := (dC, dI)) (ci := 7) (v := .int mo_code) (C := RX7) (T := TX7) (N := 41) hx hb hts hiX7 hown hK hP 0 rfl rfl 31 (by decide) (hts _ kFX7_167) (fun _ h9 => h9) rfl dX7_returnStep_62 ?_
        refine lv_bipush (v := 64) hx hb dX7_returnStep_65 (by decide) ?_
        refine lv_icmp_ne (tgt := 95) hx hb dX7_returnStep_67 (by decide) (fun c_67 => ?_) (fun c_67 => by exact absurd c_67 c_37)
        refine lv_aload_n hx hb dX7_returnStep_95 rfl (lv_at hl 0 rfl) ?_
        refine va_get (D := (dC, dI)) (ci := 7) (v := .int mo_code) (C := RX7) (T := TX7) (N := 41) hx hb hts hiX7 hown hK hP 0 rfl rfl 31 (by decide) (hts _ kFX7_167) (fun _ h9 => h9) rfl dX7_returnStep_96 ?_
        refine lv_bipush (v := 64) hx hb dX7_returnStep_99 (by decide) ?_
        refine lv_icmp_ne (tgt := 134) hx hb dX7_returnStep_101 (by decide) (fun c_101 => ?_) (fun c_101 => by exact absurd c_101 c_37)
        refine lv_aload_n hx hb dX7_returnStep_134 rfl (lv_at hl 0 rfl) ?_
        refine va_get (D := (dC, dI)) (ci := 7) (v := .int mo_code) (C := RX7) (T := TX7) (N := 41) hx hb hts hiX7 hown hK hP 0 rfl rfl 31 (by decide) (hts _ kFX7_167) (fun _ h9 => h9) rfl dX7_returnStep_135 ?_
        refine lv_bipush (v := 96) hx hb dX7_returnStep_138 (by decide) ?_
        refine lv_icmp_ne (tgt := 160) hx hb dX7_returnStep_140 (by decide) (fun c_140 => ?_) (fun c_140 => ?_)
        · have hF := hF.trans (if_neg c_140)
          refine lv_aload_n hx hb dX7_returnStep_160 rfl (lv_at hl 0 rfl) ?_
          refine va_get (D := (dC, dI)) (ci := 7) (v := .int mo_code) (C := RX7) (T := TX7) (N := 41) hx hb hts hiX7 hown hK hP 0 rfl rfl 31 (by decide) (hts _ kFX7_167) (fun _ h9 => h9) rfl dX7_returnStep_161 ?_
          refine lv_bipush (v := 96) hx hb dX7_returnStep_164 (by decide) ?_
          refine lv_icmp_ne (tgt := 195) hx hb dX7_returnStep_166 (by decide) (fun c_166 => ?_) (fun c_166 => by exact absurd c_166 c_140)
          refine lv_aload_n hx hb dX7_returnStep_195 rfl (lv_at hl 0 rfl) ?_
          refine va_get (D := (dC, dI)) (ci := 7) (v := .int mo_code) (C := RX7) (T := TX7) (N := 41) hx hb hts hiX7 hown hK hP 0 rfl rfl 31 (by decide) (hts _ kFX7_167) (fun _ h9 => h9) rfl dX7_returnStep_196 ?_
          refine lv_bipush (v := 96) hx hb dX7_returnStep_199 (by decide) ?_
          refine lv_icmp_ne (tgt := 217) hx hb dX7_returnStep_201 (by decide) (fun c_201 => ?_) (fun c_201 => by exact absurd c_201 c_140)
          exact W.vret hx hb hr (fun t ht hW => ⟨⟨(mo_flags2, mo_s, mo_flags, mo_p, mo_low, mo_latest, mo_accesses), rfl, hF.symm, by rw [ht]; exact hP, va_K.moved hW.alike hK, hD⟩, hS.F ht⟩) hS.2.2 dX7_returnStep_217
        · have hF := hF.trans (if_pos c_140)
          refine lv_aload_n hx hb dX7_returnStep_143 rfl (lv_at hl 0 rfl) ?_
          refine va_get (D := (dC, dI)) (ci := 7) (v := .int mo_step) (C := RX7) (T := TX7) (N := 41) hx hb hts hiX7 hown hK hP 0 rfl rfl 32 (by decide) (hts _ kFX7_148) (fun _ h9 => h9) rfl dX7_returnStep_144 ?_
          refine lv_iconst (v := 3) hx hb dX7_returnStep_147 (by decide) ?_
          refine lv_icmp_ne (tgt := 160) hx hb dX7_returnStep_148 (by decide) (fun c_148 => ?_) (fun c_148 => ?_)
          · have hF := hF.trans (if_neg c_148)
            refine lv_aload_n hx hb dX7_returnStep_160 rfl (lv_at hl 0 rfl) ?_
            refine va_get (D := (dC, dI)) (ci := 7) (v := .int mo_code) (C := RX7) (T := TX7) (N := 41) hx hb hts hiX7 hown hK hP 0 rfl rfl 31 (by decide) (hts _ kFX7_167) (fun _ h9 => h9) rfl dX7_returnStep_161 ?_
            refine lv_bipush (v := 96) hx hb dX7_returnStep_164 (by decide) ?_
            refine lv_icmp_ne (tgt := 195) hx hb dX7_returnStep_166 (by decide) (fun c_166 => by exact absurd c_140 c_166) (fun c_166 => ?_)
            refine lv_aload_n hx hb dX7_returnStep_169 rfl (lv_at hl 0 rfl) ?_
            refine va_get (D := (dC, dI)) (ci := 7) (v := .int mo_step) (C := RX7) (T := TX7) (N := 41) hx hb hts hiX7 hown hK hP 0 rfl rfl 32 (by decide) (hts _ kFX7_148) (fun _ h9 => h9) rfl dX7_returnStep_170 ?_
            refine lv_iconst (v := 4) hx hb dX7_returnStep_173 (by decide) ?_
            refine lv_icmp_ne (tgt := 195) hx hb dX7_returnStep_174 (by decide) (fun c_174 => ?_) (fun c_174 => ?_)
            · have hF := hF.trans (if_neg c_174)
              refine lv_aload_n hx hb dX7_returnStep_195 rfl (lv_at hl 0 rfl) ?_
              refine va_get (D := (dC, dI)) (ci := 7) (v := .int mo_code) (C := RX7) (T := TX7) (N := 41) hx hb hts hiX7 hown hK hP 0 rfl rfl 31 (by decide) (hts _ kFX7_167) (fun _ h9 => h9) rfl dX7_returnStep_196 ?_
              refine lv_bipush (v := 96) hx hb dX7_returnStep_199 (by decide) ?_
              refine lv_icmp_ne (tgt := 217) hx hb dX7_returnStep_201 (by decide) (fun c_201 => by exact absurd c_140 c_201) (fun c_201 => ?_)
              refine lv_aload_n hx hb dX7_returnStep_204 rfl (lv_at hl 0 rfl) ?_
              refine va_get (D := (dC, dI)) (ci := 7) (v := .int mo_step) (C := RX7) (T := TX7) (N := 41) hx hb hts hiX7 hown hK hP 0 rfl rfl 32 (by decide) (hts _ kFX7_148) (fun _ h9 => h9) rfl dX7_returnStep_205 ?_
              refine lv_iconst (v := 5) hx hb dX7_returnStep_208 (by decide) ?_
              refine lv_icmp_ne (tgt := 217) hx hb dX7_returnStep_209 (by decide) (fun c_209 => ?_) (fun c_209 => ?_)
              · have hF := hF.trans (if_neg c_209)
                exact W.vret hx hb hr (fun t ht hW => ⟨⟨(mo_flags2, mo_s, mo_flags, mo_p, mo_low, mo_latest, mo_accesses), rfl, hF.symm, by rw [ht]; exact hP, va_K.moved hW.alike hK, hD⟩, hS.F ht⟩) hS.2.2 dX7_returnStep_217
              · have hF := hF.trans (if_pos c_209)
                refine lv_aload_n hx hb dX7_returnStep_212 rfl (lv_at hl 0 rfl) ?_
                have hPc := hP.sub (ws' := (wwX7 q_mo q_mra q_mrA q_mrc q_mrk q_mpi q_mwc q_mwo q_mco q_mpo q_mky q_mla q_mcn q_mct k_mra k_mrA k_mrc k_mrk k_mpi k_mwc k_mwo k_mco k_mpo k_mky k_mla k_mcn k_mct mo_port mo_line mo_cycle mo_raised mo_idle mo_bad mo_glyph mo_fetched mo_rows mo_flags2 mo_enabled mo_a mo_x mo_y mo_s mo_flags mo_p mo_jammed mo_code mo_step mo_low mo_high mo_old mo_latest mo_cycles mo_stolen mo_interrupts mo_accesses f_mra f_mrA f_mrc f_mrk f_mpi f_mwc f_mwo f_mco f_mpo f_mky f_mla f_mcn f_mct)) [0, 1, 2, 3, 4, 5, 6, 7, 8, 9, 10, 11, 12, 13] rfl
                have hDc := hD.sub (ws' := (wwX7 q_mo q_mra q_mrA q_mrc q_mrk q_mpi q_mwc q_mwo q_mco q_mpo q_mky q_mla q_mcn q_mct k_mra k_mrA k_mrc k_mrk k_mpi k_mwc k_mwo k_mco k_mpo k_mky k_mla k_mcn k_mct mo_port mo_line mo_cycle mo_raised mo_idle mo_bad mo_glyph mo_fetched mo_rows mo_flags2 mo_enabled mo_a mo_x mo_y mo_s mo_flags mo_p mo_jammed mo_code mo_step mo_low mo_high mo_old mo_latest mo_cycles mo_stolen mo_interrupts mo_accesses f_mra f_mrA f_mrc f_mrk f_mpi f_mwc f_mwo f_mco f_mpo f_mky f_mla f_mcn f_mct)) [0, 1, 2, 3, 4, 5, 6, 7, 8, 9, 10, 11, 12, 13] (by decide) rfl
                have hKc := hK.sub (tys' := [(k_mra, .int), (k_mrA, .int), (k_mrc, .int), (k_mrk, .int), (k_mpi, .int), (k_mwc, .int), (k_mwo, .int), (k_mco, .int), (k_mpo, .int), (k_mky, .int), (k_mla, .int), (k_mcn, .int), (k_mct, .int)]) [0, 1, 2, 3, 4, 5, 6, 7, 8, 9, 10, 11, 12] rfl
                have hFc := va_free (wc := (wwX7 q_mo q_mra q_mrA q_mrc q_mrk q_mpi q_mwc q_mwo q_mco q_mpo q_mky q_mla q_mcn q_mct k_mra k_mrA k_mrc k_mrk k_mpi k_mwc k_mwo k_mco k_mpo k_mky k_mla k_mcn k_mct mo_port mo_line mo_cycle mo_raised mo_idle mo_bad mo_glyph mo_fetched mo_rows mo_flags2 mo_enabled mo_a mo_x mo_y mo_s mo_flags mo_p mo_jammed mo_code mo_step mo_low mo_high mo_old mo_latest mo_cycles mo_stolen mo_interrupts mo_accesses f_mra f_mrA f_mrc f_mrk f_mpi f_mwc f_mwo f_mco f_mpo f_mky f_mla f_mcn f_mct)) hD hS hA [0, 1, 2, 3, 4, 5, 6, 7, 8, 9, 10, 11, 12, 13] rfl
                refine va_calli (va_runV (As := []) (rest := []) ⟨hx, hb, hml, hown, hts⟩ (mX7_next l dC dI q_mo q_mra q_mrA q_mrc q_mrk q_mpi q_mwc q_mwo q_mco q_mpo q_mky q_mla q_mcn q_mct k_mra k_mrA k_mrc k_mrk k_mpi k_mwc k_mwo k_mco k_mpo k_mky k_mla k_mcn k_mct s.heap.size mo_port mo_line mo_cycle mo_raised mo_idle mo_bad mo_glyph mo_fetched mo_rows mo_flags2 mo_enabled mo_a mo_x mo_y mo_s mo_flags mo_p mo_jammed mo_code mo_step mo_low mo_high mo_old mo_latest mo_cycles mo_stolen mo_interrupts mo_accesses f_mra f_mrA f_mrc f_mrk f_mpi f_mwc f_mwo f_mco f_mpo f_mky f_mla f_mcn f_mct hp) (cwV 0 hts (ub_V kMX7_185 kYX7_next kSX7_next kIX7 kBX7_next) rfl rfl rfl (by decide +kernel) ⟨Nat.le_of_ble_eq_true rfl, Nat.le_of_ble_eq_true rfl⟩) ⟨fun a U g mk q => by obtain ⟨q0, q1, qP, qK, qD⟩ := q; exact ⟨q0, q1, qP, va_K.moved (u := U) (U := U.calling g mk a) (Vm.Alike.refl U.vm) qK, qD⟩, va_recv hKc hPc (ci := 7) (q0 := 0) rfl rfl, fun U hU hW => ⟨rfl, by rw [hU], by rw [hU]; exact hPc, va_K.moved hW.alike hKc, hDc.weaken (fun _ _ _ _ => trivial)⟩⟩ rfl rfl hl.1 rfl (lv_room (Nat.le_of_ble_eq_true rfl)) dX7_returnStep_213 ⟨(Nat.zero_le _), (Nat.zero_le _)⟩) hS (fun q _ h => hFc q h) hFc (fun r_213 u_213 t H locs ht hvm hw hB hz1 hk1 hS => ?_)
                obtain ⟨mo_flags2_213, mo_p_213, mo_latest_213, mo_accesses_213⟩ := u_213
                obtain ⟨hP1, hK1, hD1⟩ := hB
                rw [ht] at hP1
                obtain ⟨hP, hD⟩ := vb_bk2 (wc := (wwX7 q_mo q_mra q_mrA q_mrc q_mrk q_mpi q_mwc q_mwo q_mco q_mpo q_mky q_mla q_mcn q_mct k_mra k_mrA k_mrc k_mrk k_mpi k_mwc k_mwo k_mco k_mpo k_mky k_mla k_mcn k_mct mo_port mo_line mo_cycle mo_raised mo_idle mo_bad mo_glyph mo_fetched mo_rows mo_flags2 mo_enabled mo_a mo_x mo_y mo_s mo_flags mo_p mo_jammed mo_code mo_step mo_low mo_high mo_old mo_latest mo_cycles mo_stolen mo_interrupts mo_accesses f_mra f_mrA f_mrc f_mrk f_mpi f_mwc f_mwo f_mco f_mpo f_mky f_mla f_mcn f_mct)) (ws' := (wwX7 q_mo q_mra q_mrA q_mrc q_mrk q_mpi q_mwc q_mwo q_mco q_mpo q_mky q_mla q_mcn q_mct k_mra k_mrA k_mrc k_mrk k_mpi k_mwc k_mwo k_mco k_mpo k_mky k_mla k_mcn k_mct mo_port mo_line mo_cycle mo_raised mo_idle mo_bad mo_glyph mo_fetched mo_rows mo_flags2_213 mo_enabled mo_a mo_x mo_y mo_s mo_flags mo_p_213 mo_jammed mo_code mo_step mo_low mo_high mo_old mo_latest_213 mo_cycles mo_stolen mo_interrupts mo_accesses_213 f_mra f_mrA f_mrc f_mrk f_mpi f_mwc f_mwo f_mco f_mpo f_mky f_mla f_mcn f_mct)) hP hD hD1 [0, 1, 2, 3, 4, 5, 6, 7, 8, 9, 10, 11, 12, 13] [] rfl [q_mo, q_mra, q_mrA, q_mrc, q_mrk, q_mpi, q_mwc, q_mwo, q_mco, q_mpo, q_mky, q_mla, q_mcn, q_mct] rfl rfl ae_n rfl rfl hk1 hP1
                rw [← hw] at hF
                dsimp only at hF
                refine lv_pop hx hb dX7_returnStep_216 rfl ?_
                exact W.vret hx hb hr (fun t ht hW => ⟨⟨(mo_flags2_213, mo_s, mo_flags, mo_p_213, mo_low, mo_latest_213, mo_accesses_213), rfl, hF.symm, by rw [ht]; exact hP, va_K.moved hW.alike hK, hD⟩, hS.F ht⟩) hS.2.2 dX7_returnStep_217
            · have hF := hF.trans (if_pos c_174)
              refine lv_aload_n hx hb dX7_returnStep_177 rfl (lv_at hl 0 rfl) ?_
              refine lv_sipush (v := 256) hx hb dX7_returnStep_178 (by decide) ?_
              refine lv_aload_n hx hb dX7_returnStep_181 rfl (lv_at hl 0 rfl) ?_
              refine lv_iconst (v := 0) hx hb dX7_returnStep_182 (by decide) ?_
              have hPc := hP.sub (ws' := (wwX7 q_mo q_mra q_mrA q_mrc q_mrk q_mpi q_mwc q_mwo q_mco q_mpo q_mky q_mla q_mcn q_mct k_mra k_mrA k_mrc k_mrk k_mpi k_mwc k_mwo k_mco k_mpo k_mky k_mla k_mcn k_mct mo_port mo_line mo_cycle mo_raised mo_idle mo_bad mo_glyph mo_fetched mo_rows mo_flags2 mo_enabled mo_a mo_x mo_y mo_s mo_flags mo_p mo_jammed mo_code mo_step mo_low mo_high mo_old mo_latest mo_cycles mo_stolen mo_interrupts mo_accesses f_mra f_mrA f_mrc f_mrk f_mpi f_mwc f_mwo f_mco f_mpo f_mky f_mla f_mcn f_mct)) [0, 1, 2, 3, 4, 5, 6, 7, 8, 9, 10, 11, 12, 13] rfl
              have hDc := hD.sub (ws' := (wwX7 q_mo q_mra q_mrA q_mrc q_mrk q_mpi q_mwc q_mwo q_mco q_mpo q_mky q_mla q_mcn q_mct k_mra k_mrA k_mrc k_mrk k_mpi k_mwc k_mwo k_mco k_mpo k_mky k_mla k_mcn k_mct mo_port mo_line mo_cycle mo_raised mo_idle mo_bad mo_glyph mo_fetched mo_rows mo_flags2 mo_enabled mo_a mo_x mo_y mo_s mo_flags mo_p mo_jammed mo_code mo_step mo_low mo_high mo_old mo_latest mo_cycles mo_stolen mo_interrupts mo_accesses f_mra f_mrA f_mrc f_mrk f_mpi f_mwc f_mwo f_mco f_mpo f_mky f_mla f_mcn f_mct)) [0, 1, 2, 3, 4, 5, 6, 7, 8, 9, 10, 11, 12, 13] (by decide) rfl
              have hKc := hK.sub (tys' := [(k_mra, .int), (k_mrA, .int), (k_mrc, .int), (k_mrk, .int), (k_mpi, .int), (k_mwc, .int), (k_mwo, .int), (k_mco, .int), (k_mpo, .int), (k_mky, .int), (k_mla, .int), (k_mcn, .int), (k_mct, .int)]) [0, 1, 2, 3, 4, 5, 6, 7, 8, 9, 10, 11, 12] rfl
              have hFc := va_free (wc := (wwX7 q_mo q_mra q_mrA q_mrc q_mrk q_mpi q_mwc q_mwo q_mco q_mpo q_mky q_mla q_mcn q_mct k_mra k_mrA k_mrc k_mrk k_mpi k_mwc k_mwo k_mco k_mpo k_mky k_mla k_mcn k_mct mo_port mo_line mo_cycle mo_raised mo_idle mo_bad mo_glyph mo_fetched mo_rows mo_flags2 mo_enabled mo_a mo_x mo_y mo_s mo_flags mo_p mo_jammed mo_code mo_step mo_low mo_high mo_old mo_latest mo_cycles mo_stolen mo_interrupts mo_accesses f_mra f_mrA f_mrc f_mrk f_mpi f_mwc f_mwo f_mco f_mpo f_mky f_mla f_mcn f_mct)) hD hS hA [0, 1, 2, 3, 4, 5, 6, 7, 8, 9, 10, 11, 12, 13] rfl
              refine va_calli (va_runV (As := [.int (0:Int32)]) (rest := [.int (256:Int32), .ref q_mo]) ⟨hx, hb, hml, hown, hts⟩ (mX7_pull l dC dI q_mo q_mra q_mrA q_mrc q_mrk q_mpi q_mwc q_mwo q_mco q_mpo q_mky q_mla q_mcn q_mct k_mra k_mrA k_mrc k_mrk k_mpi k_mwc k_mwo k_mco k_mpo k_mky k_mla k_mcn k_mct s.heap.size mo_port mo_line mo_cycle mo_raised mo_idle mo_bad mo_glyph mo_fetched mo_rows mo_flags2 mo_enabled mo_a mo_x mo_y mo_s mo_flags mo_p mo_jammed mo_code mo_step mo_low mo_high mo_old mo_latest mo_cycles mo_stolen mo_interrupts mo_accesses f_mra f_mrA f_mrc f_mrk f_mpi f_mwc f_mwo f_mco f_mpo f_mky f_mla f_mcn f_mct (0:Int32) hs_) (cwV 1 hts (ub_V kMX7_206 kYX7_pull kSX7_pull kIX7 kBX7_pull) rfl rfl rfl (by decide +kernel) ⟨Nat.le_of_ble_eq_true rfl, Nat.le_of_ble_eq_true rfl⟩) ⟨fun a U g mk q => by obtain ⟨q0, q1, qP, qK, qD⟩ := q; exact ⟨q0, q1, qP, va_K.moved (u := U) (U := U.calling g mk a) (Vm.Alike.refl U.vm) qK, qD⟩, va_recv hKc hPc (ci := 7) (q0 := 0) rfl rfl, fun U hU hW => ⟨rfl, by rw [hU], by rw [hU]; exact hPc, va_K.moved hW.alike hKc, hDc.weaken (fun _ _ _ _ => trivial)⟩⟩ rfl rfl hl.1 rfl (lv_room (Nat.le_of_ble_eq_true rfl)) dX7_returnStep_183 ⟨(Nat.zero_le _), (Nat.zero_le _)⟩) hS (fun q _ h => hFc q h) hFc (fun r_183 u_183 t H locs ht hvm hw hB hz1 hk1 hS => ?_)
              obtain ⟨mo_flags2_183, mo_s_183, mo_latest_183, mo_accesses_183⟩ := u_183
              obtain ⟨hP1, hK1, hD1⟩ := hB
              rw [ht] at hP1
              obtain ⟨hP, hD⟩ := vb_bk2 (wc := (wwX7 q_mo q_mra q_mrA q_mrc q_mrk q_mpi q_mwc q_mwo q_mco q_mpo q_mky q_mla q_mcn q_mct k_mra k_mrA k_mrc k_mrk k_mpi k_mwc k_mwo k_mco k_mpo k_mky k_mla k_mcn k_mct mo_port mo_line mo_cycle mo_raised mo_idle mo_bad mo_glyph mo_fetched mo_rows mo_flags2 mo_enabled mo_a mo_x mo_y mo_s mo_flags mo_p mo_jammed mo_code mo_step mo_low mo_high mo_old mo_latest mo_cycles mo_stolen mo_interrupts mo_accesses f_mra f_mrA f_mrc f_mrk f_mpi f_mwc f_mwo f_mco f_mpo f_mky f_mla f_mcn f_mct)) (ws' := (wwX7 q_mo q_mra q_mrA q_mrc q_mrk q_mpi q_mwc q_mwo q_mco q_mpo q_mky q_mla q_mcn q_mct k_mra k_mrA k_mrc k_mrk k_mpi k_mwc k_mwo k_mco k_mpo k_mky k_mla k_mcn k_mct mo_port mo_line mo_cycle mo_raised mo_idle mo_bad mo_glyph mo_fetched mo_rows mo_flags2_183 mo_enabled mo_a mo_x mo_y mo_s_183 mo_flags mo_p mo_jammed mo_code mo_step mo_low mo_high mo_old mo_latest_183 mo_cycles mo_stolen mo_interrupts mo_accesses_183 f_mra f_mrA f_mrc f_mrk f_mpi f_mwc f_mwo f_mco f_mpo f_mky f_mla f_mcn f_mct)) hP hD hD1 [0, 1, 2, 3, 4, 5, 6, 7, 8, 9, 10, 11, 12, 13] [] rfl [q_mo, q_mra, q_mrA, q_mrc, q_mrk, q_mpi, q_mwc, q_mwo, q_mco, q_mpo, q_mky, q_mla, q_mcn, q_mct] rfl rfl ae_n rfl rfl hk1 hP1
              rw [← hw] at hF
              dsimp only at hF
              refine lv_imul hx hb dX7_returnStep_186 ?_
              refine lv_aload_n hx hb dX7_returnStep_187 rfl (lv_at hl 0 rfl) ?_
              refine va_get (D := (dC, dI)) (ci := 7) (v := .int mo_low) (C := RX7) (T := TX7) (N := 41) hx hb hts hiX7 hown hK hP 0 rfl rfl 33 (by decide) (hts _ kFX7_188) (fun _ h9 => h9) rfl dX7_returnStep_188 ?_
              refine lv_iadd hx hb dX7_returnStep_191 ?_
              refine va_put (D := (dC, dI)) (ci := 7) (v := .int (((256:Int32) * r_183) + mo_low)) (ty := .int) (C := RX7) (T := TX7) (N := 41) hx hb hts hiX7 tyX7 tyX7_ok nmX7 hown hK hP hD hS 0 rfl rfl 29 (by decide) (hts _ kFX7_145) (fun _ h9 => h9) rfl (by decide +kernel) rfl rfl (Nat.le_of_ble_eq_true rfl) dX7_returnStep_192 (fun H locs hP hD hS => ?_)
              have hP : va_P (dC, dI) vwCl (wwX7 q_mo q_mra q_mrA q_mrc q_mrk q_mpi q_mwc q_mwo q_mco q_mpo q_mky q_mla q_mcn q_mct k_mra k_mrA k_mrc k_mrk k_mpi k_mwc k_mwo k_mco k_mpo k_mky k_mla k_mcn k_mct mo_port mo_line mo_cycle mo_raised mo_idle mo_bad mo_glyph mo_fetched mo_rows mo_flags2_183 mo_enabled mo_a mo_x mo_y mo_s_183 mo_flags (((256:Int32) * r_183) + mo_low) mo_jammed mo_code mo_step mo_low mo_high mo_old mo_latest_183 mo_cycles mo_stolen mo_interrupts mo_accesses_183 f_mra f_mrA f_mrc f_mrk f_mpi f_mwc f_mwo f_mco f_mpo f_mky f_mla f_mcn f_mct) H := hP
              have hD : va_D A (wwX7 q_mo q_mra q_mrA q_mrc q_mrk q_mpi q_mwc q_mwo q_mco q_mpo q_mky q_mla q_mcn q_mct k_mra k_mrA k_mrc k_mrk k_mpi k_mwc k_mwo k_mco k_mpo k_mky k_mla k_mcn k_mct mo_port mo_line mo_cycle mo_raised mo_idle mo_bad mo_glyph mo_fetched mo_rows mo_flags2_183 mo_enabled mo_a mo_x mo_y mo_s_183 mo_flags (((256:Int32) * r_183) + mo_low) mo_jammed mo_code mo_step mo_low mo_high mo_old mo_latest_183 mo_cycles mo_stolen mo_interrupts mo_accesses_183 f_mra f_mrA f_mrc f_mrk f_mpi f_mwc f_mwo f_mco f_mpo f_mky f_mla f_mcn f_mct) := hD
              refine lv_aload_n hx hb dX7_returnStep_195 rfl (lv_at hl 0 rfl) ?_
              refine va_get (D := (dC, dI)) (ci := 7) (v := .int mo_code) (C := RX7) (T := TX7) (N := 41) hx hb hts hiX7 hown hK hP 0 rfl rfl 31 (by decide) (hts _ kFX7_167) (fun _ h9 => h9) rfl dX7_returnStep_196 ?_
              refine lv_bipush (v := 96) hx hb dX7_returnStep_199 (by decide) ?_
              refine lv_icmp_ne (tgt := 217) hx hb dX7_returnStep_201 (by decide) (fun c_201 => by exact absurd c_140 c_201) (fun c_201 => ?_)
              refine lv_aload_n hx hb dX7_returnStep_204 rfl (lv_at hl 0 rfl) ?_
              refine va_get (D := (dC, dI)) (ci := 7) (v := .int mo_step) (C := RX7) (T := TX7) (N := 41) hx hb hts hiX7 hown hK hP 0 rfl rfl 32 (by decide) (hts _ kFX7_148) (fun _ h9 => h9) rfl dX7_returnStep_205 ?_
              refine lv_iconst (v := 5) hx hb dX7_returnStep_208 (by decide) ?_
              refine lv_icmp_ne (tgt := 217) hx hb dX7_returnStep_209 (by decide) (fun c_209 => ?_) (fun c_209 => by exact absurd c_209 (by rw [c_174]; decide))
              exact W.vret hx hb hr (fun t ht hW => ⟨⟨(mo_flags2_183, mo_s_183, mo_flags, (((256:Int32) * r_183) + mo_low), mo_low, mo_latest_183, mo_accesses_183), rfl, hF.symm, by rw [ht]; exact hP, va_K.moved hW.alike hK, hD⟩, hS.F ht⟩) hS.2.2 dX7_returnStep_217
          · have hF := hF.trans (if_pos c_148)
            refine lv_aload_n hx hb dX7_returnStep_151 rfl (lv_at hl 0 rfl) ?_
            refine lv_aload_n hx hb dX7_returnStep_152 rfl (lv_at hl 0 rfl) ?_
            refine lv_iconst (v := 1) hx hb dX7_returnStep_153 (by decide) ?_
            have hPc := hP.sub (ws' := (wwX7 q_mo q_mra q_mrA q_mrc q_mrk q_mpi q_mwc q_mwo q_mco q_mpo q_mky q_mla q_mcn q_mct k_mra k_mrA k_mrc k_mrk k_mpi k_mwc k_mwo k_mco k_mpo k_mky k_mla k_mcn k_mct mo_port mo_line mo_cycle mo_raised mo_idle mo_bad mo_glyph mo_fetched mo_rows mo_flags2 mo_enabled mo_a mo_x mo_y mo_s mo_flags mo_p mo_jammed mo_code mo_step mo_low mo_high mo_old mo_latest mo_cycles mo_stolen mo_interrupts mo_accesses f_mra f_mrA f_mrc f_mrk f_mpi f_mwc f_mwo f_mco f_mpo f_mky f_mla f_mcn f_mct)) [0, 1, 2, 3, 4, 5, 6, 7, 8, 9, 10, 11, 12, 13] rfl
            have hDc := hD.sub (ws' := (wwX7 q_mo q_mra q_mrA q_mrc q_mrk q_mpi q_mwc q_mwo q_mco q_mpo q_mky q_mla q_mcn q_mct k_mra k_mrA k_mrc k_mrk k_mpi k_mwc k_mwo k_mco k_mpo k_mky k_mla k_mcn k_mct mo_port mo_line mo_cycle mo_raised mo_idle mo_bad mo_glyph mo_fetched mo_rows mo_flags2 mo_enabled mo_a mo_x mo_y mo_s mo_flags mo_p mo_jammed mo_code mo_step mo_low mo_high mo_old mo_latest mo_cycles mo_stolen mo_interrupts mo_accesses f_mra f_mrA f_mrc f_mrk f_mpi f_mwc f_mwo f_mco f_mpo f_mky f_mla f_mcn f_mct)) [0, 1, 2, 3, 4, 5, 6, 7, 8, 9, 10, 11, 12, 13] (by decide) rfl
            have hKc := hK.sub (tys' := [(k_mra, .int), (k_mrA, .int), (k_mrc, .int), (k_mrk, .int), (k_mpi, .int), (k_mwc, .int), (k_mwo, .int), (k_mco, .int), (k_mpo, .int), (k_mky, .int), (k_mla, .int), (k_mcn, .int), (k_mct, .int)]) [0, 1, 2, 3, 4, 5, 6, 7, 8, 9, 10, 11, 12] rfl
            have hFc := va_free (wc := (wwX7 q_mo q_mra q_mrA q_mrc q_mrk q_mpi q_mwc q_mwo q_mco q_mpo q_mky q_mla q_mcn q_mct k_mra k_mrA k_mrc k_mrk k_mpi k_mwc k_mwo k_mco k_mpo k_mky k_mla k_mcn k_mct mo_port mo_line mo_cycle mo_raised mo_idle mo_bad mo_glyph mo_fetched mo_rows mo_flags2 mo_enabled mo_a mo_x mo_y mo_s mo_flags mo_p mo_jammed mo_code mo_step mo_low mo_high mo_old mo_latest mo_cycles mo_stolen mo_interrupts mo_accesses f_mra f_mrA f_mrc f_mrk f_mpi f_mwc f_mwo f_mco f_mpo f_mky f_mla f_mcn f_mct)) hD hS hA [0, 1, 2, 3, 4, 5, 6, 7, 8, 9, 10, 11, 12, 13] rfl
            refine va_calli (va_runV (As := [.int (1:Int32)]) (rest := [.ref q_mo]) ⟨hx, hb, hml, hown, hts⟩ (mX7_pull l dC dI q_mo q_mra q_mrA q_mrc q_mrk q_mpi q_mwc q_mwo q_mco q_mpo q_mky q_mla q_mcn q_mct k_mra k_mrA k_mrc k_mrk k_mpi k_mwc k_mwo k_mco k_mpo k_mky k_mla k_mcn k_mct s.heap.size mo_port mo_line mo_cycle mo_raised mo_idle mo_bad mo_glyph mo_fetched mo_rows mo_flags2 mo_enabled mo_a mo_x mo_y mo_s mo_flags mo_p mo_jammed mo_code mo_step mo_low mo_high mo_old mo_latest mo_cycles mo_stolen mo_interrupts mo_accesses f_mra f_mrA f_mrc f_mrk f_mpi f_mwc f_mwo f_mco f_mpo f_mky f_mla f_mcn f_mct (1:Int32) hs_) (cwV 1 hts (ub_V kMX7_206 kYX7_pull kSX7_pull kIX7 kBX7_pull) rfl rfl rfl (by decide +kernel) ⟨Nat.le_of_ble_eq_true rfl, Nat.le_of_ble_eq_true rfl⟩) ⟨fun a U g mk q => by obtain ⟨q0, q1, qP, qK, qD⟩ := q; exact ⟨q0, q1, qP, va_K.moved (u := U) (U := U.calling g mk a) (Vm.Alike.refl U.vm) qK, qD⟩, va_recv hKc hPc (ci := 7) (q0 := 0) rfl rfl, fun U hU hW => ⟨rfl, by rw [hU], by rw [hU]; exact hPc, va_K.moved hW.alike hKc, hDc.weaken (fun _ _ _ _ => trivial)⟩⟩ rfl rfl hl.1 rfl (lv_room (Nat.le_of_ble_eq_true rfl)) dX7_returnStep_154 ⟨(Nat.zero_le _), (Nat.zero_le _)⟩) hS (fun q _ h => hFc q h) hFc (fun r_154 u_154 t H locs ht hvm hw hB hz1 hk1 hS => ?_)
            obtain ⟨mo_flags2_154, mo_s_154, mo_latest_154, mo_accesses_154⟩ := u_154
            obtain ⟨hP1, hK1, hD1⟩ := hB
            rw [ht] at hP1
            obtain ⟨hP, hD⟩ := vb_bk2 (wc := (wwX7 q_mo q_mra q_mrA q_mrc q_mrk q_mpi q_mwc q_mwo q_mco q_mpo q_mky q_mla q_mcn q_mct k_mra k_mrA k_mrc k_mrk k_mpi k_mwc k_mwo k_mco k_mpo k_mky k_mla k_mcn k_mct mo_port mo_line mo_cycle mo_raised mo_idle mo_bad mo_glyph mo_fetched mo_rows mo_flags2 mo_enabled mo_a mo_x mo_y mo_s mo_flags mo_p mo_jammed mo_code mo_step mo_low mo_high mo_old mo_latest mo_cycles mo_stolen mo_interrupts mo_accesses f_mra f_mrA f_mrc f_mrk f_mpi f_mwc f_mwo f_mco f_mpo f_mky f_mla f_mcn f_mct)) (ws' := (wwX7 q_mo q_mra q_mrA q_mrc q_mrk q_mpi q_mwc q_mwo q_mco q_mpo q_mky q_mla q_mcn q_mct k_mra k_mrA k_mrc k_mrk k_mpi k_mwc k_mwo k_mco k_mpo k_mky k_mla k_mcn k_mct mo_port mo_line mo_cycle mo_raised mo_idle mo_bad mo_glyph mo_fetched mo_rows mo_flags2_154 mo_enabled mo_a mo_x mo_y mo_s_154 mo_flags mo_p mo_jammed mo_code mo_step mo_low mo_high mo_old mo_latest_154 mo_cycles mo_stolen mo_interrupts mo_accesses_154 f_mra f_mrA f_mrc f_mrk f_mpi f_mwc f_mwo f_mco f_mpo f_mky f_mla f_mcn f_mct)) hP hD hD1 [0, 1, 2, 3, 4, 5, 6, 7, 8, 9, 10, 11, 12, 13] [] rfl [q_mo, q_mra, q_mrA, q_mrc, q_mrk, q_mpi, q_mwc, q_mwo, q_mco, q_mpo, q_mky, q_mla, q_mcn, q_mct] rfl rfl ae_n rfl rfl hk1 hP1
            rw [← hw] at hF
            dsimp only at hF
            refine va_put (D := (dC, dI)) (ci := 7) (v := .int r_154) (ty := .int) (C := RX7) (T := TX7) (N := 41) hx hb hts hiX7 tyX7 tyX7_ok nmX7 hown hK hP hD hS 0 rfl rfl 33 (by decide) (hts _ kFX7_188) (fun _ h9 => h9) rfl (by decide +kernel) rfl rfl (Nat.le_of_ble_eq_true rfl) dX7_returnStep_157 (fun H locs hP hD hS => ?_)
            have hP : va_P (dC, dI) vwCl (wwX7 q_mo q_mra q_mrA q_mrc q_mrk q_mpi q_mwc q_mwo q_mco q_mpo q_mky q_mla q_mcn q_mct k_mra k_mrA k_mrc k_mrk k_mpi k_mwc k_mwo k_mco k_mpo k_mky k_mla k_mcn k_mct mo_port mo_line mo_cycle mo_raised mo_idle mo_bad mo_glyph mo_fetched mo_rows mo_flags2_154 mo_enabled mo_a mo_x mo_y mo_s_154 mo_flags mo_p mo_jammed mo_code mo_step r_154 mo_high mo_old mo_latest_154 mo_cycles mo_stolen mo_interrupts mo_accesses_154 f_mra f_mrA f_mrc f_mrk f_mpi f_mwc f_mwo f_mco f_mpo f_mky f_mla f_mcn f_mct) H := hP
            have hD : va_D A (wwX7 q_mo q_mra q_mrA q_mrc q_mrk q_mpi q_mwc q_mwo q_mco q_mpo q_mky q_mla q_mcn q_mct k_mra k_mrA k_mrc k_mrk k_mpi k_mwc k_mwo k_mco k_mpo k_mky k_mla k_mcn k_mct mo_port mo_line mo_cycle mo_raised mo_idle mo_bad mo_glyph mo_fetched mo_rows mo_flags2_154 mo_enabled mo_a mo_x mo_y mo_s_154 mo_flags mo_p mo_jammed mo_code mo_step r_154 mo_high mo_old mo_latest_154 mo_cycles mo_stolen mo_interrupts mo_accesses_154 f_mra f_mrA f_mrc f_mrk f_mpi f_mwc f_mwo f_mco f_mpo f_mky f_mla f_mcn f_mct) := hD
            refine lv_aload_n hx hb dX7_returnStep_160 rfl (lv_at hl 0 rfl) ?_
            refine va_get (D := (dC, dI)) (ci := 7) (v := .int mo_code) (C := RX7) (T := TX7) (N := 41) hx hb hts hiX7 hown hK hP 0 rfl rfl 31 (by decide) (hts _ kFX7_167) (fun _ h9 => h9) rfl dX7_returnStep_161 ?_
            refine lv_bipush (v := 96) hx hb dX7_returnStep_164 (by decide) ?_
            refine lv_icmp_ne (tgt := 195) hx hb dX7_returnStep_166 (by decide) (fun c_166 => by exact absurd c_140 c_166) (fun c_166 => ?_)
            refine lv_aload_n hx hb dX7_returnStep_169 rfl (lv_at hl 0 rfl) ?_
            refine va_get (D := (dC, dI)) (ci := 7) (v := .int mo_step) (C := RX7) (T := TX7) (N := 41) hx hb hts hiX7 hown hK hP 0 rfl rfl 32 (by decide) (hts _ kFX7_148) (fun _ h9 => h9) rfl dX7_returnStep_170 ?_
            refine lv_iconst (v := 4) hx hb dX7_returnStep_173 (by decide) ?_
            refine lv_icmp_ne (tgt := 195) hx hb dX7_returnStep_174 (by decide) (fun c_174 => ?_) (fun c_174 => by exact absurd c_174 (by rw [c_148]; decide))
            refine lv_aload_n hx hb dX7_returnStep_195 rfl (lv_at hl 0 rfl) ?_
            refine va_get (D := (dC, dI)) (ci := 7) (v := .int mo_code) (C := RX7) (T := TX7) (N := 41) hx hb hts hiX7 hown hK hP 0 rfl rfl 31 (by decide) (hts _ kFX7_167) (fun _ h9 => h9) rfl dX7_returnStep_196 ?_
            refine lv_bipush (v := 96) hx hb dX7_returnStep_199 (by decide) ?_
            refine lv_icmp_ne (tgt := 217) hx hb dX7_returnStep_201 (by decide) (fun c_201 => by exact absurd c_140 c_201) (fun c_201 => ?_)
            refine lv_aload_n hx hb dX7_returnStep_204 rfl (lv_at hl 0 rfl) ?_
            refine va_get (D := (dC, dI)) (ci := 7) (v := .int mo_step) (C := RX7) (T := TX7) (N := 41) hx hb hts hiX7 hown hK hP 0 rfl rfl 32 (by decide) (hts _ kFX7_148) (fun _ h9 => h9) rfl dX7_returnStep_205 ?_
            refine lv_iconst (v := 5) hx hb dX7_returnStep_208 (by decide) ?_
            refine lv_icmp_ne (tgt := 217) hx hb dX7_returnStep_209 (by decide) (fun c_209 => ?_) (fun c_209 => by exact absurd c_209 (by rw [c_148]; decide))
            exact W.vret hx hb hr (fun t ht hW => ⟨⟨(mo_flags2_154, mo_s_154, mo_flags, mo_p, r_154, mo_latest_154, mo_accesses_154), rfl, hF.symm, by rw [ht]; exact hP, va_K.moved hW.alike hK, hD⟩, hS.F ht⟩) hS.2.2 dX7_returnStep_217
      · have hF := hF.trans (if_pos c_37)
        refine lv_aload_n hx hb dX7_returnStep_40 rfl (lv_at hl 0 rfl) ?_
        refine va_get (D := (dC, dI)) (ci := 7) (v := .int mo_step) (C := RX7) (T := TX7) (N := 41) hx hb hts hiX7 hown hK hP 0 rfl rfl 32 (by decide) (hts _ kFX7_148) (fun _ h9 => h9) rfl dX7_returnStep_41 ?_
        refine lv_iconst (v := 3) hx hb dX7_returnStep_44 (by decide) ?_
        refine lv_icmp_ne (tgt := 61) hx hb dX7_returnStep_45 (by decide) (fun c_45 => ?_) (fun c_45 => ?_)
        · have hF := hF.trans (if_neg c_45)
          refine lv_aload_n hx hb dX7_returnStep_61 rfl (lv_at hl 0 rfl) ?_
          refine va_get (D := (dC, dI)) (ci := 7) (v := .int mo_code) (C := RX7) (T := TX7) (N := 41) hx hb hts hiX7 hown hK hP 0 rfl rfl 31 (by decide) (hts _ kFX7_167) (fun _ h9 => h9) rfl dX7_returnStep_62 ?_
          refine lv_bipush (v := 64) hx hb dX7_returnStep_65 (by decide) ?_
          refine lv_icmp_ne (tgt := 95) hx hb dX7_returnStep_67 (by decide) (fun c_67 => by exact absurd c_37 c_67) (fun c_67 => ?_)
          refine lv_aload_n hx hb dX7_returnStep_70 rfl (lv_at hl 0 rfl) ?_
          refine va_get (D := (dC, dI)) (ci := 7) (v := .int mo_step) (C := RX7) (T := TX7) (N := 41) hx hb hts hiX7 hown hK hP 0 rfl rfl 32 (by decide) (hts _ kFX7_148) (fun _ h9 => h9) rfl dX7_returnStep_71 ?_
          refine lv_iconst (v := 4) hx hb dX7_returnStep_74 (by decide) ?_
          refine lv_icmp_ne (tgt := 95) hx hb dX7_returnStep_75 (by decide) (fun c_75 => ?_) (fun c_75 => ?_)
          · have hF := hF.trans (if_neg c_75)
            refine lv_aload_n hx hb dX7_returnStep_95 rfl (lv_at hl 0 rfl) ?_
            refine va_get (D := (dC, dI)) (ci := 7) (v := .int mo_code) (C := RX7) (T := TX7) (N := 41) hx hb hts hiX7 hown hK hP 0 rfl rfl 31 (by decide) (hts _ kFX7_167) (fun _ h9 => h9) rfl dX7_returnStep_96 ?_
            refine lv_bipush (v := 64) hx hb dX7_returnStep_99 (by decide) ?_
            refine lv_icmp_ne (tgt := 134) hx hb dX7_returnStep_101 (by decide) (fun c_101 => by exact absurd c_37 c_101) (fun c_101 => ?_)
            refine lv_aload_n hx hb dX7_returnStep_104 rfl (lv_at hl 0 rfl) ?_
            refine va_get (D := (dC, dI)) (ci := 7) (v := .int mo_step) (C := RX7) (T := TX7) (N := 41) hx hb hts hiX7 hown hK hP 0 rfl rfl 32 (by decide) (hts _ kFX7_148) (fun _ h9 => h9) rfl dX7_returnStep_105 ?_
            refine lv_iconst (v := 5) hx hb dX7_returnStep_108 (by decide) ?_
            refine lv_icmp_ne (tgt := 134) hx hb dX7_returnStep_109 (by decide) (fun c_109 => ?_) (fun c_109 => ?_)
            · have hF := hF.trans (if_neg c_109)
              refine lv_aload_n hx hb dX7_returnStep_134 rfl (lv_at hl 0 rfl) ?_
              refine va_get (D := (dC, dI)) (ci := 7) (v := .int mo_code) (C := RX7) (T := TX7) (N := 41) hx hb hts hiX7 hown hK hP 0 rfl rfl 31 (by decide) (hts _ kFX7_167) (fun _ h9 => h9) rfl dX7_returnStep_135 ?_
              refine lv_bipush (v := 96) hx hb dX7_returnStep_138 (by decide) ?_
              refine lv_icmp_ne (tgt := 160) hx hb dX7_returnStep_140 (by decide) (fun c_140 => ?_) (fun c_140 => by exact absurd c_140 (by rw [c_37]; decide))
              refine lv_aload_n hx hb dX7_returnStep_160 rfl (lv_at hl 0 rfl) ?_
              refine va_get (D := (dC, dI)) (ci := 7) (v := .int mo_code) (C := RX7) (T := TX7) (N := 41) hx hb hts hiX7 hown hK hP 0 rfl rfl 31 (by decide) (hts _ kFX7_167) (fun _ h9 => h9) rfl dX7_returnStep_161 ?_
              refine lv_bipush (v := 96) hx hb dX7_returnStep_164 (by decide) ?_
              refine lv_icmp_ne (tgt := 195) hx hb dX7_returnStep_166 (by decide) (fun c_166 => ?_) (fun c_166 => by exact absurd c_166 (by rw [c_37]; decide))
              refine lv_aload_n hx hb dX7_returnStep_195 rfl (lv_at hl 0 rfl) ?_
              refine va_get (D := (dC, dI)) (ci := 7) (v := .int mo_code) (C := RX7) (T := TX7) (N := 41) hx hb hts hiX7 hown hK hP 0 rfl rfl 31 (by decide) (hts _ kFX7_167) (fun _ h9 => h9) rfl dX7_returnStep_196 ?_
              refine lv_bipush (v := 96) hx hb dX7_returnStep_199 (by decide) ?_
              refine lv_icmp_ne (tgt := 217) hx hb dX7_returnStep_201 (by decide) (fun c_201 => ?_) (fun c_201 => by exact absurd c_201 (by rw [c_37]; decide))
              exact W.vret hx hb hr (fun t ht hW => ⟨⟨(mo_flags2, mo_s, mo_flags, mo_p, mo_low, mo_latest, mo_accesses), rfl, hF.symm, by rw [ht]; exact hP, va_K.moved hW.alike hK, hD⟩, hS.F ht⟩) hS.2.2 dX7_returnStep_217
            · have hF := hF.trans (if_pos c_109)
              refine lv_aload_n hx hb dX7_returnStep_112 rfl (lv_at hl 0 rfl) ?_
              refine lv_aload_n hx hb dX7_returnStep_113 rfl (lv_at hl 0 rfl) ?_
              refine va_get (D := (dC, dI)) (ci := 7) (v := .int mo_p) (C := RX7) (T := TX7) (N := 41) hx hb hts hiX7 hown hK hP 0 rfl rfl 29 (by decide) (hts _ kFX7_145) (fun _ h9 => h9) rfl dX7_returnStep_114 ?_
              refine lv_sipush (v := 255) hx hb dX7_returnStep_117 (by decide) ?_
              refine lv_iand hx hb dX7_returnStep_120 ?_
              refine lv_sipush (v := 256) hx hb dX7_returnStep_121 (by decide) ?_
              refine lv_aload_n hx hb dX7_returnStep_124 rfl (lv_at hl 0 rfl) ?_
              refine lv_iconst (v := 0) hx hb dX7_returnStep_125 (by decide) ?_
              have hPc := hP.sub (ws' := (wwX7 q_mo q_mra q_mrA q_mrc q_mrk q_mpi q_mwc q_mwo q_mco q_mpo q_mky q_mla q_mcn q_mct k_mra k_mrA k_mrc k_mrk k_mpi k_mwc k_mwo k_mco k_mpo k_mky k_mla k_mcn k_mct mo_port mo_line mo_cycle mo_raised mo_idle mo_bad mo_glyph mo_fetched mo_rows mo_flags2 mo_enabled mo_a mo_x mo_y mo_s mo_flags mo_p mo_jammed mo_code mo_step mo_low mo_high mo_old mo_latest mo_cycles mo_stolen mo_interrupts mo_accesses f_mra f_mrA f_mrc f_mrk f_mpi f_mwc f_mwo f_mco f_mpo f_mky f_mla f_mcn f_mct)) [0, 1, 2, 3, 4, 5, 6, 7, 8, 9, 10, 11, 12, 13] rfl
              have hDc := hD.sub (ws' := (wwX7 q_mo q_mra q_mrA q_mrc q_mrk q_mpi q_mwc q_mwo q_mco q_mpo q_mky q_mla q_mcn q_mct k_mra k_mrA k_mrc k_mrk k_mpi k_mwc k_mwo k_mco k_mpo k_mky k_mla k_mcn k_mct mo_port mo_line mo_cycle mo_raised mo_idle mo_bad mo_glyph mo_fetched mo_rows mo_flags2 mo_enabled mo_a mo_x mo_y mo_s mo_flags mo_p mo_jammed mo_code mo_step mo_low mo_high mo_old mo_latest mo_cycles mo_stolen mo_interrupts mo_accesses f_mra f_mrA f_mrc f_mrk f_mpi f_mwc f_mwo f_mco f_mpo f_mky f_mla f_mcn f_mct)) [0, 1, 2, 3, 4, 5, 6, 7, 8, 9, 10, 11, 12, 13] (by decide) rfl
              have hKc := hK.sub (tys' := [(k_mra, .int), (k_mrA, .int), (k_mrc, .int), (k_mrk, .int), (k_mpi, .int), (k_mwc, .int), (k_mwo, .int), (k_mco, .int), (k_mpo, .int), (k_mky, .int), (k_mla, .int), (k_mcn, .int), (k_mct, .int)]) [0, 1, 2, 3, 4, 5, 6, 7, 8, 9, 10, 11, 12] rfl
              have hFc := va_free (wc := (wwX7 q_mo q_mra q_mrA q_mrc q_mrk q_mpi q_mwc q_mwo q_mco q_mpo q_mky q_mla q_mcn q_mct k_mra k_mrA k_mrc k_mrk k_mpi k_mwc k_mwo k_mco k_mpo k_mky k_mla k_mcn k_mct mo_port mo_line mo_cycle mo_raised mo_idle mo_bad mo_glyph mo_fetched mo_rows mo_flags2 mo_enabled mo_a mo_x mo_y mo_s mo_flags mo_p mo_jammed mo_code mo_step mo_low mo_high mo_old mo_latest mo_cycles mo_stolen mo_interrupts mo_accesses f_mra f_mrA f_mrc f_mrk f_mpi f_mwc f_mwo f_mco f_mpo f_mky f_mla f_mcn f_mct)) hD hS hA [0, 1, 2, 3, 4, 5, 6, 7, 8, 9, 10, 11, 12, 13] rfl
              refine va_calli (va_runV (As := [.int (0:Int32)]) (rest := [.int (256:Int32), .int (mo_p &&& (255:Int32)), .ref q_mo]) ⟨hx, hb, hml, hown, hts⟩ (mX7_pull l dC dI q_mo q_mra q_mrA q_mrc q_mrk q_mpi q_mwc q_mwo q_mco q_mpo q_mky q_mla q_mcn q_mct k_mra k_mrA k_mrc k_mrk k_mpi k_mwc k_mwo k_mco k_mpo k_mky k_mla k_mcn k_mct s.heap.size mo_port mo_line mo_cycle mo_raised mo_idle mo_bad mo_glyph mo_fetched mo_rows mo_flags2 mo_enabled mo_a mo_x mo_y mo_s mo_flags mo_p mo_jammed mo_code mo_step mo_low mo_high mo_old mo_latest mo_cycles mo_stolen mo_interrupts mo_accesses f_mra f_mrA f_mrc f_mrk f_mpi f_mwc f_mwo f_mco f_mpo f_mky f_mla f_mcn f_mct (0:Int32) hs_) (cwV 1 hts (ub_V kMX7_206 kYX7_pull kSX7_pull kIX7 kBX7_pull) rfl rfl rfl (by decide +kernel) ⟨Nat.le_of_ble_eq_true rfl, Nat.le_of_ble_eq_true rfl⟩) ⟨fun a U g mk q => by obtain ⟨q0, q1, qP, qK, qD⟩ := q; exact ⟨q0, q1, qP, va_K.moved (u := U) (U := U.calling g mk a) (Vm.Alike.refl U.vm) qK, qD⟩, va_recv hKc hPc (ci := 7) (q0 := 0) rfl rfl, fun U hU hW => ⟨rfl, by rw [hU], by rw [hU]; exact hPc, va_K.moved hW.alike hKc, hDc.weaken (fun _ _ _ _ => trivial)⟩⟩ rfl rfl hl.1 rfl (lv_room (Nat.le_of_ble_eq_true rfl)) dX7_returnStep_126 ⟨(Nat.zero_le _), (Nat.zero_le _)⟩) hS (fun q _ h => hFc q h) hFc (fun r_126 u_126 t H locs ht hvm hw hB hz1 hk1 hS => ?_)
              obtain ⟨mo_flags2_126, mo_s_126, mo_latest_126, mo_accesses_126⟩ := u_126
              obtain ⟨hP1, hK1, hD1⟩ := hB
              rw [ht] at hP1
              obtain ⟨hP, hD⟩ := vb_bk2 (wc := (wwX7 q_mo q_mra q_mrA q_mrc q_mrk q_mpi q_mwc q_mwo q_mco q_mpo q_mky q_mla q_mcn q_mct k_mra k_mrA k_mrc k_mrk k_mpi k_mwc k_mwo k_mco k_mpo k_mky k_mla k_mcn k_mct mo_port mo_line mo_cycle mo_raised mo_idle mo_bad mo_glyph mo_fetched mo_rows mo_flags2 mo_enabled mo_a mo_x mo_y mo_s mo_flags mo_p mo_jammed mo_code mo_step mo_low mo_high mo_old mo_latest mo_cycles mo_stolen mo_interrupts mo_accesses f_mra f_mrA f_mrc f_mrk f_mpi f_mwc f_mwo f_mco f_mpo f_mky f_mla f_mcn f_mct)) (ws' := (wwX7 q_mo q_mra q_mrA q_mrc q_mrk q_mpi q_mwc q_mwo q_mco q_mpo q_mky q_mla q_mcn q_mct k_mra k_mrA k_mrc k_mrk k_mpi k_mwc k_mwo k_mco k_mpo k_mky k_mla k_mcn k_mct mo_port mo_line mo_cycle mo_raised mo_idle mo_bad mo_glyph mo_fetched mo_rows mo_flags2_126 mo_enabled mo_a mo_x mo_y mo_s_126 mo_flags mo_p mo_jammed mo_code mo_step mo_low mo_high mo_old mo_latest_126 mo_cycles mo_stolen mo_interrupts mo_accesses_126 f_mra f_mrA f_mrc f_mrk f_mpi f_mwc f_mwo f_mco f_mpo f_mky f_mla f_mcn f_mct)) hP hD hD1 [0, 1, 2, 3, 4, 5, 6, 7, 8, 9, 10, 11, 12, 13] [] rfl [q_mo, q_mra, q_mrA, q_mrc, q_mrk, q_mpi, q_mwc, q_mwo, q_mco, q_mpo, q_mky, q_mla, q_mcn, q_mct] rfl rfl ae_n rfl rfl hk1 hP1
              rw [← hw] at hF
              dsimp only at hF
              refine lv_imul hx hb dX7_returnStep_129 ?_
              refine lv_iadd hx hb dX7_returnStep_130 ?_
              refine va_put (D := (dC, dI)) (ci := 7) (v := .int ((mo_p &&& (255:Int32)) + ((256:Int32) * r_126))) (ty := .int) (C := RX7) (T := TX7) (N := 41) hx hb hts hiX7 tyX7 tyX7_ok nmX7 hown hK hP hD hS 0 rfl rfl 29 (by decide) (hts _ kFX7_145) (fun _ h9 => h9) rfl (by decide +kernel) rfl rfl (Nat.le_of_ble_eq_true rfl) dX7_returnStep_131 (fun H locs hP hD hS => ?_)
              have hP : va_P (dC, dI) vwCl (wwX7 q_mo q_mra q_mrA q_mrc q_mrk q_mpi q_mwc q_mwo q_mco q_mpo q_mky q_mla q_mcn q_mct k_mra k_mrA k_mrc k_mrk k_mpi k_mwc k_mwo k_mco k_mpo k_mky k_mla k_mcn k_mct mo_port mo_line mo_cycle mo_raised mo_idle mo_bad mo_glyph mo_fetched mo_rows mo_flags2_126 mo_enabled mo_a mo_x mo_y mo_s_126 mo_flags ((mo_p &&& (255:Int32)) + ((256:Int32) * r_126)) mo_jammed mo_code mo_step mo_low mo_high mo_old mo_latest_126 mo_cycles mo_stolen mo_interrupts mo_accesses_126 f_mra f_mrA f_mrc f_mrk f_mpi f_mwc f_mwo f_mco f_mpo f_mky f_mla f_mcn f_mct) H := hP
              have hD : va_D A (wwX7 q_mo q_mra q_mrA q_mrc q_mrk q_mpi q_mwc q_mwo q_mco q_mpo q_mky q_mla q_mcn q_mct k_mra k_mrA k_mrc k_mrk k_mpi k_mwc k_mwo k_mco k_mpo k_mky k_mla k_mcn k_mct mo_port mo_line mo_cycle mo_raised mo_idle mo_bad mo_glyph mo_fetched mo_rows mo_flags2_126 mo_enabled mo_a mo_x mo_y mo_s_126 mo_flags ((mo_p &&& (255:Int32)) + ((256:Int32) * r_126)) mo_jammed mo_code mo_step mo_low mo_high mo_old mo_latest_126 mo_cycles mo_stolen mo_interrupts mo_accesses_126 f_mra f_mrA f_mrc f_mrk f_mpi f_mwc f_mwo f_mco f_mpo f_mky f_mla f_mcn f_mct) := hD
              refine lv_aload_n hx hb dX7_returnStep_134 rfl (lv_at hl 0 rfl) ?_
              refine va_get (D := (dC, dI)) (ci := 7) (v := .int mo_code) (C := RX7) (T := TX7) (N := 41) hx hb hts hiX7 hown hK hP 0 rfl rfl 31 (by decide) (hts _ kFX7_167) (fun _ h9 => h9) rfl dX7_returnStep_135 ?_
              refine lv_bipush (v := 96) hx hb dX7_returnStep_138 (by decide) ?_
              refine lv_icmp_ne (tgt := 160) hx hb dX7_returnStep_140 (by decide) (fun c_140 => ?_) (fun c_140 => by exact absurd c_140 (by rw [c_37]; decide))
              refine lv_aload_n hx hb dX7_returnStep_160 rfl (lv_at hl 0 rfl) ?_
              refine va_get (D := (dC, dI)) (ci := 7) (v := .int mo_code) (C := RX7) (T := TX7) (N := 41) hx hb hts hiX7 hown hK hP 0 rfl rfl 31 (by decide) (hts _ kFX7_167) (fun _ h9 => h9) rfl dX7_returnStep_161 ?_
              refine lv_bipush (v := 96) hx hb dX7_returnStep_164 (by decide) ?_
              refine lv_icmp_ne (tgt := 195) hx hb dX7_returnStep_166 (by decide) (fun c_166 => ?_) (fun c_166 => by exact absurd c_166 (by rw [c_37]; decide))
              refine lv_aload_n hx hb dX7_returnStep_195 rfl (lv_at hl 0 rfl) ?_
              refine va_get (D := (dC, dI)) (ci := 7) (v := .int mo_code) (C := RX7) (T := TX7) (N := 41) hx hb hts hiX7 hown hK hP 0 rfl rfl 31 (by decide) (hts _ kFX7_167) (fun _ h9 => h9) rfl dX7_returnStep_196 ?_
              refine lv_bipush (v := 96) hx hb dX7_returnStep_199 (by decide) ?_
              refine lv_icmp_ne (tgt := 217) hx hb dX7_returnStep_201 (by decide) (fun c_201 => ?_) (fun c_201 => by exact absurd c_201 (by rw [c_37]; decide))
              exact W.vret hx hb hr (fun t ht hW => ⟨⟨(mo_flags2_126, mo_s_126, mo_flags, ((mo_p &&& (255:Int32)) + ((256:Int32) * r_126)), mo_low, mo_latest_126, mo_accesses_126), rfl, hF.symm, by rw [ht]; exact hP, va_K.moved hW.alike hK, hD⟩, hS.F ht⟩) hS.2.2 dX7_returnStep_217
          · have hF := hF.trans (if_pos c_75)
            refine lv_aload_n hx hb dX7_returnStep_78 rfl (lv_at hl 0 rfl) ?_
            refine lv_aload_n hx hb dX7_returnStep_79 rfl (lv_at hl 0 rfl) ?_
            refine va_get (D := (dC, dI)) (ci := 7) (v := .int mo_p) (C := RX7) (T := TX7) (N := 41) hx hb hts hiX7 hown hK hP 0 rfl rfl 29 (by decide) (hts _ kFX7_145) (fun _ h9 => h9) rfl dX7_returnStep_80 ?_
            refine lv_ldc (v := 65280) hx hb hown (hts _ kKX7_101) dX7_returnStep_83 ?_
            refine lv_iand hx hb dX7_returnStep_85 ?_
            refine lv_aload_n hx hb dX7_returnStep_86 rfl (lv_at hl 0 rfl) ?_
            refine lv_iconst (v := 1) hx hb dX7_returnStep_87 (by decide) ?_
            have hPc := hP.sub (ws' := (wwX7 q_mo q_mra q_mrA q_mrc q_mrk q_mpi q_mwc q_mwo q_mco q_mpo q_mky q_mla q_mcn q_mct k_mra k_mrA k_mrc k_mrk k_mpi k_mwc k_mwo k_mco k_mpo k_mky k_mla k_mcn k_mct mo_port mo_line mo_cycle mo_raised mo_idle mo_bad mo_glyph mo_fetched mo_rows mo_flags2 mo_enabled mo_a mo_x mo_y mo_s mo_flags mo_p mo_jammed mo_code mo_step mo_low mo_high mo_old mo_latest mo_cycles mo_stolen mo_interrupts mo_accesses f_mra f_mrA f_mrc f_mrk f_mpi f_mwc f_mwo f_mco f_mpo f_mky f_mla f_mcn f_mct)) [0, 1, 2, 3, 4, 5, 6, 7, 8, 9, 10, 11, 12, 13] rfl
            have hDc := hD.sub (ws' := (wwX7 q_mo q_mra q_mrA q_mrc q_mrk q_mpi q_mwc q_mwo q_mco q_mpo q_mky q_mla q_mcn q_mct k_mra k_mrA k_mrc k_mrk k_mpi k_mwc k_mwo k_mco k_mpo k_mky k_mla k_mcn k_mct mo_port mo_line mo_cycle mo_raised mo_idle mo_bad mo_glyph mo_fetched mo_rows mo_flags2 mo_enabled mo_a mo_x mo_y mo_s mo_flags mo_p mo_jammed mo_code mo_step mo_low mo_high mo_old mo_latest mo_cycles mo_stolen mo_interrupts mo_accesses f_mra f_mrA f_mrc f_mrk f_mpi f_mwc f_mwo f_mco f_mpo f_mky f_mla f_mcn f_mct)) [0, 1, 2, 3, 4, 5, 6, 7, 8, 9, 10, 11, 12, 13] (by decide) rfl
            have hKc := hK.sub (tys' := [(k_mra, .int), (k_mrA, .int), (k_mrc, .int), (k_mrk, .int), (k_mpi, .int), (k_mwc, .int), (k_mwo, .int), (k_mco, .int), (k_mpo, .int), (k_mky, .int), (k_mla, .int), (k_mcn, .int), (k_mct, .int)]) [0, 1, 2, 3, 4, 5, 6, 7, 8, 9, 10, 11, 12] rfl
            have hFc := va_free (wc := (wwX7 q_mo q_mra q_mrA q_mrc q_mrk q_mpi q_mwc q_mwo q_mco q_mpo q_mky q_mla q_mcn q_mct k_mra k_mrA k_mrc k_mrk k_mpi k_mwc k_mwo k_mco k_mpo k_mky k_mla k_mcn k_mct mo_port mo_line mo_cycle mo_raised mo_idle mo_bad mo_glyph mo_fetched mo_rows mo_flags2 mo_enabled mo_a mo_x mo_y mo_s mo_flags mo_p mo_jammed mo_code mo_step mo_low mo_high mo_old mo_latest mo_cycles mo_stolen mo_interrupts mo_accesses f_mra f_mrA f_mrc f_mrk f_mpi f_mwc f_mwo f_mco f_mpo f_mky f_mla f_mcn f_mct)) hD hS hA [0, 1, 2, 3, 4, 5, 6, 7, 8, 9, 10, 11, 12, 13] rfl
            refine va_calli (va_runV (As := [.int (1:Int32)]) (rest := [.int (mo_p &&& (65280:Int32)), .ref q_mo]) ⟨hx, hb, hml, hown, hts⟩ (mX7_pull l dC dI q_mo q_mra q_mrA q_mrc q_mrk q_mpi q_mwc q_mwo q_mco q_mpo q_mky q_mla q_mcn q_mct k_mra k_mrA k_mrc k_mrk k_mpi k_mwc k_mwo k_mco k_mpo k_mky k_mla k_mcn k_mct s.heap.size mo_port mo_line mo_cycle mo_raised mo_idle mo_bad mo_glyph mo_fetched mo_rows mo_flags2 mo_enabled mo_a mo_x mo_y mo_s mo_flags mo_p mo_jammed mo_code mo_step mo_low mo_high mo_old mo_latest mo_cycles mo_stolen mo_interrupts mo_accesses f_mra f_mrA f_mrc f_mrk f_mpi f_mwc f_mwo f_mco f_mpo f_mky f_mla f_mcn f_mct (1:Int32) hs_) (cwV 1 hts (ub_V kMX7_206 kYX7_pull kSX7_pull kIX7 kBX7_pull) rfl rfl rfl (by decide +kernel) ⟨Nat.le_of_ble_eq_true rfl, Nat.le_of_ble_eq_true rfl⟩) ⟨fun a U g mk q => by obtain ⟨q0, q1, qP, qK, qD⟩ := q; exact ⟨q0, q1, qP, va_K.moved (u := U) (U := U.calling g mk a) (Vm.Alike.refl U.vm) qK, qD⟩, va_recv hKc hPc (ci := 7) (q0 := 0) rfl rfl, fun U hU hW => ⟨rfl, by rw [hU], by rw [hU]; exact hPc, va_K.moved hW.alike hKc, hDc.weaken (fun _ _ _ _ => trivial)⟩⟩ rfl rfl hl.1 rfl (lv_room (Nat.le_of_ble_eq_true rfl)) dX7_returnStep_88 ⟨(Nat.zero_le _), (Nat.zero_le _)⟩) hS (fun q _ h => hFc q h) hFc (fun r_88 u_88 t H locs ht hvm hw hB hz1 hk1 hS => ?_)
            obtain ⟨mo_flags2_88, mo_s_88, mo_latest_88, mo_accesses_88⟩ := u_88
            obtain ⟨hP1, hK1, hD1⟩ := hB
            rw [ht] at hP1
            obtain ⟨hP, hD⟩ := vb_bk2 (wc := (wwX7 q_mo q_mra q_mrA q_mrc q_mrk q_mpi q_mwc q_mwo q_mco q_mpo q_mky q_mla q_mcn q_mct k_mra k_mrA k_mrc k_mrk k_mpi k_mwc k_mwo k_mco k_mpo k_mky k_mla k_mcn k_mct mo_port mo_line mo_cycle mo_raised mo_idle mo_bad mo_glyph mo_fetched mo_rows mo_flags2 mo_enabled mo_a mo_x mo_y mo_s mo_flags mo_p mo_jammed mo_code mo_step mo_low mo_high mo_old mo_latest mo_cycles mo_stolen mo_interrupts mo_accesses f_mra f_mrA f_mrc f_mrk f_mpi f_mwc f_mwo f_mco f_mpo f_mky f_mla f_mcn f_mct)) (ws' := (wwX7 q_mo q_mra q_mrA q_mrc q_mrk q_mpi q_mwc q_mwo q_mco q_mpo q_mky q_mla q_mcn q_mct k_mra k_mrA k_mrc k_mrk k_mpi k_mwc k_mwo k_mco k_mpo k_mky k_mla k_mcn k_mct mo_port mo_line mo_cycle mo_raised mo_idle mo_bad mo_glyph mo_fetched mo_rows mo_flags2_88 mo_enabled mo_a mo_x mo_y mo_s_88 mo_flags mo_p mo_jammed mo_code mo_step mo_low mo_high mo_old mo_latest_88 mo_cycles mo_stolen mo_interrupts mo_accesses_88 f_mra f_mrA f_mrc f_mrk f_mpi f_mwc f_mwo f_mco f_mpo f_mky f_mla f_mcn f_mct)) hP hD hD1 [0, 1, 2, 3, 4, 5, 6, 7, 8, 9, 10, 11, 12, 13] [] rfl [q_mo, q_mra, q_mrA, q_mrc, q_mrk, q_mpi, q_mwc, q_mwo, q_mco, q_mpo, q_mky, q_mla, q_mcn, q_mct] rfl rfl ae_n rfl rfl hk1 hP1
            rw [← hw] at hF
            dsimp only at hF
            refine lv_iadd hx hb dX7_returnStep_91 ?_
            refine va_put (D := (dC, dI)) (ci := 7) (v := .int ((mo_p &&& (65280:Int32)) + r_88)) (ty := .int) (C := RX7) (T := TX7) (N := 41) hx hb hts hiX7 tyX7 tyX7_ok nmX7 hown hK hP hD hS 0 rfl rfl 29 (by decide) (hts _ kFX7_145) (fun _ h9 => h9) rfl (by decide +kernel) rfl rfl (Nat.le_of_ble_eq_true rfl) dX7_returnStep_92 (fun H locs hP hD hS => ?_)
            have hP : va_P (dC, dI) vwCl (wwX7 q_mo q_mra q_mrA q_mrc q_mrk q_mpi q_mwc q_mwo q_mco q_mpo q_mky q_mla q_mcn q_mct k_mra k_mrA k_mrc k_mrk k_mpi k_mwc k_mwo k_mco k_mpo k_mky k_mla k_mcn k_mct mo_port mo_line mo_cycle mo_raised mo_idle mo_bad mo_glyph mo_fetched mo_rows mo_flags2_88 mo_enabled mo_a mo_x mo_y mo_s_88 mo_flags ((mo_p &&& (65280:Int32)) + r_88) mo_jammed mo_code mo_step mo_low mo_high mo_old mo_latest_88 mo_cycles mo_stolen mo_interrupts mo_accesses_88 f_mra f_mrA f_mrc f_mrk f_mpi f_mwc f_mwo f_mco f_mpo f_mky f_mla f_mcn f_mct) H := hP
            have hD : va_D A (wwX7 q_mo q_mra q_mrA q_mrc q_mrk q_mpi q_mwc q_mwo q_mco q_mpo q_mky q_mla q_mcn q_mct k_mra k_mrA k_mrc k_mrk k_mpi k_mwc k_mwo k_mco k_mpo k_mky k_mla k_mcn k_mct mo_port mo_line mo_cycle mo_raised mo_idle mo_bad mo_glyph mo_fetched mo_rows mo_flags2_88 mo_enabled mo_a mo_x mo_y mo_s_88 mo_flags ((mo_p &&& (65280:Int32)) + r_88) mo_jammed mo_code mo_step mo_low mo_high mo_old mo_latest_88 mo_cycles mo_stolen mo_interrupts mo_accesses_88 f_mra f_mrA f_mrc f_mrk f_mpi f_mwc f_mwo f_mco f_mpo f_mky f_mla f_mcn f_mct) := hD
            refine lv_aload_n hx hb dX7_returnStep_95 rfl (lv_at hl 0 rfl) ?_
            refine va_get (D := (dC, dI)) (ci := 7) (v := .int mo_code) (C := RX7) (T := TX7) (N := 41) hx hb hts hiX7 hown hK hP 0 rfl rfl 31 (by decide) (hts _ kFX7_167) (fun _ h9 => h9) rfl dX7_returnStep_96 ?_
            refine lv_bipush (v := 64) hx hb dX7_returnStep_99 (by decide) ?_
            refine lv_icmp_ne (tgt := 134) hx hb dX7_returnStep_101 (by decide) (fun c_101 => by exact absurd c_37 c_101) (fun c_101 => ?_)
            refine lv_aload_n hx hb dX7_returnStep_104 rfl (lv_at hl 0 rfl) ?_
            refine va_get (D := (dC, dI)) (ci := 7) (v := .int mo_step) (C := RX7) (T := TX7) (N := 41) hx hb hts hiX7 hown hK hP 0 rfl rfl 32 (by decide) (hts _ kFX7_148) (fun _ h9 => h9) rfl dX7_returnStep_105 ?_
            refine lv_iconst (v := 5) hx hb dX7_returnStep_108 (by decide) ?_
            refine lv_icmp_ne (tgt := 134) hx hb dX7_returnStep_109 (by decide) (fun c_109 => ?_) (fun c_109 => by exact absurd c_109 (by rw [c_75]; decide))
            refine lv_aload_n hx hb dX7_returnStep_134 rfl (lv_at hl 0 rfl) ?_
            refine va_get (D := (dC, dI)) (ci := 7) (v := .int mo_code) (C := RX7) (T := TX7) (N := 41) hx hb hts hiX7 hown hK hP 0 rfl rfl 31 (by decide) (hts _ kFX7_167) (fun _ h9 => h9) rfl dX7_returnStep_135 ?_
            refine lv_bipush (v := 96) hx hb dX7_returnStep_138 (by decide) ?_
            refine lv_icmp_ne (tgt := 160) hx hb dX7_returnStep_140 (by decide) (fun c_140 => ?_) (fun c_140 => by exact absurd c_140 (by rw [c_37]; decide))
            refine lv_aload_n hx hb dX7_returnStep_160 rfl (lv_at hl 0 rfl) ?_
            refine va_get (D := (dC, dI)) (ci := 7) (v := .int mo_code) (C := RX7) (T := TX7) (N := 41) hx hb hts hiX7 hown hK hP 0 rfl rfl 31 (by decide) (hts _ kFX7_167) (fun _ h9 => h9) rfl dX7_returnStep_161 ?_
            refine lv_bipush (v := 96) hx hb dX7_returnStep_164 (by decide) ?_
            refine lv_icmp_ne (tgt := 195) hx hb dX7_returnStep_166 (by decide) (fun c_166 => ?_) (fun c_166 => by exact absurd c_166 (by rw [c_37]; decide))
            refine lv_aload_n hx hb dX7_returnStep_195 rfl (lv_at hl 0 rfl) ?_
            refine va_get (D := (dC, dI)) (ci := 7) (v := .int mo_code) (C := RX7) (T := TX7) (N := 41) hx hb hts hiX7 hown hK hP 0 rfl rfl 31 (by decide) (hts _ kFX7_167) (fun _ h9 => h9) rfl dX7_returnStep_196 ?_
            refine lv_bipush (v := 96) hx hb dX7_returnStep_199 (by decide) ?_
            refine lv_icmp_ne (tgt := 217) hx hb dX7_returnStep_201 (by decide) (fun c_201 => ?_) (fun c_201 => by exact absurd c_201 (by rw [c_37]; decide))
            exact W.vret hx hb hr (fun t ht hW => ⟨⟨(mo_flags2_88, mo_s_88, mo_flags, ((mo_p &&& (65280:Int32)) + r_88), mo_low, mo_latest_88, mo_accesses_88), rfl, hF.symm, by rw [ht]; exact hP, va_K.moved hW.alike hK, hD⟩, hS.F ht⟩) hS.2.2 dX7_returnStep_217
        · have hF := hF.trans (if_pos c_45)
          refine lv_aload_n hx hb dX7_returnStep_48 rfl (lv_at hl 0 rfl) ?_
          refine lv_aload_n hx hb dX7_returnStep_49 rfl (lv_at hl 0 rfl) ?_
          refine lv_iconst (v := 1) hx hb dX7_returnStep_50 (by decide) ?_
          have hPc := hP.sub (ws' := (wwX7 q_mo q_mra q_mrA q_mrc q_mrk q_mpi q_mwc q_mwo q_mco q_mpo q_mky q_mla q_mcn q_mct k_mra k_mrA k_mrc k_mrk k_mpi k_mwc k_mwo k_mco k_mpo k_mky k_mla k_mcn k_mct mo_port mo_line mo_cycle mo_raised mo_idle mo_bad mo_glyph mo_fetched mo_rows mo_flags2 mo_enabled mo_a mo_x mo_y mo_s mo_flags mo_p mo_jammed mo_code mo_step mo_low mo_high mo_old mo_latest mo_cycles mo_stolen mo_interrupts mo_accesses f_mra f_mrA f_mrc f_mrk f_mpi f_mwc f_mwo f_mco f_mpo f_mky f_mla f_mcn f_mct)) [0, 1, 2, 3, 4, 5, 6, 7, 8, 9, 10, 11, 12, 13] rfl
          have hDc := hD.sub (ws' := (wwX7 q_mo q_mra q_mrA q_mrc q_mrk q_mpi q_mwc q_mwo q_mco q_mpo q_mky q_mla q_mcn q_mct k_mra k_mrA k_mrc k_mrk k_mpi k_mwc k_mwo k_mco k_mpo k_mky k_mla k_mcn k_mct mo_port mo_line mo_cycle mo_raised mo_idle mo_bad mo_glyph mo_fetched mo_rows mo_flags2 mo_enabled mo_a mo_x mo_y mo_s mo_flags mo_p mo_jammed mo_code mo_step mo_low mo_high mo_old mo_latest mo_cycles mo_stolen mo_interrupts mo_accesses f_mra f_mrA f_mrc f_mrk f_mpi f_mwc f_mwo f_mco f_mpo f_mky f_mla f_mcn f_mct)) [0, 1, 2, 3, 4, 5, 6, 7, 8, 9, 10, 11, 12, 13] (by decide) rfl
          have hKc := hK.sub (tys' := [(k_mra, .int), (k_mrA, .int), (k_mrc, .int), (k_mrk, .int), (k_mpi, .int), (k_mwc, .int), (k_mwo, .int), (k_mco, .int), (k_mpo, .int), (k_mky, .int), (k_mla, .int), (k_mcn, .int), (k_mct, .int)]) [0, 1, 2, 3, 4, 5, 6, 7, 8, 9, 10, 11, 12] rfl
          have hFc := va_free (wc := (wwX7 q_mo q_mra q_mrA q_mrc q_mrk q_mpi q_mwc q_mwo q_mco q_mpo q_mky q_mla q_mcn q_mct k_mra k_mrA k_mrc k_mrk k_mpi k_mwc k_mwo k_mco k_mpo k_mky k_mla k_mcn k_mct mo_port mo_line mo_cycle mo_raised mo_idle mo_bad mo_glyph mo_fetched mo_rows mo_flags2 mo_enabled mo_a mo_x mo_y mo_s mo_flags mo_p mo_jammed mo_code mo_step mo_low mo_high mo_old mo_latest mo_cycles mo_stolen mo_interrupts mo_accesses f_mra f_mrA f_mrc f_mrk f_mpi f_mwc f_mwo f_mco f_mpo f_mky f_mla f_mcn f_mct)) hD hS hA [0, 1, 2, 3, 4, 5, 6, 7, 8, 9, 10, 11, 12, 13] rfl
          refine va_calli (va_runV (As := [.int (1:Int32)]) (rest := [.ref q_mo]) ⟨hx, hb, hml, hown, hts⟩ (mX7_pull l dC dI q_mo q_mra q_mrA q_mrc q_mrk q_mpi q_mwc q_mwo q_mco q_mpo q_mky q_mla q_mcn q_mct k_mra k_mrA k_mrc k_mrk k_mpi k_mwc k_mwo k_mco k_mpo k_mky k_mla k_mcn k_mct s.heap.size mo_port mo_line mo_cycle mo_raised mo_idle mo_bad mo_glyph mo_fetched mo_rows mo_flags2 mo_enabled mo_a mo_x mo_y mo_s mo_flags mo_p mo_jammed mo_code mo_step mo_low mo_high mo_old mo_latest mo_cycles mo_stolen mo_interrupts mo_accesses f_mra f_mrA f_mrc f_mrk f_mpi f_mwc f_mwo f_mco f_mpo f_mky f_mla f_mcn f_mct (1:Int32) hs_) (cwV 1 hts (ub_V kMX7_206 kYX7_pull kSX7_pull kIX7 kBX7_pull) rfl rfl rfl (by decide +kernel) ⟨Nat.le_of_ble_eq_true rfl, Nat.le_of_ble_eq_true rfl⟩) ⟨fun a U g mk q => by obtain ⟨q0, q1, qP, qK, qD⟩ := q; exact ⟨q0, q1, qP, va_K.moved (u := U) (U := U.calling g mk a) (Vm.Alike.refl U.vm) qK, qD⟩, va_recv hKc hPc (ci := 7) (q0 := 0) rfl rfl, fun U hU hW => ⟨rfl, by rw [hU], by rw [hU]; exact hPc, va_K.moved hW.alike hKc, hDc.weaken (fun _ _ _ _ => trivial)⟩⟩ rfl rfl hl.1 rfl (lv_room (Nat.le_of_ble_eq_true rfl)) dX7_returnStep_51 ⟨(Nat.zero_le _), (Nat.zero_le _)⟩) hS (fun q _ h => hFc q h) hFc (fun r_51 u_51 t H locs ht hvm hw hB hz1 hk1 hS => ?_)
          obtain ⟨mo_flags2_51, mo_s_51, mo_latest_51, mo_accesses_51⟩ := u_51
          obtain ⟨hP1, hK1, hD1⟩ := hB
          rw [ht] at hP1
          obtain ⟨hP, hD⟩ := vb_bk2 (wc := (wwX7 q_mo q_mra q_mrA q_mrc q_mrk q_mpi q_mwc q_mwo q_mco q_mpo q_mky q_mla q_mcn q_mct k_mra k_mrA k_mrc k_mrk k_mpi k_mwc k_mwo k_mco k_mpo k_mky k_mla k_mcn k_mct mo_port mo_line mo_cycle mo_raised mo_idle mo_bad mo_glyph mo_fetched mo_rows mo_flags2 mo_enabled mo_a mo_x mo_y mo_s mo_flags mo_p mo_jammed mo_code mo_step mo_low mo_high mo_old mo_latest mo_cycles mo_stolen mo_interrupts mo_accesses f_mra f_mrA f_mrc f_mrk f_mpi f_mwc f_mwo f_mco f_mpo f_mky f_mla f_mcn f_mct)) (ws' := (wwX7 q_mo q_mra q_mrA q_mrc q_mrk q_mpi q_mwc q_mwo q_mco q_mpo q_mky q_mla q_mcn q_mct k_mra k_mrA k_mrc k_mrk k_mpi k_mwc k_mwo k_mco k_mpo k_mky k_mla k_mcn k_mct mo_port mo_line mo_cycle mo_raised mo_idle mo_bad mo_glyph mo_fetched mo_rows mo_flags2_51 mo_enabled mo_a mo_x mo_y mo_s_51 mo_flags mo_p mo_jammed mo_code mo_step mo_low mo_high mo_old mo_latest_51 mo_cycles mo_stolen mo_interrupts mo_accesses_51 f_mra f_mrA f_mrc f_mrk f_mpi f_mwc f_mwo f_mco f_mpo f_mky f_mla f_mcn f_mct)) hP hD hD1 [0, 1, 2, 3, 4, 5, 6, 7, 8, 9, 10, 11, 12, 13] [] rfl [q_mo, q_mra, q_mrA, q_mrc, q_mrk, q_mpi, q_mwc, q_mwo, q_mco, q_mpo, q_mky, q_mla, q_mcn, q_mct] rfl rfl ae_n rfl rfl hk1 hP1
          rw [← hw] at hF
          dsimp only at hF
          refine lv_sipush (v := 207) hx hb dX7_returnStep_54 (by decide) ?_
          refine lv_iand hx hb dX7_returnStep_57 ?_
          refine va_put (D := (dC, dI)) (ci := 7) (v := .int (r_51 &&& (207:Int32))) (ty := .int) (C := RX7) (T := TX7) (N := 41) hx hb hts hiX7 tyX7 tyX7_ok nmX7 hown hK hP hD hS 0 rfl rfl 28 (by decide) (hts _ kFX7_60) (fun _ h9 => h9) rfl (by decide +kernel) rfl rfl (Nat.le_of_ble_eq_true rfl) dX7_returnStep_58 (fun H locs hP hD hS => ?_)
          have hP : va_P (dC, dI) vwCl (wwX7 q_mo q_mra q_mrA q_mrc q_mrk q_mpi q_mwc q_mwo q_mco q_mpo q_mky q_mla q_mcn q_mct k_mra k_mrA k_mrc k_mrk k_mpi k_mwc k_mwo k_mco k_mpo k_mky k_mla k_mcn k_mct mo_port mo_line mo_cycle mo_raised mo_idle mo_bad mo_glyph mo_fetched mo_rows mo_flags2_51 mo_enabled mo_a mo_x mo_y mo_s_51 (r_51 &&& (207:Int32)) mo_p mo_jammed mo_code mo_step mo_low mo_high mo_old mo_latest_51 mo_cycles mo_stolen mo_interrupts mo_accesses_51 f_mra f_mrA f_mrc f_mrk f_mpi f_mwc f_mwo f_mco f_mpo f_mky f_mla f_mcn f_mct) H := hP
          have hD : va_D A (wwX7 q_mo q_mra q_mrA q_mrc q_mrk q_mpi q_mwc q_mwo q_mco q_mpo q_mky q_mla q_mcn q_mct k_mra k_mrA k_mrc k_mrk k_mpi k_mwc k_mwo k_mco k_mpo k_mky k_mla k_mcn k_mct mo_port mo_line mo_cycle mo_raised mo_idle mo_bad mo_glyph mo_fetched mo_rows mo_flags2_51 mo_enabled mo_a mo_x mo_y mo_s_51 (r_51 &&& (207:Int32)) mo_p mo_jammed mo_code mo_step mo_low mo_high mo_old mo_latest_51 mo_cycles mo_stolen mo_interrupts mo_accesses_51 f_mra f_mrA f_mrc f_mrk f_mpi f_mwc f_mwo f_mco f_mpo f_mky f_mla f_mcn f_mct) := hD
          refine lv_aload_n hx hb dX7_returnStep_61 rfl (lv_at hl 0 rfl) ?_
          refine va_get (D := (dC, dI)) (ci := 7) (v := .int mo_code) (C := RX7) (T := TX7) (N := 41) hx hb hts hiX7 hown hK hP 0 rfl rfl 31 (by decide) (hts _ kFX7_167) (fun _ h9 => h9) rfl dX7_returnStep_62 ?_
          refine lv_bipush (v := 64) hx hb dX7_returnStep_65 (by decide) ?_
          refine lv_icmp_ne (tgt := 95) hx hb dX7_returnStep_67 (by decide) (fun c_67 => by exact absurd c_37 c_67) (fun c_67 => ?_)
          refine lv_aload_n hx hb dX7_returnStep_70 rfl (lv_at hl 0 rfl) ?_
          refine va_get (D := (dC, dI)) (ci := 7) (v := .int mo_step) (C := RX7) (T := TX7) (N := 41) hx hb hts hiX7 hown hK hP 0 rfl rfl 32 (by decide) (hts _ kFX7_148) (fun _ h9 => h9) rfl dX7_returnStep_71 ?_
          refine lv_iconst (v := 4) hx hb dX7_returnStep_74 (by decide) ?_
          refine lv_icmp_ne (tgt := 95) hx hb dX7_returnStep_75 (by decide) (fun c_75 => ?_) (fun c_75 => by exact absurd c_75 (by rw [c_45]; decide))
          refine lv_aload_n hx hb dX7_returnStep_95 rfl (lv_at hl 0 rfl) ?_
          refine va_get (D := (dC, dI)) (ci := 7) (v := .int mo_code) (C := RX7) (T := TX7) (N := 41) hx hb hts hiX7 hown hK hP 0 rfl rfl 31 (by decide) (hts _ kFX7_167) (fun _ h9 => h9) rfl dX7_returnStep_96 ?_
          refine lv_bipush (v := 64) hx hb dX7_returnStep_99 (by decide) ?_
          refine lv_icmp_ne (tgt := 134) hx hb dX7_returnStep_101 (by decide) (fun c_101 => by exact absurd c_37 c_101) (fun c_101 => ?_)
          refine lv_aload_n hx hb dX7_returnStep_104 rfl (lv_at hl 0 rfl) ?_
          refine va_get (D := (dC, dI)) (ci := 7) (v := .int mo_step) (C := RX7) (T := TX7) (N := 41) hx hb hts hiX7 hown hK hP 0 rfl rfl 32 (by decide) (hts _ kFX7_148) (fun _ h9 => h9) rfl dX7_returnStep_105 ?_
          refine lv_iconst (v := 5) hx hb dX7_returnStep_108 (by decide) ?_
          refine lv_icmp_ne (tgt := 134) hx hb dX7_returnStep_109 (by decide) (fun c_109 => ?_) (fun c_109 => by exact absurd c_109 (by rw [c_45]; decide))
          refine lv_aload_n hx hb dX7_returnStep_134 rfl (lv_at hl 0 rfl) ?_
          refine va_get (D := (dC, dI)) (ci := 7) (v := .int mo_code) (C := RX7) (T := TX7) (N := 41) hx hb hts hiX7 hown hK hP 0 rfl rfl 31 (by decide) (hts _ kFX7_167) (fun _ h9 => h9) rfl dX7_returnStep_135 ?_
          refine lv_bipush (v := 96) hx hb dX7_returnStep_138 (by decide) ?_
          refine lv_icmp_ne (tgt := 160) hx hb dX7_returnStep_140 (by decide) (fun c_140 => ?_) (fun c_140 => by exact absurd c_140 (by rw [c_37]; decide))
          refine lv_aload_n hx hb dX7_returnStep_160 rfl (lv_at hl 0 rfl) ?_
          refine va_get (D := (dC, dI)) (ci := 7) (v := .int mo_code) (C := RX7) (T := TX7) (N := 41) hx hb hts hiX7 hown hK hP 0 rfl rfl 31 (by decide) (hts _ kFX7_167) (fun _ h9 => h9) rfl dX7_returnStep_161 ?_
          refine lv_bipush (v := 96) hx hb dX7_returnStep_164 (by decide) ?_
          refine lv_icmp_ne (tgt := 195) hx hb dX7_returnStep_166 (by decide) (fun c_166 => ?_) (fun c_166 => by exact absurd c_166 (by rw [c_37]; decide))
          refine lv_aload_n hx hb dX7_returnStep_195 rfl (lv_at hl 0 rfl) ?_
          refine va_get (D := (dC, dI)) (ci := 7) (v := .int mo_code) (C := RX7) (T := TX7) (N := 41) hx hb hts hiX7 hown hK hP 0 rfl rfl 31 (by decide) (hts _ kFX7_167) (fun _ h9 => h9) rfl dX7_returnStep_196 ?_
          refine lv_bipush (v := 96) hx hb dX7_returnStep_199 (by decide) ?_
          refine lv_icmp_ne (tgt := 217) hx hb dX7_returnStep_201 (by decide) (fun c_201 => ?_) (fun c_201 => by exact absurd c_201 (by rw [c_37]; decide))
          exact W.vret hx hb hr (fun t ht hW => ⟨⟨(mo_flags2_51, mo_s_51, (r_51 &&& (207:Int32)), mo_p, mo_low, mo_latest_51, mo_accesses_51), rfl, hF.symm, by rw [ht]; exact hP, va_K.moved hW.alike hK, hD⟩, hS.F ht⟩) hS.2.2 dX7_returnStep_217
    · have hF := hF.trans (if_pos c_22)
      refine lv_aload_n hx hb dX7_returnStep_25 rfl (lv_at hl 0 rfl) ?_
      refine lv_iconst (v := 1) hx hb dX7_returnStep_26 (by decide) ?_
      have hPc := hP.sub (ws' := (wwX7 q_mo q_mra q_mrA q_mrc q_mrk q_mpi q_mwc q_mwo q_mco q_mpo q_mky q_mla q_mcn q_mct k_mra k_mrA k_mrc k_mrk k_mpi k_mwc k_mwo k_mco k_mpo k_mky k_mla k_mcn k_mct mo_port mo_line mo_cycle mo_raised mo_idle mo_bad mo_glyph mo_fetched mo_rows mo_flags2 mo_enabled mo_a mo_x mo_y mo_s mo_flags mo_p mo_jammed mo_code mo_step mo_low mo_high mo_old mo_latest mo_cycles mo_stolen mo_interrupts mo_accesses f_mra f_mrA f_mrc f_mrk f_mpi f_mwc f_mwo f_mco f_mpo f_mky f_mla f_mcn f_mct)) [0, 1, 2, 3, 4, 5, 6, 7, 8, 9, 10, 11, 12, 13] rfl
      have hDc := hD.sub (ws' := (wwX7 q_mo q_mra q_mrA q_mrc q_mrk q_mpi q_mwc q_mwo q_mco q_mpo q_mky q_mla q_mcn q_mct k_mra k_mrA k_mrc k_mrk k_mpi k_mwc k_mwo k_mco k_mpo k_mky k_mla k_mcn k_mct mo_port mo_line mo_cycle mo_raised mo_idle mo_bad mo_glyph mo_fetched mo_rows mo_flags2 mo_enabled mo_a mo_x mo_y mo_s mo_flags mo_p mo_jammed mo_code mo_step mo_low mo_high mo_old mo_latest mo_cycles mo_stolen mo_interrupts mo_accesses f_mra f_mrA f_mrc f_mrk f_mpi f_mwc f_mwo f_mco f_mpo f_mky f_mla f_mcn f_mct)) [0, 1, 2, 3, 4, 5, 6, 7, 8, 9, 10, 11, 12, 13] (by decide) rfl
      have hKc := hK.sub (tys' := [(k_mra, .int), (k_mrA, .int), (k_mrc, .int), (k_mrk, .int), (k_mpi, .int), (k_mwc, .int), (k_mwo, .int), (k_mco, .int), (k_mpo, .int), (k_mky, .int), (k_mla, .int), (k_mcn, .int), (k_mct, .int)]) [0, 1, 2, 3, 4, 5, 6, 7, 8, 9, 10, 11, 12] rfl
      have hFc := va_free (wc := (wwX7 q_mo q_mra q_mrA q_mrc q_mrk q_mpi q_mwc q_mwo q_mco q_mpo q_mky q_mla q_mcn q_mct k_mra k_mrA k_mrc k_mrk k_mpi k_mwc k_mwo k_mco k_mpo k_mky k_mla k_mcn k_mct mo_port mo_line mo_cycle mo_raised mo_idle mo_bad mo_glyph mo_fetched mo_rows mo_flags2 mo_enabled mo_a mo_x mo_y mo_s mo_flags mo_p mo_jammed mo_code mo_step mo_low mo_high mo_old mo_latest mo_cycles mo_stolen mo_interrupts mo_accesses f_mra f_mrA f_mrc f_mrk f_mpi f_mwc f_mwo f_mco f_mpo f_mky f_mla f_mcn f_mct)) hD hS hA [0, 1, 2, 3, 4, 5, 6, 7, 8, 9, 10, 11, 12, 13] rfl
      refine va_calli (va_runV (As := [.int (1:Int32)]) (rest := []) ⟨hx, hb, hml, hown, hts⟩ (mX7_pull l dC dI q_mo q_mra q_mrA q_mrc q_mrk q_mpi q_mwc q_mwo q_mco q_mpo q_mky q_mla q_mcn q_mct k_mra k_mrA k_mrc k_mrk k_mpi k_mwc k_mwo k_mco k_mpo k_mky k_mla k_mcn k_mct s.heap.size mo_port mo_line mo_cycle mo_raised mo_idle mo_bad mo_glyph mo_fetched mo_rows mo_flags2 mo_enabled mo_a mo_x mo_y mo_s mo_flags mo_p mo_jammed mo_code mo_step mo_low mo_high mo_old mo_latest mo_cycles mo_stolen mo_interrupts mo_accesses f_mra f_mrA f_mrc f_mrk f_mpi f_mwc f_mwo f_mco f_mpo f_mky f_mla f_mcn f_mct (1:Int32) hs_) (cwV 1 hts (ub_V kMX7_206 kYX7_pull kSX7_pull kIX7 kBX7_pull) rfl rfl rfl (by decide +kernel) ⟨Nat.le_of_ble_eq_true rfl, Nat.le_of_ble_eq_true rfl⟩) ⟨fun a U g mk q => by obtain ⟨q0, q1, qP, qK, qD⟩ := q; exact ⟨q0, q1, qP, va_K.moved (u := U) (U := U.calling g mk a) (Vm.Alike.refl U.vm) qK, qD⟩, va_recv hKc hPc (ci := 7) (q0 := 0) rfl rfl, fun U hU hW => ⟨rfl, by rw [hU], by rw [hU]; exact hPc, va_K.moved hW.alike hKc, hDc.weaken (fun _ _ _ _ => trivial)⟩⟩ rfl rfl hl.1 rfl (lv_room (Nat.le_of_ble_eq_true rfl)) dX7_returnStep_27 ⟨(Nat.zero_le _), (Nat.zero_le _)⟩) hS (fun q _ h => hFc q h) hFc (fun r_27 u_27 t H locs ht hvm hw hB hz1 hk1 hS => ?_)
      obtain ⟨mo_flags2_27, mo_s_27, mo_latest_27, mo_accesses_27⟩ := u_27
      obtain ⟨hP1, hK1, hD1⟩ := hB
      rw [ht] at hP1
      obtain ⟨hP, hD⟩ := vb_bk2 (wc := (wwX7 q_mo q_mra q_mrA q_mrc q_mrk q_mpi q_mwc q_mwo q_mco q_mpo q_mky q_mla q_mcn q_mct k_mra k_mrA k_mrc k_mrk k_mpi k_mwc k_mwo k_mco k_mpo k_mky k_mla k_mcn k_mct mo_port mo_line mo_cycle mo_raised mo_idle mo_bad mo_glyph mo_fetched mo_rows mo_flags2 mo_enabled mo_a mo_x mo_y mo_s mo_flags mo_p mo_jammed mo_code mo_step mo_low mo_high mo_old mo_latest mo_cycles mo_stolen mo_interrupts mo_accesses f_mra f_mrA f_mrc f_mrk f_mpi f_mwc f_mwo f_mco f_mpo f_mky f_mla f_mcn f_mct)) (ws' := (wwX7 q_mo q_mra q_mrA q_mrc q_mrk q_mpi q_mwc q_mwo q_mco q_mpo q_mky q_mla q_mcn q_mct k_mra k_mrA k_mrc k_mrk k_mpi k_mwc k_mwo k_mco k_mpo k_mky k_mla k_mcn k_mct mo_port mo_line mo_cycle mo_raised mo_idle mo_bad mo_glyph mo_fetched mo_rows mo_flags2_27 mo_enabled mo_a mo_x mo_y mo_s_27 mo_flags mo_p mo_jammed mo_code mo_step mo_low mo_high mo_old mo_latest_27 mo_cycles mo_stolen mo_interrupts mo_accesses_27 f_mra f_mrA f_mrc f_mrk f_mpi f_mwc f_mwo f_mco f_mpo f_mky f_mla f_mcn f_mct)) hP hD hD1 [0, 1, 2, 3, 4, 5, 6, 7, 8, 9, 10, 11, 12, 13] [] rfl [q_mo, q_mra, q_mrA, q_mrc, q_mrk, q_mpi, q_mwc, q_mwo, q_mco, q_mpo, q_mky, q_mla, q_mcn, q_mct] rfl rfl ae_n rfl rfl hk1 hP1
      rw [← hw] at hF
      dsimp only at hF
      refine lv_pop hx hb dX7_returnStep_30 rfl ?_
      refine lv_aload_n hx hb dX7_returnStep_31 rfl (lv_at hl 0 rfl) ?_
      refine va_get (D := (dC, dI)) (ci := 7) (v := .int mo_code) (C := RX7) (T := TX7) (N := 41) hx hb hts hiX7 hown hK hP 0 rfl rfl 31 (by decide) (hts _ kFX7_167) (fun _ h9 => h9) rfl dX7_returnStep_32 ?_
      refine lv_bipush (v := 64) hx hb dX7_returnStep_35 (by decide) ?_
      refine lv_icmp_ne (tgt := 61) hx hb dX7_returnStep_37 (by decide) (fun c_37 => ?_) (fun c_37 => ?_)
      · have hF := hF.trans (if_neg c_37)
        refine lv_aload_n hx hb dX7_returnStep_61 rfl (lv_at hl 0 rfl) ?_
        refine va_get (D := (dC, dI)) (ci := 7) (v := .int mo_code) (C := RX7) (T := TX7) (N := 41) hx hb hts hiX7 hown hK hP 0 rfl rfl 31 (by decide) (hts _ kFX7_167) (fun _ h9 => h9) rfl dX7_returnStep_62 ?_
        refine lv_bipush (v := 64) hx hb dX7_returnStep_65 (by decide) ?_
        refine lv_icmp_ne (tgt := 95) hx hb dX7_returnStep_67 (by decide) (fun c_67 => ?_) (fun c_67 => by exact absurd c_67 c_37)
        refine lv_aload_n hx hb dX7_returnStep_95 rfl (lv_at hl 0 rfl) ?_
        refine va_get (D := (dC, dI)) (ci := 7) (v := .int mo_code) (C := RX7) (T := TX7) (N := 41) hx hb hts hiX7 hown hK hP 0 rfl rfl 31 (by decide) (hts _ kFX7_167) (fun _ h9 => h9) rfl dX7_returnStep_96 ?_
        refine lv_bipush (v := 64) hx hb dX7_returnStep_99 (by decide) ?_
        refine lv_icmp_ne (tgt := 134) hx hb dX7_returnStep_101 (by decide) (fun c_101 => ?_) (fun c_101 => by exact absurd c_101 c_37)
        refine lv_aload_n hx hb dX7_returnStep_134 rfl (lv_at hl 0 rfl) ?_
        refine va_get (D := (dC, dI)) (ci := 7) (v := .int mo_code) (C := RX7) (T := TX7) (N := 41) hx hb hts hiX7 hown hK hP 0 rfl rfl 31 (by decide) (hts _ kFX7_167) (fun _ h9 => h9) rfl dX7_returnStep_135 ?_
        refine lv_bipush (v := 96) hx hb dX7_returnStep_138 (by decide) ?_
        refine lv_icmp_ne (tgt := 160) hx hb dX7_returnStep_140 (by decide) (fun c_140 => ?_) (fun c_140 => ?_)
        · have hF := hF.trans (if_neg c_140)
          refine lv_aload_n hx hb dX7_returnStep_160 rfl (lv_at hl 0 rfl) ?_
          refine va_get (D := (dC, dI)) (ci := 7) (v := .int mo_code) (C := RX7) (T := TX7) (N := 41) hx hb hts hiX7 hown hK hP 0 rfl rfl 31 (by decide) (hts _ kFX7_167) (fun _ h9 => h9) rfl dX7_returnStep_161 ?_
          refine lv_bipush (v := 96) hx hb dX7_returnStep_164 (by decide) ?_
          refine lv_icmp_ne (tgt := 195) hx hb dX7_returnStep_166 (by decide) (fun c_166 => ?_) (fun c_166 => by exact absurd c_166 c_140)
          refine lv_aload_n hx hb dX7_returnStep_195 rfl (lv_at hl 0 rfl) ?_
          refine va_get (D := (dC, dI)) (ci := 7) (v := .int mo_code) (C := RX7) (T := TX7) (N := 41) hx hb hts hiX7 hown hK hP 0 rfl rfl 31 (by decide) (hts _ kFX7_167) (fun _ h9 => h9) rfl dX7_returnStep_196 ?_
          refine lv_bipush (v := 96) hx hb dX7_returnStep_199 (by decide) ?_
          refine lv_icmp_ne (tgt := 217) hx hb dX7_returnStep_201 (by decide) (fun c_201 => ?_) (fun c_201 => by exact absurd c_201 c_140)
          exact W.vret hx hb hr (fun t ht hW => ⟨⟨(mo_flags2_27, mo_s_27, mo_flags, mo_p, mo_low, mo_latest_27, mo_accesses_27), rfl, hF.symm, by rw [ht]; exact hP, va_K.moved hW.alike hK, hD⟩, hS.F ht⟩) hS.2.2 dX7_returnStep_217
        · have hF := hF.trans (if_pos c_140)
          refine lv_aload_n hx hb dX7_returnStep_143 rfl (lv_at hl 0 rfl) ?_
          refine va_get (D := (dC, dI)) (ci := 7) (v := .int mo_step) (C := RX7) (T := TX7) (N := 41) hx hb hts hiX7 hown hK hP 0 rfl rfl 32 (by decide) (hts _ kFX7_148) (fun _ h9 => h9) rfl dX7_returnStep_144 ?_
          refine lv_iconst (v := 3) hx hb dX7_returnStep_147 (by decide) ?_
          refine lv_icmp_ne (tgt := 160) hx hb dX7_returnStep_148 (by decide) (fun c_148 => ?_) (fun c_148 => by exact absurd c_148 (by rw [c_22]; decide))
          refine lv_aload_n hx hb dX7_returnStep_160 rfl (lv_at hl 0 rfl) ?_
          refine va_get (D := (dC, dI)) (ci := 7) (v := .int mo_code) (C := RX7) (T := TX7) (N := 41) hx hb hts hiX7 hown hK hP 0 rfl rfl 31 (by decide) (hts _ kFX7_167) (fun _ h9 => h9) rfl dX7_returnStep_161 ?_
          refine lv_bipush (v := 96) hx hb dX7_returnStep_164 (by decide) ?_
          refine lv_icmp_ne (tgt := 195) hx hb dX7_returnStep_166 (by decide) (fun c_166 => by exact absurd c_140 c_166) (fun c_166 => ?_)
          refine lv_aload_n hx hb dX7_returnStep_169 rfl (lv_at hl 0 rfl) ?_
          refine va_get (D := (dC, dI)) (ci := 7) (v := .int mo_step) (C := RX7) (T := TX7) (N := 41) hx hb hts hiX7 hown hK hP 0 rfl rfl 32 (by decide) (hts _ kFX7_148) (fun _ h9 => h9) rfl dX7_returnStep_170 ?_
          refine lv_iconst (v := 4) hx hb dX7_returnStep_173 (by decide) ?_
          refine lv_icmp_ne (tgt := 195) hx hb dX7_returnStep_174 (by decide) (fun c_174 => ?_) (fun c_174 => by exact absurd c_174 (by rw [c_22]; decide))
          refine lv_aload_n hx hb dX7_returnStep_195 rfl (lv_at hl 0 rfl) ?_
          refine va_get (D := (dC, dI)) (ci := 7) (v := .int mo_code) (C := RX7) (T := TX7) (N := 41) hx hb hts hiX7 hown hK hP 0 rfl rfl 31 (by decide) (hts _ kFX7_167) (fun _ h9 => h9) rfl dX7_returnStep_196 ?_
          refine lv_bipush (v := 96) hx hb dX7_returnStep_199 (by decide) ?_
          refine lv_icmp_ne (tgt := 217) hx hb dX7_returnStep_201 (by decide) (fun c_201 => by exact absurd c_140 c_201) (fun c_201 => ?_)
          refine lv_aload_n hx hb dX7_returnStep_204 rfl (lv_at hl 0 rfl) ?_
          refine va_get (D := (dC, dI)) (ci := 7) (v := .int mo_step) (C := RX7) (T := TX7) (N := 41) hx hb hts hiX7 hown hK hP 0 rfl rfl 32 (by decide) (hts _ kFX7_148) (fun _ h9 => h9) rfl dX7_returnStep_205 ?_
          refine lv_iconst (v := 5) hx hb dX7_returnStep_208 (by decide) ?_
          refine lv_icmp_ne (tgt := 217) hx hb dX7_returnStep_209 (by decide) (fun c_209 => ?_) (fun c_209 => by exact absurd c_209 (by rw [c_22]; decide))
          exact W.vret hx hb hr (fun t ht hW => ⟨⟨(mo_flags2_27, mo_s_27, mo_flags, mo_p, mo_low, mo_latest_27, mo_accesses_27), rfl, hF.symm, by rw [ht]; exact hP, va_K.moved hW.alike hK, hD⟩, hS.F ht⟩) hS.2.2 dX7_returnStep_217
      · have hF := hF.trans (if_pos c_37)
        refine lv_aload_n hx hb dX7_returnStep_40 rfl (lv_at hl 0 rfl) ?_
        refine va_get (D := (dC, dI)) (ci := 7) (v := .int mo_step) (C := RX7) (T := TX7) (N := 41) hx hb hts hiX7 hown hK hP 0 rfl rfl 32 (by decide) (hts _ kFX7_148) (fun _ h9 => h9) rfl dX7_returnStep_41 ?_
        refine lv_iconst (v := 3) hx hb dX7_returnStep_44 (by decide) ?_
        refine lv_icmp_ne (tgt := 61) hx hb dX7_returnStep_45 (by decide) (fun c_45 => ?_) (fun c_45 => by exact absurd c_45 (by rw [c_22]; decide))
        refine lv_aload_n hx hb dX7_returnStep_61 rfl (lv_at hl 0 rfl) ?_
        refine va_get (D := (dC, dI)) (ci := 7) (v := .int mo_code) (C := RX7) (T := TX7) (N := 41) hx hb hts hiX7 hown hK hP 0 rfl rfl 31 (by decide) (hts _ kFX7_167) (fun _ h9 => h9) rfl dX7_returnStep_62 ?_
        refine lv_bipush (v := 64) hx hb dX7_returnStep_65 (by decide) ?_
        refine lv_icmp_ne (tgt := 95) hx hb dX7_returnStep_67 (by decide) (fun c_67 => by exact absurd c_37 c_67) (fun c_67 => ?_)
        refine lv_aload_n hx hb dX7_returnStep_70 rfl (lv_at hl 0 rfl) ?_
        refine va_get (D := (dC, dI)) (ci := 7) (v := .int mo_step) (C := RX7) (T := TX7) (N := 41) hx hb hts hiX7 hown hK hP 0 rfl rfl 32 (by decide) (hts _ kFX7_148) (fun _ h9 => h9) rfl dX7_returnStep_71 ?_
        refine lv_iconst (v := 4) hx hb dX7_returnStep_74 (by decide) ?_
        refine lv_icmp_ne (tgt := 95) hx hb dX7_returnStep_75 (by decide) (fun c_75 => ?_) (fun c_75 => by exact absurd c_75 (by rw [c_22]; decide))
        refine lv_aload_n hx hb dX7_returnStep_95 rfl (lv_at hl 0 rfl) ?_
        refine va_get (D := (dC, dI)) (ci := 7) (v := .int mo_code) (C := RX7) (T := TX7) (N := 41) hx hb hts hiX7 hown hK hP 0 rfl rfl 31 (by decide) (hts _ kFX7_167) (fun _ h9 => h9) rfl dX7_returnStep_96 ?_
        refine lv_bipush (v := 64) hx hb dX7_returnStep_99 (by decide) ?_
        refine lv_icmp_ne (tgt := 134) hx hb dX7_returnStep_101 (by decide) (fun c_101 => by exact absurd c_37 c_101) (fun c_101 => ?_)
        refine lv_aload_n hx hb dX7_returnStep_104 rfl (lv_at hl 0 rfl) ?_
        refine va_get (D := (dC, dI)) (ci := 7) (v := .int mo_step) (C := RX7) (T := TX7) (N := 41) hx hb hts hiX7 hown hK hP 0 rfl rfl 32 (by decide) (hts _ kFX7_148) (fun _ h9 => h9) rfl dX7_returnStep_105 ?_
        refine lv_iconst (v := 5) hx hb dX7_returnStep_108 (by decide) ?_
        refine lv_icmp_ne (tgt := 134) hx hb dX7_returnStep_109 (by decide) (fun c_109 => ?_) (fun c_109 => by exact absurd c_109 (by rw [c_22]; decide))
        refine lv_aload_n hx hb dX7_returnStep_134 rfl (lv_at hl 0 rfl) ?_
        refine va_get (D := (dC, dI)) (ci := 7) (v := .int mo_code) (C := RX7) (T := TX7) (N := 41) hx hb hts hiX7 hown hK hP 0 rfl rfl 31 (by decide) (hts _ kFX7_167) (fun _ h9 => h9) rfl dX7_returnStep_135 ?_
        refine lv_bipush (v := 96) hx hb dX7_returnStep_138 (by decide) ?_
        refine lv_icmp_ne (tgt := 160) hx hb dX7_returnStep_140 (by decide) (fun c_140 => ?_) (fun c_140 => by exact absurd c_140 (by rw [c_37]; decide))
        refine lv_aload_n hx hb dX7_returnStep_160 rfl (lv_at hl 0 rfl) ?_
        refine va_get (D := (dC, dI)) (ci := 7) (v := .int mo_code) (C := RX7) (T := TX7) (N := 41) hx hb hts hiX7 hown hK hP 0 rfl rfl 31 (by decide) (hts _ kFX7_167) (fun _ h9 => h9) rfl dX7_returnStep_161 ?_
        refine lv_bipush (v := 96) hx hb dX7_returnStep_164 (by decide) ?_
        refine lv_icmp_ne (tgt := 195) hx hb dX7_returnStep_166 (by decide) (fun c_166 => ?_) (fun c_166 => by exact absurd c_166 (by rw [c_37]; decide))
        refine lv_aload_n hx hb dX7_returnStep_195 rfl (lv_at hl 0 rfl) ?_
        refine va_get (D := (dC, dI)) (ci := 7) (v := .int mo_code) (C := RX7) (T := TX7) (N := 41) hx hb hts hiX7 hown hK hP 0 rfl rfl 31 (by decide) (hts _ kFX7_167) (fun _ h9 => h9) rfl dX7_returnStep_196 ?_
        refine lv_bipush (v := 96) hx hb dX7_returnStep_199 (by decide) ?_
        refine lv_icmp_ne (tgt := 217) hx hb dX7_returnStep_201 (by decide) (fun c_201 => ?_) (fun c_201 => by exact absurd c_201 (by rw [c_37]; decide))
        exact W.vret hx hb hr (fun t ht hW => ⟨⟨(mo_flags2_27, mo_s_27, mo_flags, mo_p, mo_low, mo_latest_27, mo_accesses_27), rfl, hF.symm, by rw [ht]; exact hP, va_K.moved hW.alike hK, hD⟩, hS.F ht⟩) hS.2.2 dX7_returnStep_217
  · have hF := hF.trans (if_pos c_5)
    refine lv_aload_n hx hb dX7_returnStep_8 rfl (lv_at hl 0 rfl) ?_
    refine lv_aload_n hx hb dX7_returnStep_9 rfl (lv_at hl 0 rfl) ?_
    refine va_get (D := (dC, dI)) (ci := 7) (v := .int mo_p) (C := RX7) (T := TX7) (N := 41) hx hb hts hiX7 hown hK hP 0 rfl rfl 29 (by decide) (hts _ kFX7_145) (fun _ h9 => h9) rfl dX7_returnStep_10 ?_
    have hPc := hP.sub (ws' := (wwX7 q_mo q_mra q_mrA q_mrc q_mrk q_mpi q_mwc q_mwo q_mco q_mpo q_mky q_mla q_mcn q_mct k_mra k_mrA k_mrc k_mrk k_mpi k_mwc k_mwo k_mco k_mpo k_mky k_mla k_mcn k_mct mo_port mo_line mo_cycle mo_raised mo_idle mo_bad mo_glyph mo_fetched mo_rows mo_flags2 mo_enabled mo_a mo_x mo_y mo_s mo_flags mo_p mo_jammed mo_code mo_step mo_low mo_high mo_old mo_latest mo_cycles mo_stolen mo_interrupts mo_accesses f_mra f_mrA f_mrc f_mrk f_mpi f_mwc f_mwo f_mco f_mpo f_mky f_mla f_mcn f_mct)) [0, 1, 2, 3, 4, 5, 6, 7, 8, 9, 10, 11, 12, 13] rfl
    have hDc := hD.sub (ws' := (wwX7 q_mo q_mra q_mrA q_mrc q_mrk q_mpi q_mwc q_mwo q_mco q_mpo q_mky q_mla q_mcn q_mct k_mra k_mrA k_mrc k_mrk k_mpi k_mwc k_mwo k_mco k_mpo k_mky k_mla k_mcn k_mct mo_port mo_line mo_cycle mo_raised mo_idle mo_bad mo_glyph mo_fetched mo_rows mo_flags2 mo_enabled mo_a mo_x mo_y mo_s mo_flags mo_p mo_jammed mo_code mo_step mo_low mo_high mo_old mo_latest mo_cycles mo_stolen mo_interrupts mo_accesses f_mra f_mrA f_mrc f_mrk f_mpi f_mwc f_mwo f_mco f_mpo f_mky f_mla f_mcn f_mct)) [0, 1, 2, 3, 4, 5, 6, 7, 8, 9, 10, 11, 12, 13] (by decide) rfl
    have hKc := hK.sub (tys' := [(k_mra, .int), (k_mrA, .int), (k_mrc, .int), (k_mrk, .int), (k_mpi, .int), (k_mwc, .int), (k_mwo, .int), (k_mco, .int), (k_mpo, .int), (k_mky, .int), (k_mla, .int), (k_mcn, .int), (k_mct, .int)]) [0, 1, 2, 3, 4, 5, 6, 7, 8, 9, 10, 11, 12] rfl
    have hFc := va_free (wc := (wwX7 q_mo q_mra q_mrA q_mrc q_mrk q_mpi q_mwc q_mwo q_mco q_mpo q_mky q_mla q_mcn q_mct k_mra k_mrA k_mrc k_mrk k_mpi k_mwc k_mwo k_mco k_mpo k_mky k_mla k_mcn k_mct mo_port mo_line mo_cycle mo_raised mo_idle mo_bad mo_glyph mo_fetched mo_rows mo_flags2 mo_enabled mo_a mo_x mo_y mo_s mo_flags mo_p mo_jammed mo_code mo_step mo_low mo_high mo_old mo_latest mo_cycles mo_stolen mo_interrupts mo_accesses f_mra f_mrA f_mrc f_mrk f_mpi f_mwc f_mwo f_mco f_mpo f_mky f_mla f_mcn f_mct)) hD hS hA [0, 1, 2, 3, 4, 5, 6, 7, 8, 9, 10, 11, 12, 13] rfl
    refine va_calli (va_runV (As := [.int mo_p]) (rest := []) ⟨hx, hb, hml, hown, hts⟩ (mX7_read l dC dI q_mo q_mra q_mrA q_mrc q_mrk q_mpi q_mwc q_mwo q_mco q_mpo q_mky q_mla q_mcn q_mct k_mra k_mrA k_mrc k_mrk k_mpi k_mwc k_mwo k_mco k_mpo k_mky k_mla k_mcn k_mct s.heap.size mo_port mo_line mo_cycle mo_raised mo_idle mo_bad mo_glyph mo_fetched mo_rows mo_flags2 mo_enabled mo_a mo_x mo_y mo_s mo_flags mo_p mo_jammed mo_code mo_step mo_low mo_high mo_old mo_latest mo_cycles mo_stolen mo_interrupts mo_accesses f_mra f_mrA f_mrc f_mrk f_mpi f_mwc f_mwo f_mco f_mpo f_mky f_mla f_mcn f_mct mo_p (rg_nn hp)) (cwV 1 hts (ub_V kMX7_161 kYX7_read kSX7_read kIX7 kBX7_read) rfl rfl rfl (by decide +kernel) ⟨Nat.le_of_ble_eq_true rfl, Nat.le_of_ble_eq_true rfl⟩) ⟨fun a U g mk q => by obtain ⟨q0, q1, qP, qK, qD⟩ := q; exact ⟨q0, q1, qP, va_K.moved (u := U) (U := U.calling g mk a) (Vm.Alike.refl U.vm) qK, qD⟩, va_recv hKc hPc (ci := 7) (q0 := 0) rfl rfl, fun U hU hW => ⟨rfl, by rw [hU], by rw [hU]; exact hPc, va_K.moved hW.alike hKc, hDc.weaken (fun _ _ _ _ => trivial)⟩⟩ rfl rfl hl.1 rfl (lv_room (Nat.le_of_ble_eq_true rfl)) dX7_returnStep_13 ⟨(Nat.zero_le _), (Nat.zero_le _)⟩) hS (fun q _ h => hFc q h) hFc (fun r_13 u_13 t H locs ht hvm hw hB hz1 hk1 hS => ?_)
    obtain ⟨mo_flags2_13, mo_latest_13, mo_accesses_13⟩ := u_13
    obtain ⟨hP1, hK1, hD1⟩ := hB
    rw [ht] at hP1
    obtain ⟨hP, hD⟩ := vb_bk2 (wc := (wwX7 q_mo q_mra q_mrA q_mrc q_mrk q_mpi q_mwc q_mwo q_mco q_mpo q_mky q_mla q_mcn q_mct k_mra k_mrA k_mrc k_mrk k_mpi k_mwc k_mwo k_mco k_mpo k_mky k_mla k_mcn k_mct mo_port mo_line mo_cycle mo_raised mo_idle mo_bad mo_glyph mo_fetched mo_rows mo_flags2 mo_enabled mo_a mo_x mo_y mo_s mo_flags mo_p mo_jammed mo_code mo_step mo_low mo_high mo_old mo_latest mo_cycles mo_stolen mo_interrupts mo_accesses f_mra f_mrA f_mrc f_mrk f_mpi f_mwc f_mwo f_mco f_mpo f_mky f_mla f_mcn f_mct)) (ws' := (wwX7 q_mo q_mra q_mrA q_mrc q_mrk q_mpi q_mwc q_mwo q_mco q_mpo q_mky q_mla q_mcn q_mct k_mra k_mrA k_mrc k_mrk k_mpi k_mwc k_mwo k_mco k_mpo k_mky k_mla k_mcn k_mct mo_port mo_line mo_cycle mo_raised mo_idle mo_bad mo_glyph mo_fetched mo_rows mo_flags2_13 mo_enabled mo_a mo_x mo_y mo_s mo_flags mo_p mo_jammed mo_code mo_step mo_low mo_high mo_old mo_latest_13 mo_cycles mo_stolen mo_interrupts mo_accesses_13 f_mra f_mrA f_mrc f_mrk f_mpi f_mwc f_mwo f_mco f_mpo f_mky f_mla f_mcn f_mct)) hP hD hD1 [0, 1, 2, 3, 4, 5, 6, 7, 8, 9, 10, 11, 12, 13] [] rfl [q_mo, q_mra, q_mrA, q_mrc, q_mrk, q_mpi, q_mwc, q_mwo, q_mco, q_mpo, q_mky, q_mla, q_mcn, q_mct] rfl rfl ae_n rfl rfl hk1 hP1
    rw [← hw] at hF
    dsimp only at hF
    refine lv_pop hx hb dX7_returnStep_16 rfl ?_
    refine lv_aload_n hx hb dX7_returnStep_17 rfl (lv_at hl 0 rfl) ?_
    refine va_get (D := (dC, dI)) (ci := 7) (v := .int mo_step) (C := RX7) (T := TX7) (N := 41) hx hb hts hiX7 hown hK hP 0 rfl rfl 32 (by decide) (hts _ kFX7_148) (fun _ h9 => h9) rfl dX7_returnStep_18 ?_
    refine lv_iconst (v := 2) hx hb dX7_returnStep_21 (by decide) ?_
    refine lv_icmp_ne (tgt := 31) hx hb dX7_returnStep_22 (by decide) (fun c_22 => ?_) (fun c_22 => by exact absurd c_22 (by rw [c_5]; decide))
    refine lv_aload_n hx hb dX7_returnStep_31 rfl (lv_at hl 0 rfl) ?_
    refine va_get (D := (dC, dI)) (ci := 7) (v := .int mo_code) (C := RX7) (T := TX7) (N := 41) hx hb hts hiX7 hown hK hP 0 rfl rfl 31 (by decide) (hts _ kFX7_167) (fun _ h9 => h9) rfl dX7_returnStep_32 ?_
    refine lv_bipush (v := 64) hx hb dX7_returnStep_35 (by decide) ?_
    refine lv_icmp_ne (tgt := 61) hx hb dX7_returnStep_37 (by decide) (fun c_37 => ?_) (fun c_37 => ?_)
    · have hF := hF.trans (if_neg c_37)
      refine lv_aload_n hx hb dX7_returnStep_61 rfl (lv_at hl 0 rfl) ?_
      refine va_get (D := (dC, dI)) (ci := 7) (v := .int mo_code) (C := RX7) (T := TX7) (N := 41) hx hb hts hiX7 hown hK hP 0 rfl rfl 31 (by decide) (hts _ kFX7_167) (fun _ h9 => h9) rfl dX7_returnStep_62 ?_
      refine lv_bipush (v := 64) hx hb dX7_returnStep_65 (by decide) ?_
      refine lv_icmp_ne (tgt := 95) hx hb dX7_returnStep_67 (by decide) (fun c_67 => ?_) (fun c_67 => by exact absurd c_67 c_37)
      refine lv_aload_n hx hb dX7_returnStep_95 rfl (lv_at hl 0 rfl) ?_
      refine va_get (D := (dC, dI)) (ci := 7) (v := .int mo_code) (C := RX7) (T := TX7) (N := 41) hx hb hts hiX7 hown hK hP 0 rfl rfl 31 (by decide) (hts _ kFX7_167) (fun _ h9 => h9) rfl dX7_returnStep_96 ?_
      refine lv_bipush (v := 64) hx hb dX7_returnStep_99 (by decide) ?_
      refine lv_icmp_ne (tgt := 134) hx hb dX7_returnStep_101 (by decide) (fun c_101 => ?_) (fun c_101 => by exact absurd c_101 c_37)
      refine lv_aload_n hx hb dX7_returnStep_134 rfl (lv_at hl 0 rfl) ?_
      refine va_get (D := (dC, dI)) (ci := 7) (v := .int mo_code) (C := RX7) (T := TX7) (N := 41) hx hb hts hiX7 hown hK hP 0 rfl rfl 31 (by decide) (hts _ kFX7_167) (fun _ h9 => h9) rfl dX7_returnStep_135 ?_
      refine lv_bipush (v := 96) hx hb dX7_returnStep_138 (by decide) ?_
      refine lv_icmp_ne (tgt := 160) hx hb dX7_returnStep_140 (by decide) (fun c_140 => ?_) (fun c_140 => ?_)
      · have hF := hF.trans (if_neg c_140)
        refine lv_aload_n hx hb dX7_returnStep_160 rfl (lv_at hl 0 rfl) ?_
        refine va_get (D := (dC, dI)) (ci := 7) (v := .int mo_code) (C := RX7) (T := TX7) (N := 41) hx hb hts hiX7 hown hK hP 0 rfl rfl 31 (by decide) (hts _ kFX7_167) (fun _ h9 => h9) rfl dX7_returnStep_161 ?_
        refine lv_bipush (v := 96) hx hb dX7_returnStep_164 (by decide) ?_
        refine lv_icmp_ne (tgt := 195) hx hb dX7_returnStep_166 (by decide) (fun c_166 => ?_) (fun c_166 => by exact absurd c_166 c_140)
        refine lv_aload_n hx hb dX7_returnStep_195 rfl (lv_at hl 0 rfl) ?_
        refine va_get (D := (dC, dI)) (ci := 7) (v := .int mo_code) (C := RX7) (T := TX7) (N := 41) hx hb hts hiX7 hown hK hP 0 rfl rfl 31 (by decide) (hts _ kFX7_167) (fun _ h9 => h9) rfl dX7_returnStep_196 ?_
        refine lv_bipush (v := 96) hx hb dX7_returnStep_199 (by decide) ?_
        refine lv_icmp_ne (tgt := 217) hx hb dX7_returnStep_201 (by decide) (fun c_201 => ?_) (fun c_201 => by exact absurd c_201 c_140)
        exact W.vret hx hb hr (fun t ht hW => ⟨⟨(mo_flags2_13, mo_s, mo_flags, mo_p, mo_low, mo_latest_13, mo_accesses_13), rfl, hF.symm, by rw [ht]; exact hP, va_K.moved hW.alike hK, hD⟩, hS.F ht⟩) hS.2.2 dX7_returnStep_217
      · have hF := hF.trans (if_pos c_140)
        refine lv_aload_n hx hb dX7_returnStep_143 rfl (lv_at hl 0 rfl) ?_
        refine va_get (D := (dC, dI)) (ci := 7) (v := .int mo_step) (C := RX7) (T := TX7) (N := 41) hx hb hts hiX7 hown hK hP 0 rfl rfl 32 (by decide) (hts _ kFX7_148) (fun _ h9 => h9) rfl dX7_returnStep_144 ?_
        refine lv_iconst (v := 3) hx hb dX7_returnStep_147 (by decide) ?_
        refine lv_icmp_ne (tgt := 160) hx hb dX7_returnStep_148 (by decide) (fun c_148 => ?_) (fun c_148 => by exact absurd c_148 (by rw [c_5]; decide))
        refine lv_aload_n hx hb dX7_returnStep_160 rfl (lv_at hl 0 rfl) ?_
        refine va_get (D := (dC, dI)) (ci := 7) (v := .int mo_code) (C := RX7) (T := TX7) (N := 41) hx hb hts hiX7 hown hK hP 0 rfl rfl 31 (by decide) (hts _ kFX7_167) (fun _ h9 => h9) rfl dX7_returnStep_161 ?_
        refine lv_bipush (v := 96) hx hb dX7_returnStep_164 (by decide) ?_
        refine lv_icmp_ne (tgt := 195) hx hb dX7_returnStep_166 (by decide) (fun c_166 => by exact absurd c_140 c_166) (fun c_166 => ?_)
        refine lv_aload_n hx hb dX7_returnStep_169 rfl (lv_at hl 0 rfl) ?_
        refine va_get (D := (dC, dI)) (ci := 7) (v := .int mo_step) (C := RX7) (T := TX7) (N := 41) hx hb hts hiX7 hown hK hP 0 rfl rfl 32 (by decide) (hts _ kFX7_148) (fun _ h9 => h9) rfl dX7_returnStep_170 ?_
        refine lv_iconst (v := 4) hx hb dX7_returnStep_173 (by decide) ?_
        refine lv_icmp_ne (tgt := 195) hx hb dX7_returnStep_174 (by decide) (fun c_174 => ?_) (fun c_174 => by exact absurd c_174 (by rw [c_5]; decide))
        refine lv_aload_n hx hb dX7_returnStep_195 rfl (lv_at hl 0 rfl) ?_
        refine va_get (D := (dC, dI)) (ci := 7) (v := .int mo_code) (C := RX7) (T := TX7) (N := 41) hx hb hts hiX7 hown hK hP 0 rfl rfl 31 (by decide) (hts _ kFX7_167) (fun _ h9 => h9) rfl dX7_returnStep_196 ?_
        refine lv_bipush (v := 96) hx hb dX7_returnStep_199 (by decide) ?_
        refine lv_icmp_ne (tgt := 217) hx hb dX7_returnStep_201 (by decide) (fun c_201 => by exact absurd c_140 c_201) (fun c_201 => ?_)
        refine lv_aload_n hx hb dX7_returnStep_204 rfl (lv_at hl 0 rfl) ?_
        refine va_get (D := (dC, dI)) (ci := 7) (v := .int mo_step) (C := RX7) (T := TX7) (N := 41) hx hb hts hiX7 hown hK hP 0 rfl rfl 32 (by decide) (hts _ kFX7_148) (fun _ h9 => h9) rfl dX7_returnStep_205 ?_
        refine lv_iconst (v := 5) hx hb dX7_returnStep_208 (by decide) ?_
        refine lv_icmp_ne (tgt := 217) hx hb dX7_returnStep_209 (by decide) (fun c_209 => ?_) (fun c_209 => by exact absurd c_209 (by rw [c_5]; decide))
        exact W.vret hx hb hr (fun t ht hW => ⟨⟨(mo_flags2_13, mo_s, mo_flags, mo_p, mo_low, mo_latest_13, mo_accesses_13), rfl, hF.symm, by rw [ht]; exact hP, va_K.moved hW.alike hK, hD⟩, hS.F ht⟩) hS.2.2 dX7_returnStep_217
    · have hF := hF.trans (if_pos c_37)
      refine lv_aload_n hx hb dX7_returnStep_40 rfl (lv_at hl 0 rfl) ?_
      refine va_get (D := (dC, dI)) (ci := 7) (v := .int mo_step) (C := RX7) (T := TX7) (N := 41) hx hb hts hiX7 hown hK hP 0 rfl rfl 32 (by decide) (hts _ kFX7_148) (fun _ h9 => h9) rfl dX7_returnStep_41 ?_
      refine lv_iconst (v := 3) hx hb dX7_returnStep_44 (by decide) ?_
      refine lv_icmp_ne (tgt := 61) hx hb dX7_returnStep_45 (by decide) (fun c_45 => ?_) (fun c_45 => by exact absurd c_45 (by rw [c_5]; decide))
      refine lv_aload_n hx hb dX7_returnStep_61 rfl (lv_at hl 0 rfl) ?_
      refine va_get (D := (dC, dI)) (ci := 7) (v := .int mo_code) (C := RX7) (T := TX7) (N := 41) hx hb hts hiX7 hown hK hP 0 rfl rfl 31 (by decide) (hts _ kFX7_167) (fun _ h9 => h9) rfl dX7_returnStep_62 ?_
      refine lv_bipush (v := 64) hx hb dX7_returnStep_65 (by decide) ?_
      refine lv_icmp_ne (tgt := 95) hx hb dX7_returnStep_67 (by decide) (fun c_67 => by exact absurd c_37 c_67) (fun c_67 => ?_)
      refine lv_aload_n hx hb dX7_returnStep_70 rfl (lv_at hl 0 rfl) ?_
      refine va_get (D := (dC, dI)) (ci := 7) (v := .int mo_step) (C := RX7) (T := TX7) (N := 41) hx hb hts hiX7 hown hK hP 0 rfl rfl 32 (by decide) (hts _ kFX7_148) (fun _ h9 => h9) rfl dX7_returnStep_71 ?_
      refine lv_iconst (v := 4) hx hb dX7_returnStep_74 (by decide) ?_
      refine lv_icmp_ne (tgt := 95) hx hb dX7_returnStep_75 (by decide) (fun c_75 => ?_) (fun c_75 => by exact absurd c_75 (by rw [c_5]; decide))
      refine lv_aload_n hx hb dX7_returnStep_95 rfl (lv_at hl 0 rfl) ?_
      refine va_get (D := (dC, dI)) (ci := 7) (v := .int mo_code) (C := RX7) (T := TX7) (N := 41) hx hb hts hiX7 hown hK hP 0 rfl rfl 31 (by decide) (hts _ kFX7_167) (fun _ h9 => h9) rfl dX7_returnStep_96 ?_
      refine lv_bipush (v := 64) hx hb dX7_returnStep_99 (by decide) ?_
      refine lv_icmp_ne (tgt := 134) hx hb dX7_returnStep_101 (by decide) (fun c_101 => by exact absurd c_37 c_101) (fun c_101 => ?_)
      refine lv_aload_n hx hb dX7_returnStep_104 rfl (lv_at hl 0 rfl) ?_
      refine va_get (D := (dC, dI)) (ci := 7) (v := .int mo_step) (C := RX7) (T := TX7) (N := 41) hx hb hts hiX7 hown hK hP 0 rfl rfl 32 (by decide) (hts _ kFX7_148) (fun _ h9 => h9) rfl dX7_returnStep_105 ?_
      refine lv_iconst (v := 5) hx hb dX7_returnStep_108 (by decide) ?_
      refine lv_icmp_ne (tgt := 134) hx hb dX7_returnStep_109 (by decide) (fun c_109 => ?_) (fun c_109 => by exact absurd c_109 (by rw [c_5]; decide))
      refine lv_aload_n hx hb dX7_returnStep_134 rfl (lv_at hl 0 rfl) ?_
      refine va_get (D := (dC, dI)) (ci := 7) (v := .int mo_code) (C := RX7) (T := TX7) (N := 41) hx hb hts hiX7 hown hK hP 0 rfl rfl 31 (by decide) (hts _ kFX7_167) (fun _ h9 => h9) rfl dX7_returnStep_135 ?_
      refine lv_bipush (v := 96) hx hb dX7_returnStep_138 (by decide) ?_
      refine lv_icmp_ne (tgt := 160) hx hb dX7_returnStep_140 (by decide) (fun c_140 => ?_) (fun c_140 => by exact absurd c_140 (by rw [c_37]; decide))
      refine lv_aload_n hx hb dX7_returnStep_160 rfl (lv_at hl 0 rfl) ?_
      refine va_get (D := (dC, dI)) (ci := 7) (v := .int mo_code) (C := RX7) (T := TX7) (N := 41) hx hb hts hiX7 hown hK hP 0 rfl rfl 31 (by decide) (hts _ kFX7_167) (fun _ h9 => h9) rfl dX7_returnStep_161 ?_
      refine lv_bipush (v := 96) hx hb dX7_returnStep_164 (by decide) ?_
      refine lv_icmp_ne (tgt := 195) hx hb dX7_returnStep_166 (by decide) (fun c_166 => ?_) (fun c_166 => by exact absurd c_166 (by rw [c_37]; decide))
      refine lv_aload_n hx hb dX7_returnStep_195 rfl (lv_at hl 0 rfl) ?_
      refine va_get (D := (dC, dI)) (ci := 7) (v := .int mo_code) (C := RX7) (T := TX7) (N := 41) hx hb hts hiX7 hown hK hP 0 rfl rfl 31 (by decide) (hts _ kFX7_167) (fun _ h9 => h9) rfl dX7_returnStep_196 ?_
      refine lv_bipush (v := 96) hx hb dX7_returnStep_199 (by decide) ?_
      refine lv_icmp_ne (tgt := 217) hx hb dX7_returnStep_201 (by decide) (fun c_201 => ?_) (fun c_201 => by exact absurd c_201 (by rw [c_37]; decide))
      exact W.vret hx hb hr (fun t ht hW => ⟨⟨(mo_flags2_13, mo_s, mo_flags, mo_p, mo_low, mo_latest_13, mo_accesses_13), rfl, hF.symm, by rw [ht]; exact hP, va_K.moved hW.alike hK, hD⟩, hS.F ht⟩) hS.2.2 dX7_returnStep_217
