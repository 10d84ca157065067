def fX7_plainStep (mo_port : Int32) (mo_line : Int32) (mo_raised : Int32) (mo_rows : Int32) (mo_flags2 : Int32) (mo_enabled : Int32) (mo_a : Int32) (mo_x : Int32) (mo_y : Int32) (mo_flags : Int32) (mo_p : Int32) (mo_code : Int32) (mo_accesses : Int32) (f_mra : Nat → Int32) (f_mrA : Nat → Int32) (f_mrc : Nat → Int32) (f_mrk : Nat → Int32) (f_mpi : Nat → Int32) (f_mco : Nat → Int32) (f_mky : Nat → Int32) (f_mcn : Nat → Int32) (f_mct : Nat → Int32) : Int32 × Int32 × Int32 × Int32 × Int32 × Int32 × Int32 × Int32 :=
  match (fX7_read mo_p mo_port mo_line mo_raised mo_rows mo_flags2 mo_enabled mo_accesses f_mra f_mrA f_mrc f_mrk f_mpi f_mco f_mky f_mcn f_mct) with
  | (r_5, mo_flags2_5, mo_latest_5, mo_accesses_5) =>
   if mo_code = (24:Int32) then
    (mo_flags2_5, mo_a, mo_x, mo_y, (fX7_put (1:Int32) (0:Int32) mo_flags), (0:Int32), mo_latest_5, mo_accesses_5)
   else
    if mo_code = (56:Int32) then
     (mo_flags2_5, mo_a, mo_x, mo_y, (fX7_put (1:Int32) (1:Int32) mo_flags), (0:Int32), mo_latest_5, mo_accesses_5)
    else
     if mo_code = (88:Int32) then
      (mo_flags2_5, mo_a, mo_x, mo_y, (fX7_put (4:Int32) (0:Int32) mo_flags), (0:Int32), mo_latest_5, mo_accesses_5)
     else
      if mo_code = (120:Int32) then
       (mo_flags2_5, mo_a, mo_x, mo_y, (fX7_put (4:Int32) (1:Int32) mo_flags), (0:Int32), mo_latest_5, mo_accesses_5)
      else
       if mo_code = (216:Int32) then
        (mo_flags2_5, mo_a, mo_x, mo_y, (fX7_put (8:Int32) (0:Int32) mo_flags), (0:Int32), mo_latest_5, mo_accesses_5)
       else
        if mo_code = (248:Int32) then
         (mo_flags2_5, mo_a, mo_x, mo_y, (fX7_put (8:Int32) (1:Int32) mo_flags), (0:Int32), mo_latest_5, mo_accesses_5)
        else
         if mo_code = (170:Int32) then
          match (fX7_judged mo_a mo_flags) with
          | (r_120, mo_flags_120) =>
           (mo_flags2_5, mo_a, r_120, mo_y, mo_flags_120, (0:Int32), mo_latest_5, mo_accesses_5)
         else
          if mo_code = (138:Int32) then
           match (fX7_judged mo_x mo_flags) with
           | (r_139, mo_flags_139) =>
            (mo_flags2_5, r_139, mo_x, mo_y, mo_flags_139, (0:Int32), mo_latest_5, mo_accesses_5)
          else
           if mo_code = (168:Int32) then
            match (fX7_judged mo_a mo_flags) with
            | (r_158, mo_flags_158) =>
             (mo_flags2_5, mo_a, mo_x, r_158, mo_flags_158, (0:Int32), mo_latest_5, mo_accesses_5)
           else
            if mo_code = (152:Int32) then
             match (fX7_judged mo_y mo_flags) with
             | (r_177, mo_flags_177) =>
              (mo_flags2_5, r_177, mo_x, mo_y, mo_flags_177, (0:Int32), mo_latest_5, mo_accesses_5)
            else
             if mo_code = (232:Int32) then
              match (fX7_judged ((mo_x + (1:Int32)) &&& (255:Int32)) mo_flags) with
              | (r_202, mo_flags_202) =>
               (mo_flags2_5, mo_a, r_202, mo_y, mo_flags_202, (0:Int32), mo_latest_5, mo_accesses_5)
             else
              if mo_code = (200:Int32) then
               match (fX7_judged ((mo_y + (1:Int32)) &&& (255:Int32)) mo_flags) with
               | (r_227, mo_flags_227) =>
                (mo_flags2_5, mo_a, mo_x, r_227, mo_flags_227, (0:Int32), mo_latest_5, mo_accesses_5)
              else
               if mo_code = (202:Int32) then
                match (fX7_judged ((mo_x + (255:Int32)) &&& (255:Int32)) mo_flags) with
                | (r_254, mo_flags_254) =>
                 (mo_flags2_5, mo_a, r_254, mo_y, mo_flags_254, (0:Int32), mo_latest_5, mo_accesses_5)
               else
                if mo_code = (136:Int32) then
                 match (fX7_judged ((mo_y + (255:Int32)) &&& (255:Int32)) mo_flags) with
                 | (r_281, mo_flags_281) =>
                  (mo_flags2_5, mo_a, mo_x, r_281, mo_flags_281, (0:Int32), mo_latest_5, mo_accesses_5)
                else
                 if mo_code = (10:Int32) then
                  match (fX7_judged (((2:Int32) * mo_a) &&& (255:Int32)) mo_flags) with
                  | (r_344, mo_flags_344) =>
                   (mo_flags2_5, r_344, mo_x, mo_y, (fX7_put (1:Int32) (if mo_code = (10:Int32) then (if mo_a ≤ (127:Int32) then (0:Int32) else (1:Int32)) else (if (mo_a &&& (1:Int32)) = (1:Int32) then (1:Int32) else (0:Int32))) mo_flags_344), (0:Int32), mo_latest_5, mo_accesses_5)
                 else
                  if mo_code = (74:Int32) then
                   match (fX7_judged (mo_a / (2:Int32)) mo_flags) with
                   | (r_364, mo_flags_364) =>
                    (mo_flags2_5, r_364, mo_x, mo_y, (fX7_put (1:Int32) (if mo_code = (10:Int32) then (if mo_a ≤ (127:Int32) then (0:Int32) else (1:Int32)) else (if (mo_a &&& (1:Int32)) = (1:Int32) then (1:Int32) else (0:Int32))) mo_flags_364), (0:Int32), mo_latest_5, mo_accesses_5)
                  else
                   (mo_flags2_5, mo_a, mo_x, mo_y, mo_flags, (0:Int32), mo_latest_5, mo_accesses_5)
set_option maxHeartbeats 4000000 in
set_option maxRecDepth 100000 in
theorem mX7_plainStep (l : Launch) (dC : Nat → ClassId) (dI : Nat → Nat → Nat) (q_mo q_mra q_mrA q_mrc q_mrk q_mpi q_mwc q_mwo q_mco q_mpo q_mky q_mla q_mcn q_mct : Nat) (k_mra k_mrA k_mrc k_mrk k_mpi k_mwc k_mwo k_mco k_mpo k_mky k_mla k_mcn k_mct : ClassId) (sz : Nat) (mo_port mo_line mo_cycle mo_raised mo_idle mo_bad mo_glyph mo_fetched mo_rows mo_flags2 mo_enabled mo_a mo_x mo_y mo_s mo_flags mo_p mo_jammed mo_code mo_step mo_low mo_high mo_old mo_latest mo_cycles mo_stolen mo_interrupts mo_accesses : Int32) (f_mra f_mrA f_mrc f_mrk f_mpi f_mwc f_mwo f_mco f_mpo f_mky f_mla f_mcn f_mct : Nat → Int32) (hp : vp_in mo_p 65536) : Met l yX7_plainStep uX7_plainStep ({ frames := 4, cells := 0, slots := 0, locals := 89 }) (va_Pc [.ref q_mo] (fun U => U.heap.size = sz ∧ va_P (dC, dI) vwCl (wwX7 q_mo q_mra q_mrA q_mrc q_mrk q_mpi q_mwc q_mwo q_mco q_mpo q_mky q_mla q_mcn q_mct k_mra k_mrA k_mrc k_mrk k_mpi k_mwc k_mwo k_mco k_mpo k_mky k_mla k_mcn k_mct mo_port mo_line mo_cycle mo_raised mo_idle mo_bad mo_glyph mo_fetched mo_rows mo_flags2 mo_enabled mo_a mo_x mo_y mo_s mo_flags mo_p mo_jammed mo_code mo_step mo_low mo_high mo_old mo_latest mo_cycles mo_stolen mo_interrupts mo_accesses f_mra f_mrA f_mrc f_mrk f_mpi f_mwc f_mwo f_mco f_mpo f_mky f_mla f_mcn f_mct) U.heap ∧ va_K (dC, dI) vwCl [(k_mra, .int), (k_mrA, .int), (k_mrc, .int), (k_mrk, .int), (k_mpi, .int), (k_mwc, .int), (k_mwo, .int), (k_mco, .int), (k_mpo, .int), (k_mky, .int), (k_mla, .int), (k_mcn, .int), (k_mct, .int)] U ∧ va_D (fun _ => True) (wwX7 q_mo q_mra q_mrA q_mrc q_mrk q_mpi q_mwc q_mwo q_mco q_mpo q_mky q_mla q_mcn q_mct k_mra k_mrA k_mrc k_mrk k_mpi k_mwc k_mwo k_mco k_mpo k_mky k_mla k_mcn k_mct mo_port mo_line mo_cycle mo_raised mo_idle mo_bad mo_glyph mo_fetched mo_rows mo_flags2 mo_enabled mo_a mo_x mo_y mo_s mo_flags mo_p mo_jammed mo_code mo_step mo_low mo_high mo_old mo_latest mo_cycles mo_stolen mo_interrupts mo_accesses f_mra f_mrA f_mrc f_mrk f_mpi f_mwc f_mwo f_mco f_mpo f_mky f_mla f_mcn f_mct))) (va_Qv (fun (u : Int32 × Int32 × Int32 × Int32 × Int32 × Int32 × Int32 × Int32) => u = fX7_plainStep mo_port mo_line mo_raised mo_rows mo_flags2 mo_enabled mo_a mo_x mo_y mo_flags mo_p mo_code mo_accesses f_mra f_mrA f_mrc f_mrk f_mpi f_mco f_mky f_mcn f_mct) (fun (u : Int32 × Int32 × Int32 × Int32 × Int32 × Int32 × Int32 × Int32) (t : State) => va_P (dC, dI) vwCl (wwX7 q_mo q_mra q_mrA q_mrc q_mrk q_mpi q_mwc q_mwo q_mco q_mpo q_mky q_mla q_mcn q_mct k_mra k_mrA k_mrc k_mrk k_mpi k_mwc k_mwo k_mco k_mpo k_mky k_mla k_mcn k_mct mo_port mo_line mo_cycle mo_raised mo_idle mo_bad mo_glyph mo_fetched mo_rows u.1 mo_enabled u.2.1 u.2.2.1 u.2.2.2.1 mo_s u.2.2.2.2.1 mo_p mo_jammed mo_code u.2.2.2.2.2.1 mo_low mo_high mo_old u.2.2.2.2.2.2.1 mo_cycles mo_stolen mo_interrupts u.2.2.2.2.2.2.2 f_mra f_mrA f_mrc f_mrk f_mpi f_mwc f_mwo f_mco f_mpo f_mky f_mla f_mcn f_mct) t.heap ∧ va_K (dC, dI) vwCl [(k_mra, .int), (k_mrA, .int), (k_mrc, .int), (k_mrk, .int), (k_mpi, .int), (k_mwc, .int), (k_mwo, .int), (k_mco, .int), (k_mpo, .int), (k_mky, .int), (k_mla, .int), (k_mcn, .int), (k_mct, .int)] t ∧ va_D (va_A (wwX7 q_mo q_mra q_mrA q_mrc q_mrk q_mpi q_mwc q_mwo q_mco q_mpo q_mky q_mla q_mcn q_mct k_mra k_mrA k_mrc k_mrk k_mpi k_mwc k_mwo k_mco k_mpo k_mky k_mla k_mcn k_mct mo_port mo_line mo_cycle mo_raised mo_idle mo_bad mo_glyph mo_fetched mo_rows mo_flags2 mo_enabled mo_a mo_x mo_y mo_s mo_flags mo_p mo_jammed mo_code mo_step mo_low mo_high mo_old mo_latest mo_cycles mo_stolen mo_interrupts mo_accesses f_mra f_mrA f_mrc f_mrk f_mpi f_mwc f_mwo f_mco f_mpo f_mky f_mla f_mcn f_mct) sz) (wwX7 q_mo q_mra q_mrA q_mrc q_mrk q_mpi q_mwc q_mwo q_mco q_mpo q_mky q_mla q_mcn q_mct k_mra k_mrA k_mrc k_mrk k_mpi k_mwc k_mwo k_mco k_mpo k_mky k_mla k_mcn k_mct mo_port mo_line mo_cycle mo_raised mo_idle mo_bad mo_glyph mo_fetched mo_rows u.1 mo_enabled u.2.1 u.2.2.1 u.2.2.2.1 mo_s u.2.2.2.2.1 mo_p mo_jammed mo_code u.2.2.2.2.2.1 mo_low mo_high mo_old u.2.2.2.2.2.2.1 mo_cycles mo_stolen mo_interrupts u.2.2.2.2.2.2.2 f_mra f_mrA f_mrc f_mrk f_mpi f_mwc f_mwo f_mco f_mpo f_mky f_mla f_mcn f_mct)) (va_A (wwX7 q_mo q_mra q_mrA q_mrc q_mrk q_mpi q_mwc q_mwo q_mco q_mpo q_mky q_mla q_mcn q_mct k_mra k_mrA k_mrc k_mrk k_mpi k_mwc k_mwo k_mco k_mpo k_mky k_mla k_mcn k_mct mo_port mo_line mo_cycle mo_raised mo_idle mo_bad mo_glyph mo_fetched mo_rows mo_flags2 mo_enabled mo_a mo_x mo_y mo_s mo_flags mo_p mo_jammed mo_code mo_step mo_low mo_high mo_old mo_latest mo_cycles mo_stolen mo_interrupts mo_accesses f_mra f_mrA f_mrc f_mrk f_mpi f_mwc f_mwo f_mco f_mpo f_mky f_mla f_mcn f_mct) sz)) 0 0 (va_A (wwX7 q_mo q_mra q_mrA q_mrc q_mrk q_mpi q_mwc q_mwo q_mco q_mpo q_mky q_mla q_mcn q_mct k_mra k_mrA k_mrc k_mrk k_mpi k_mwc k_mwo k_mco k_mpo k_mky k_mla k_mcn k_mct mo_port mo_line mo_cycle mo_raised mo_idle mo_bad mo_glyph mo_fetched mo_rows mo_flags2 mo_enabled mo_a mo_x mo_y mo_s mo_flags mo_p mo_jammed mo_code mo_step mo_low mo_high mo_old mo_latest mo_cycles mo_stolen mo_interrupts mo_accesses f_mra f_mrA f_mrc f_mrk f_mpi f_mwc f_mwo f_mco f_mpo f_mky f_mla f_mcn f_mct) sz) := by
  refine Met.ofW (cc := cX7_plainStep) (maxL := 3) (ret := none) (by decide) rfl ?_
  intro p e s m args below meth c s₁ B hml hv
  obtain ⟨rfl, hsz, hP, hK, hD0⟩ := hv
  have hx := B.exec
  have hb := B.bytes
  have hr := B.returns
  have hts : ∀ w ∈ ub, w.before _ s = true := fun w h => atoms_spec (ws := uX7_plainStep) B.pre w (List.mem_cons_of_mem _ h)
  have hown : s.vm.findClass RX7 = some m.cls := findClass_of_methodNamed B.named
  have hlocks := B.notSynchronized
  subst hsz
  have hD := hD0.self (sz := s.heap.size)
  generalize hAe : va_A (wwX7 q_mo q_mra q_mrA q_mrc q_mrk q_mpi q_mwc q_mwo q_mco q_mpo q_mky q_mla q_mcn q_mct k_mra k_mrA k_mrc k_mrk k_mpi k_mwc k_mwo k_mco k_mpo k_mky k_mla k_mcn k_mct mo_port mo_line mo_cycle mo_raised mo_idle mo_bad mo_glyph mo_fetched mo_rows mo_flags2 mo_enabled mo_a mo_x mo_y mo_s mo_flags mo_p mo_jammed mo_code mo_step mo_low mo_high mo_old mo_latest mo_cycles mo_stolen mo_interrupts mo_accesses f_mra f_mrA f_mrc f_mrk f_mpi f_mwc f_mwo f_mco f_mpo f_mky f_mla f_mcn f_mct) s.heap.size = A at hD ⊢
  have hA : ∀ q : Nat, s.heap.size ≤ q → A q := fun q h => by rw [← hAe]; exact Or.inr h
  have hS : va_S A s.heap s.heap [] := va_S.rf
  have hl := lv_entry ([.ref q_mo]) (n := 3) (Nat.le_of_ble_eq_true rfl)
  rw [lg_entry_eq]
  generalize (lg_sl ([.ref q_mo]) ++ List.replicate (3 - (lg_sl ([.ref q_mo])).length) Slot.unset).toArray = ls at hl ⊢
  have hl : lv_has ls 3 [(0, .ref q_mo)] := hl
  have hF := fX7_plainStep.eq_1 mo_port mo_line mo_raised mo_rows mo_flags2 mo_enabled mo_a mo_x mo_y mo_flags mo_p mo_code mo_accesses f_mra f_mrA f_mrc f_mrk f_mpi f_mco f_mky f_mcn f_mct
  refine lv_aload_n hx hb dX7_plainStep_0 rfl (lv_at hl 0 rfl) ?_
  refine lv_aload_n hx hb dX7_plainStep_1 rfl (lv_at hl 0 rfl) ?_
  refine va_get (D := (dC, dI)) (ci := 7) (v := .int mo_p) (C := RX7) (T := TX7) (N := 41) hx hb hts hiX7 hown hK hP 0 rfl rfl 29 (by decide) (hts _ kFX7_145) (fun _ h9 => h9) rfl dX7_plainStep_2 ?_
  have hPc := hP.sub (ws' := (wwX7 q_mo q_mra q_mrA q_mrc q_mrk q_mpi q_mwc q_mwo q_mco q_mpo q_mky q_mla q_mcn q_mct k_mra k_mrA k_mrc k_mrk k_mpi k_mwc k_mwo k_mco k_mpo k_mky k_mla k_mcn k_mct mo_port mo_line mo_cycle mo_raised mo_idle mo_bad mo_glyph mo_fetched mo_rows mo_flags2 mo_enabled mo_a mo_x mo_y mo_s mo_flags mo_p mo_jammed mo_code mo_step mo_low mo_high mo_old mo_latest mo_cycles mo_stolen mo_interrupts mo_accesses f_mra f_mrA f_mrc f_mrk f_mpi f_mwc f_mwo f_mco f_mpo f_mky f_mla f_mcn f_mct)) [0, 1, 2, 3, 4, 5, 6, 7, 8, 9, 10, 11, 12, 13] rfl
  have hDc := hD.sub (ws' := (wwX7 q_mo q_mra q_mrA q_mrc q_mrk q_mpi q_mwc q_mwo q_mco q_mpo q_mky q_mla q_mcn q_mct k_mra k_mrA k_mrc k_mrk k_mpi k_mwc k_mwo k_mco k_mpo k_mky k_mla k_mcn k_mct mo_port mo_line mo_cycle mo_raised mo_idle mo_bad mo_glyph mo_fetched mo_rows mo_flags2 mo_enabled mo_a mo_x mo_y mo_s mo_flags mo_p mo_jammed mo_code mo_step mo_low mo_high mo_old mo_latest mo_cycles mo_stolen mo_interrupts mo_accesses f_mra f_mrA f_mrc f_mrk f_mpi f_mwc f_mwo f_mco f_mpo f_mky f_mla f_mcn f_mct)) [0, 1, 2, 3, 4, 5, 6, 7, 8, 9, 10, 11, 12, 13] (by decide) rfl
  have hKc := hK.sub (tys' := [(k_mra, .int), (k_mrA, .int), (k_mrc, .int), (k_mrk, .int), (k_mpi, .int), (k_mwc, .int), (k_mwo, .int), (k_mco, .int), (k_mpo, .int), (k_mky, .int), (k_mla, .int), (k_mcn, .int), (k_mct, .int)]) [0, 1, 2, 3, 4, 5, 6, 7, 8, 9, 10, 11, 12] rfl
  have hFc := va_free (wc := (wwX7 q_mo q_mra q_mrA q_mrc q_mrk q_mpi q_mwc q_mwo q_mco q_mpo q_mky q_mla q_mcn q_mct k_mra k_mrA k_mrc k_mrk k_mpi k_mwc k_mwo k_mco k_mpo k_mky k_mla k_mcn k_mct mo_port mo_line mo_cycle mo_raised mo_idle mo_bad mo_glyph mo_fetched mo_rows mo_flags2 mo_enabled mo_a mo_x mo_y mo_s mo_flags mo_p mo_jammed mo_code mo_step mo_low mo_high mo_old mo_latest mo_cycles mo_stolen mo_interrupts mo_accesses f_mra f_mrA f_mrc f_mrk f_mpi f_mwc f_mwo f_mco f_mpo f_mky f_mla f_mcn f_mct)) hD hS hA [0, 1, 2, 3, 4, 5, 6, 7, 8, 9, 10, 11, 12, 13] rfl
  refine va_calli (va_runV (As := [.int mo_p]) (rest := []) ⟨hx, hb, hml, hown, hts⟩ (mX7_read l dC dI q_mo q_mra q_mrA q_mrc q_mrk q_mpi q_mwc q_mwo q_mco q_mpo q_mky q_mla q_mcn q_mct k_mra k_mrA k_mrc k_mrk k_mpi k_mwc k_mwo k_mco k_mpo k_mky k_mla k_mcn k_mct s.heap.size mo_port mo_line mo_cycle mo_raised mo_idle mo_bad mo_glyph mo_fetched mo_rows mo_flags2 mo_enabled mo_a mo_x mo_y mo_s mo_flags mo_p mo_jammed mo_code mo_step mo_low mo_high mo_old mo_latest mo_cycles mo_stolen mo_interrupts mo_accesses f_mra f_mrA f_mrc f_mrk f_mpi f_mwc f_mwo f_mco f_mpo f_mky f_mla f_mcn f_mct mo_p (rg_nn hp)) (cwV 1 hts (ub_V kMX7_161 kYX7_read kSX7_read kIX7 kBX7_read) rfl rfl rfl (by decide +kernel) ⟨Nat.le_of_ble_eq_true rfl, Nat.le_of_ble_eq_true rfl⟩) ⟨fun a U g mk q => by obtain ⟨q0, q1, qP, qK, qD⟩ := q; exact ⟨q0, q1, qP, va_K.moved (u := U) (U := U.calling g mk a) (Vm.Alike.refl U.vm) qK, qD⟩, va_recv hKc hPc (ci := 7) (q0 := 0) rfl rfl, fun U hU hW => ⟨rfl, by rw [hU], by rw [hU]; exact hPc, va_K.moved hW.alike hKc, hDc.weaken (fun _ _ _ _ => trivial)⟩⟩ rfl rfl hl.1 rfl (lv_room (Nat.le_of_ble_eq_true rfl)) dX7_plainStep_5 ⟨(Nat.zero_le _), (Nat.zero_le _)⟩) hS (fun q _ h => hFc q h) hFc (fun r_5 u_5 t H locs ht hvm hw hB hz1 hk1 hS => ?_)
  obtain ⟨mo_flags2_5, mo_latest_5, mo_accesses_5⟩ := u_5
  obtain ⟨hP1, hK1, hD1⟩ := hB
  rw [ht] at hP1
  obtain ⟨hP, hD⟩ := vb_bk2 (wc := (wwX7 q_mo q_mra q_mrA q_mrc q_mrk q_mpi q_mwc q_mwo q_mco q_mpo q_mky q_mla q_mcn q_mct k_mra k_mrA k_mrc k_mrk k_mpi k_mwc k_mwo k_mco k_mpo k_mky k_mla k_mcn k_mct mo_port mo_line mo_cycle mo_raised mo_idle mo_bad mo_glyph mo_fetched mo_rows mo_flags2 mo_enabled mo_a mo_x mo_y mo_s mo_flags mo_p mo_jammed mo_code mo_step mo_low mo_high mo_old mo_latest mo_cycles mo_stolen mo_interrupts mo_accesses f_mra f_mrA f_mrc f_mrk f_mpi f_mwc f_mwo f_mco f_mpo f_mky f_mla f_mcn f_mct)) (ws' := (wwX7 q_mo q_mra q_mrA q_mrc q_mrk q_mpi q_mwc q_mwo q_mco q_mpo q_mky q_mla q_mcn q_mct k_mra k_mrA k_mrc k_mrk k_mpi k_mwc k_mwo k_mco k_mpo k_mky k_mla k_mcn k_mct mo_port mo_line mo_cycle mo_raised mo_idle mo_bad mo_glyph mo_fetched mo_rows mo_flags2_5 mo_enabled mo_a mo_x mo_y mo_s mo_flags mo_p mo_jammed mo_code mo_step mo_low mo_high mo_old mo_latest_5 mo_cycles mo_stolen mo_interrupts mo_accesses_5 f_mra f_mrA f_mrc f_mrk f_mpi f_mwc f_mwo f_mco f_mpo f_mky f_mla f_mcn f_mct)) hP hD hD1 [0, 1, 2, 3, 4, 5, 6, 7, 8, 9, 10, 11, 12, 13] [] rfl [q_mo, q_mra, q_mrA, q_mrc, q_mrk, q_mpi, q_mwc, q_mwo, q_mco, q_mpo, q_mky, q_mla, q_mcn, q_mct] rfl rfl ae_n rfl rfl hk1 hP1
  rw [← hw] at hF
  dsimp only at hF
  refine lv_pop hx hb dX7_plainStep_8 rfl ?_
  refine lv_aload_n hx hb dX7_plainStep_9 rfl (lv_at hl 0 rfl) ?_
  refine lv_iconst (v := 0) hx hb dX7_plainStep_10 (by decide) ?_
  refine va_put (D := (dC, dI)) (ci := 7) (v := .int (0:Int32)) (ty := .int) (C := RX7) (T := TX7) (N := 41) hx hb hts hiX7 tyX7 tyX7_ok nmX7 hown hK hP hD hS 0 rfl rfl 32 (by decide) (hts _ kFX7_148) (fun _ h9 => h9) rfl (by decide +kernel) rfl rfl (Nat.le_of_ble_eq_true rfl) dX7_plainStep_11 (fun H locs hP hD hS => ?_)
  have hP : va_P (dC, dI) vwCl (wwX7 q_mo q_mra q_mrA q_mrc q_mrk q_mpi q_mwc q_mwo q_mco q_mpo q_mky q_mla q_mcn q_mct k_mra k_mrA k_mrc k_mrk k_mpi k_mwc k_mwo k_mco k_mpo k_mky k_mla k_mcn k_mct mo_port mo_line mo_cycle mo_raised mo_idle mo_bad mo_glyph mo_fetched mo_rows mo_flags2_5 mo_enabled mo_a mo_x mo_y mo_s mo_flags mo_p mo_jammed mo_code (0:Int32) mo_low mo_high mo_old mo_latest_5 mo_cycles mo_stolen mo_interrupts mo_accesses_5 f_mra f_mrA f_mrc f_mrk f_mpi f_mwc f_mwo f_mco f_mpo f_mky f_mla f_mcn f_mct) H := hP
  have hD : va_D A (wwX7 q_mo q_mra q_mrA q_mrc q_mrk q_mpi q_mwc q_mwo q_mco q_mpo q_mky q_mla q_mcn q_mct k_mra k_mrA k_mrc k_mrk k_mpi k_mwc k_mwo k_mco k_mpo k_mky k_mla k_mcn k_mct mo_port mo_line mo_cycle mo_raised mo_idle mo_bad mo_glyph mo_fetched mo_rows mo_flags2_5 mo_enabled mo_a mo_x mo_y mo_s mo_flags mo_p mo_jammed mo_code (0:Int32) mo_low mo_high mo_old mo_latest_5 mo_cycles mo_stolen mo_interrupts mo_accesses_5 f_mra f_mrA f_mrc f_mrk f_mpi f_mwc f_mwo f_mco f_mpo f_mky f_mla f_mcn f_mct) := hD
  refine lv_aload_n hx hb dX7_plainStep_14 rfl (lv_at hl 0 rfl) ?_
  refine va_get (D := (dC, dI)) (ci := 7) (v := .int mo_code) (C := RX7) (T := TX7) (N := 41) hx hb hts hiX7 hown hK hP 0 rfl rfl 31 (by decide) (hts _ kFX7_167) (fun _ h9 => h9) rfl dX7_plainStep_15 ?_
  refine lv_istore_n (lv' := [(1, .int mo_code), (0, .ref q_mo)]) hx hb dX7_plainStep_18 rfl hl (by decide) rfl (fun ls hl => ?_)
  refine lv_iload_n hx hb dX7_plainStep_19 rfl (lv_at hl 0 rfl) ?_
  refine lv_bipush (v := 24) hx hb dX7_plainStep_20 (by decide) ?_
  refine lv_icmp_eq (tgt := 31) hx hb dX7_plainStep_22 (by decide) (fun c_22 => ?_) (fun c_22 => ?_)
  · have hF := hF.trans (if_pos c_22)
    refine lv_aload_n hx hb dX7_plainStep_31 rfl (lv_at hl 1 rfl) ?_
    refine lv_iconst (v := 1) hx hb dX7_plainStep_32 (by decide) ?_
    refine lv_iload_n hx hb dX7_plainStep_33 rfl (lv_at hl 0 rfl) ?_
    refine lv_bipush (v := 56) hx hb dX7_plainStep_34 (by decide) ?_
    refine lv_icmp_ne (tgt := 43) hx hb dX7_plainStep_36 (by decide) (fun c_36 => ?_) (fun c_36 => by exact absurd c_36 (by rw [c_22]; decide))
    refine lv_iconst (v := 0) hx hb dX7_plainStep_43 (by decide) ?_
    have hPc := hP.sub (ws' := (wwX7 q_mo q_mra q_mrA q_mrc q_mrk q_mpi q_mwc q_mwo q_mco q_mpo q_mky q_mla q_mcn q_mct k_mra k_mrA k_mrc k_mrk k_mpi k_mwc k_mwo k_mco k_mpo k_mky k_mla k_mcn k_mct mo_port mo_line mo_cycle mo_raised mo_idle mo_bad mo_glyph mo_fetched mo_rows mo_flags2_5 mo_enabled mo_a mo_x mo_y mo_s mo_flags mo_p mo_jammed mo_code (0:Int32) mo_low mo_high mo_old mo_latest_5 mo_cycles mo_stolen mo_interrupts mo_accesses_5 f_mra f_mrA f_mrc f_mrk f_mpi f_mwc f_mwo f_mco f_mpo f_mky f_mla f_mcn f_mct)) [0, 1, 2, 3, 4, 5, 6, 7, 8, 9, 10, 11, 12, 13] rfl
    have hDc := hD.sub (ws' := (wwX7 q_mo q_mra q_mrA q_mrc q_mrk q_mpi q_mwc q_mwo q_mco q_mpo q_mky q_mla q_mcn q_mct k_mra k_mrA k_mrc k_mrk k_mpi k_mwc k_mwo k_mco k_mpo k_mky k_mla k_mcn k_mct mo_port mo_line mo_cycle mo_raised mo_idle mo_bad mo_glyph mo_fetched mo_rows mo_flags2_5 mo_enabled mo_a mo_x mo_y mo_s mo_flags mo_p mo_jammed mo_code (0:Int32) mo_low mo_high mo_old mo_latest_5 mo_cycles mo_stolen mo_interrupts mo_accesses_5 f_mra f_mrA f_mrc f_mrk f_mpi f_mwc f_mwo f_mco f_mpo f_mky f_mla f_mcn f_mct)) [0, 1, 2, 3, 4, 5, 6, 7, 8, 9, 10, 11, 12, 13] (by decide) rfl
    have hKc := hK.sub (tys' := [(k_mra, .int), (k_mrA, .int), (k_mrc, .int), (k_mrk, .int), (k_mpi, .int), (k_mwc, .int), (k_mwo, .int), (k_mco, .int), (k_mpo, .int), (k_mky, .int), (k_mla, .int), (k_mcn, .int), (k_mct, .int)]) [0, 1, 2, 3, 4, 5, 6, 7, 8, 9, 10, 11, 12] rfl
    have hFc := va_free (wc := (wwX7 q_mo q_mra q_mrA q_mrc q_mrk q_mpi q_mwc q_mwo q_mco q_mpo q_mky q_mla q_mcn q_mct k_mra k_mrA k_mrc k_mrk k_mpi k_mwc k_mwo k_mco k_mpo k_mky k_mla k_mcn k_mct mo_port mo_line mo_cycle mo_raised mo_idle mo_bad mo_glyph mo_fetched mo_rows mo_flags2_5 mo_enabled mo_a mo_x mo_y mo_s mo_flags mo_p mo_jammed mo_code (0:Int32) mo_low mo_high mo_old mo_latest_5 mo_cycles mo_stolen mo_interrupts mo_accesses_5 f_mra f_mrA f_mrc f_mrk f_mpi f_mwc f_mwo f_mco f_mpo f_mky f_mla f_mcn f_mct)) hD hS hA [0, 1, 2, 3, 4, 5, 6, 7, 8, 9, 10, 11, 12, 13] rfl
    refine va_callv (va_runV (As := [.int (1:Int32), .int (0:Int32)]) (rest := []) ⟨hx, hb, hml, hown, hts⟩ (mX7_put l dC dI q_mo q_mra q_mrA q_mrc q_mrk q_mpi q_mwc q_mwo q_mco q_mpo q_mky q_mla q_mcn q_mct k_mra k_mrA k_mrc k_mrk k_mpi k_mwc k_mwo k_mco k_mpo k_mky k_mla k_mcn k_mct H.size mo_port mo_line mo_cycle mo_raised mo_idle mo_bad mo_glyph mo_fetched mo_rows mo_flags2_5 mo_enabled mo_a mo_x mo_y mo_s mo_flags mo_p mo_jammed mo_code (0:Int32) mo_low mo_high mo_old mo_latest_5 mo_cycles mo_stolen mo_interrupts mo_accesses_5 f_mra f_mrA f_mrc f_mrk f_mpi f_mwc f_mwo f_mco f_mpo f_mky f_mla f_mcn f_mct (1:Int32) (0:Int32)) (cwV 2 hts (ub_V kMX7_157 kYX7_put kSX7_put kIX7 kBX7_put) rfl rfl rfl (by decide +kernel) ⟨Nat.le_of_ble_eq_true rfl, Nat.le_of_ble_eq_true rfl⟩) ⟨fun a U g mk q => by obtain ⟨q0, q1, qP, qK, qD⟩ := q; exact ⟨q0, q1, qP, va_K.moved (u := U) (U := U.calling g mk a) (Vm.Alike.refl U.vm) qK, qD⟩, va_recv hKc hPc (ci := 7) (q0 := 0) rfl rfl, fun U hU hW => ⟨rfl, by rw [hU], by rw [hU]; exact hPc, va_K.moved hW.alike hKc, hDc.weaken (fun _ _ _ _ => trivial)⟩⟩ rfl rfl hl.1 rfl (lv_room (Nat.le_of_ble_eq_true rfl)) dX7_plainStep_44 ⟨(Nat.zero_le _), (Nat.zero_le _)⟩) hS (fun q _ h => hFc q h) hFc (fun u_44 t H locs ht hvm hw hB hz1 hk1 hS => ?_)
    obtain ⟨hP1, hK1, hD1⟩ := hB
    rw [ht] at hP1
    subst hw
    obtain ⟨hP, hD⟩ := vb_bk2 (wc := (wwX7 q_mo q_mra q_mrA q_mrc q_mrk q_mpi q_mwc q_mwo q_mco q_mpo q_mky q_mla q_mcn q_mct k_mra k_mrA k_mrc k_mrk k_mpi k_mwc k_mwo k_mco k_mpo k_mky k_mla k_mcn k_mct mo_port mo_line mo_cycle mo_raised mo_idle mo_bad mo_glyph mo_fetched mo_rows mo_flags2_5 mo_enabled mo_a mo_x mo_y mo_s mo_flags mo_p mo_jammed mo_code (0:Int32) mo_low mo_high mo_old mo_latest_5 mo_cycles mo_stolen mo_interrupts mo_accesses_5 f_mra f_mrA f_mrc f_mrk f_mpi f_mwc f_mwo f_mco f_mpo f_mky f_mla f_mcn f_mct)) (ws' := (wwX7 q_mo q_mra q_mrA q_mrc q_mrk q_mpi q_mwc q_mwo q_mco q_mpo q_mky q_mla q_mcn q_mct k_mra k_mrA k_mrc k_mrk k_mpi k_mwc k_mwo k_mco k_mpo k_mky k_mla k_mcn k_mct mo_port mo_line mo_cycle mo_raised mo_idle mo_bad mo_glyph mo_fetched mo_rows mo_flags2_5 mo_enabled mo_a mo_x mo_y mo_s (fX7_put (1:Int32) (0:Int32) mo_flags) mo_p mo_jammed mo_code (0:Int32) mo_low mo_high mo_old mo_latest_5 mo_cycles mo_stolen mo_interrupts mo_accesses_5 f_mra f_mrA f_mrc f_mrk f_mpi f_mwc f_mwo f_mco f_mpo f_mky f_mla f_mcn f_mct)) hP hD hD1 [0, 1, 2, 3, 4, 5, 6, 7, 8, 9, 10, 11, 12, 13] [] rfl [q_mo, q_mra, q_mrA, q_mrc, q_mrk, q_mpi, q_mwc, q_mwo, q_mco, q_mpo, q_mky, q_mla, q_mcn, q_mct] rfl rfl ae_n rfl rfl hk1 hP1
    refine lv_iload_n hx hb dX7_plainStep_47 rfl (lv_at hl 0 rfl) ?_
    refine lv_bipush (v := 88) hx hb dX7_plainStep_48 (by decide) ?_
    refine lv_icmp_eq (tgt := 59) hx hb dX7_plainStep_50 (by decide) (fun c_50 => by exact absurd c_50 (by rw [c_22]; decide)) (fun c_50 => ?_)
    refine lv_iload_n hx hb dX7_plainStep_53 rfl (lv_at hl 0 rfl) ?_
    refine lv_bipush (v := 120) hx hb dX7_plainStep_54 (by decide) ?_
    refine lv_icmp_ne (tgt := 75) hx hb dX7_plainStep_56 (by decide) (fun c_56 => ?_) (fun c_56 => by exact absurd c_56 (by rw [c_22]; decide))
    refine lv_iload_n hx hb dX7_plainStep_75 rfl (lv_at hl 0 rfl) ?_
    refine lv_sipush (v := 216) hx hb dX7_plainStep_76 (by decide) ?_
    refine lv_icmp_eq (tgt := 89) hx hb dX7_plainStep_79 (by decide) (fun c_79 => by exact absurd c_79 (by rw [c_22]; decide)) (fun c_79 => ?_)
    refine lv_iload_n hx hb dX7_plainStep_82 rfl (lv_at hl 0 rfl) ?_
    refine lv_sipush (v := 248) hx hb dX7_plainStep_83 (by decide) ?_
    refine lv_icmp_ne (tgt := 107) hx hb dX7_plainStep_86 (by decide) (fun c_86 => ?_) (fun c_86 => by exact absurd c_86 (by rw [c_22]; decide))
    refine lv_iload_n hx hb dX7_plainStep_107 rfl (lv_at hl 0 rfl) ?_
    refine lv_sipush (v := 170) hx hb dX7_plainStep_108 (by decide) ?_
    refine lv_icmp_ne (tgt := 126) hx hb dX7_plainStep_111 (by decide) (fun c_111 => ?_) (fun c_111 => by exact absurd c_111 (by rw [c_22]; decide))
    refine lv_iload_n hx hb dX7_plainStep_126 rfl (lv_at hl 0 rfl) ?_
    refine lv_sipush (v := 138) hx hb dX7_plainStep_127 (by decide) ?_
    refine lv_icmp_ne (tgt := 145) hx hb dX7_plainStep_130 (by decide) (fun c_130 => ?_) (fun c_130 => by exact absurd c_130 (by rw [c_22]; decide))
    refine lv_iload_n hx hb dX7_plainStep_145 rfl (lv_at hl 0 rfl) ?_
    refine lv_sipush (v := 168) hx hb dX7_plainStep_146 (by decide) ?_
    refine lv_icmp_ne (tgt := 164) hx hb dX7_plainStep_149 (by decide) (fun c_149 => ?_) (fun c_149 => by exact absurd c_149 (by rw [c_22]; decide))
    refine lv_iload_n hx hb dX7_plainStep_164 rfl (lv_at hl 0 rfl) ?_
    refine lv_sipush (v := 152) hx hb dX7_plainStep_165 (by decide) ?_
    refine lv_icmp_ne (tgt := 183) hx hb dX7_plainStep_168 (by decide) (fun c_168 => ?_) (fun c_168 => by exact absurd c_168 (by rw [c_22]; decide))
    refine lv_iload_n hx hb dX7_plainStep_183 rfl (lv_at hl 0 rfl) ?_
    refine lv_sipush (v := 232) hx hb dX7_plainStep_184 (by decide) ?_
    refine lv_icmp_ne (tgt := 208) hx hb dX7_plainStep_187 (by decide) (fun c_187 => ?_) (fun c_187 => by exact absurd c_187 (by rw [c_22]; decide))
    refine lv_iload_n hx hb dX7_plainStep_208 rfl (lv_at hl 0 rfl) ?_
    refine lv_sipush (v := 200) hx hb dX7_plainStep_209 (by decide) ?_
    refine lv_icmp_ne (tgt := 233) hx hb dX7_plainStep_212 (by decide) (fun c_212 => ?_) (fun c_212 => by exact absurd c_212 (by rw [c_22]; decide))
    refine lv_iload_n hx hb dX7_plainStep_233 rfl (lv_at hl 0 rfl) ?_
    refine lv_sipush (v := 202) hx hb dX7_plainStep_234 (by decide) ?_
    refine lv_icmp_ne (tgt := 260) hx hb dX7_plainStep_237 (by decide) (fun c_237 => ?_) (fun c_237 => by exact absurd c_237 (by rw [c_22]; decide))
    refine lv_iload_n hx hb dX7_plainStep_260 rfl (lv_at hl 0 rfl) ?_
    refine lv_sipush (v := 136) hx hb dX7_plainStep_261 (by decide) ?_
    refine lv_icmp_ne (tgt := 287) hx hb dX7_plainStep_264 (by decide) (fun c_264 => ?_) (fun c_264 => by exact absurd c_264 (by rw [c_22]; decide))
    refine lv_iload_n hx hb dX7_plainStep_287 rfl (lv_at hl 0 rfl) ?_
    refine lv_bipush (v := 10) hx hb dX7_plainStep_288 (by decide) ?_
    refine lv_icmp_ne (tgt := 310) hx hb dX7_plainStep_290 (by decide) (fun c_290 => ?_) (fun c_290 => by exact absurd c_290 (by rw [c_22]; decide))
    refine lv_aload_n hx hb dX7_plainStep_310 rfl (lv_at hl 1 rfl) ?_
    refine va_get (D := (dC, dI)) (ci := 7) (v := .int mo_a) (C := RX7) (T := TX7) (N := 41) hx hb hts hiX7 hown hK hP 0 rfl rfl 24 (by decide) (hts _ kFX7_136) (fun _ h9 => h9) rfl dX7_plainStep_311 ?_
    refine lv_iconst (v := 1) hx hb dX7_plainStep_314 (by decide) ?_
    refine lv_iand hx hb dX7_plainStep_315 ?_
    refine lv_iconst (v := 1) hx hb dX7_plainStep_316 (by decide) ?_
    refine vj_join (j := 325) (rest := []) (Hyp := fun z H locs => z = (if (mo_a &&& (1:Int32)) = (1:Int32) then (1:Int32) else (0:Int32)) ∧ va_P (dC, dI) vwCl (wwX7 q_mo q_mra q_mrA q_mrc q_mrk q_mpi q_mwc q_mwo q_mco q_mpo q_mky q_mla q_mcn q_mct k_mra k_mrA k_mrc k_mrk k_mpi k_mwc k_mwo k_mco k_mpo k_mky k_mla k_mcn k_mct mo_port mo_line mo_cycle mo_raised mo_idle mo_bad mo_glyph mo_fetched mo_rows mo_flags2_5 mo_enabled mo_a mo_x mo_y mo_s (fX7_put (1:Int32) (0:Int32) mo_flags) mo_p mo_jammed mo_code (0:Int32) mo_low mo_high mo_old mo_latest_5 mo_cycles mo_stolen mo_interrupts mo_accesses_5 f_mra f_mrA f_mrc f_mrk f_mpi f_mwc f_mwo f_mco f_mpo f_mky f_mla f_mcn f_mct) H ∧ va_S A s.heap H locs) (fun z H locs hh => ?_) (fun J325 => ?_)
    · obtain ⟨hz, hP, hS⟩ := hh
      subst hz
      refine lv_istore_n (lv' := [(2, .int (if (mo_a &&& (1:Int32)) = (1:Int32) then (1:Int32) else (0:Int32))), (1, .int mo_code), (0, .ref q_mo)]) hx hb dX7_plainStep_325 rfl hl (by decide) rfl (fun ls hl => ?_)
      refine lv_iload_n hx hb dX7_plainStep_326 rfl (lv_at hl 1 rfl) ?_
      refine lv_bipush (v := 10) hx hb dX7_plainStep_327 (by decide) ?_
      refine lv_icmp_ne (tgt := 350) hx hb dX7_plainStep_329 (by decide) (fun c_329 => ?_) (fun c_329 => by exact absurd c_329 (by rw [c_22]; decide))
      refine lv_iload_n hx hb dX7_plainStep_350 rfl (lv_at hl 1 rfl) ?_
      refine lv_bipush (v := 74) hx hb dX7_plainStep_351 (by decide) ?_
      refine lv_icmp_ne (tgt := 370) hx hb dX7_plainStep_353 (by decide) (fun c_353 => ?_) (fun c_353 => by exact absurd c_353 (by rw [c_22]; decide))
      refine lv_iload_n hx hb dX7_plainStep_370 rfl (lv_at hl 1 rfl) ?_
      refine lv_bipush (v := 10) hx hb dX7_plainStep_371 (by decide) ?_
      refine lv_icmp_eq (tgt := 382) hx hb dX7_plainStep_373 (by decide) (fun c_373 => by exact absurd c_373 (by rw [c_22]; decide)) (fun c_373 => ?_)
      refine lv_iload_n hx hb dX7_plainStep_376 rfl (lv_at hl 1 rfl) ?_
      refine lv_bipush (v := 74) hx hb dX7_plainStep_377 (by decide) ?_
      refine lv_icmp_ne (tgt := 388) hx hb dX7_plainStep_379 (by decide) (fun c_379 => ?_) (fun c_379 => by exact absurd c_379 (by rw [c_22]; decide))
      exact W.vret hx hb hr (fun t ht hW => ⟨⟨(mo_flags2_5, mo_a, mo_x, mo_y, (fX7_put (1:Int32) (0:Int32) mo_flags), (0:Int32), mo_latest_5, mo_accesses_5), rfl, hF.symm, by rw [ht]; exact hP, va_K.moved hW.alike hK, hD⟩, hS.F ht⟩) hS.2.2 dX7_plainStep_388
    · refine lv_icmp_ne (tgt := 324) hx hb dX7_plainStep_317 (by decide) (fun c_317 => ?_) (fun c_317 => ?_)
      · refine lv_iconst (v := 0) hx hb dX7_plainStep_324 (by decide) ?_
        exact J325 _ _ _ ⟨by rw [if_neg c_317], hP, hS⟩
      · refine lv_iconst (v := 1) hx hb dX7_plainStep_320 (by decide) ?_
        refine lv_goto (tgt := 325) hx hb dX7_plainStep_321 (by decide) ?_
        exact J325 _ _ _ ⟨by rw [if_pos c_317], hP, hS⟩
  · have hF := hF.trans (if_neg c_22)
    refine lv_iload_n hx hb dX7_plainStep_25 rfl (lv_at hl 0 rfl) ?_
    refine lv_bipush (v := 56) hx hb dX7_plainStep_26 (by decide) ?_
    refine lv_icmp_ne (tgt := 47) hx hb dX7_plainStep_28 (by decide) (fun c_28 => ?_) (fun c_28 => ?_)
    · have hF := hF.trans (if_neg c_28)
      refine lv_iload_n hx hb dX7_plainStep_47 rfl (lv_at hl 0 rfl) ?_
      refine lv_bipush (v := 88) hx hb dX7_plainStep_48 (by decide) ?_
      refine lv_icmp_eq (tgt := 59) hx hb dX7_plainStep_50 (by decide) (fun c_50 => ?_) (fun c_50 => ?_)
      · have hF := hF.trans (if_pos c_50)
        refine lv_aload_n hx hb dX7_plainStep_59 rfl (lv_at hl 1 rfl) ?_
        refine lv_iconst (v := 4) hx hb dX7_plainStep_60 (by decide) ?_
        refine lv_iload_n hx hb dX7_plainStep_61 rfl (lv_at hl 0 rfl) ?_
        refine lv_bipush (v := 120) hx hb dX7_plainStep_62 (by decide) ?_
        refine lv_icmp_ne (tgt := 71) hx hb dX7_plainStep_64 (by decide) (fun c_64 => ?_) (fun c_64 => by exact absurd c_64 (by rw [c_50]; decide))
        refine lv_iconst (v := 0) hx hb dX7_plainStep_71 (by decide) ?_
        have hPc := hP.sub (ws' := (wwX7 q_mo q_mra q_mrA q_mrc q_mrk q_mpi q_mwc q_mwo q_mco q_mpo q_mky q_mla q_mcn q_mct k_mra k_mrA k_mrc k_mrk k_mpi k_mwc k_mwo k_mco k_mpo k_mky k_mla k_mcn k_mct mo_port mo_line mo_cycle mo_raised mo_idle mo_bad mo_glyph mo_fetched mo_rows mo_flags2_5 mo_enabled mo_a mo_x mo_y mo_s mo_flags mo_p mo_jammed mo_code (0:Int32) mo_low mo_high mo_old mo_latest_5 mo_cycles mo_stolen mo_interrupts mo_accesses_5 f_mra f_mrA f_mrc f_mrk f_mpi f_mwc f_mwo f_mco f_mpo f_mky f_mla f_mcn f_mct)) [0, 1, 2, 3, 4, 5, 6, 7, 8, 9, 10, 11, 12, 13] rfl
        have hDc := hD.sub (ws' := (wwX7 q_mo q_mra q_mrA q_mrc q_mrk q_mpi q_mwc q_mwo q_mco q_mpo q_mky q_mla q_mcn q_mct k_mra k_mrA k_mrc k_mrk k_mpi k_mwc k_mwo k_mco k_mpo k_mky k_mla k_mcn k_mct mo_port mo_line mo_cycle mo_raised mo_idle mo_bad mo_glyph mo_fetched mo_rows mo_flags2_5 mo_enabled mo_a mo_x mo_y mo_s mo_flags mo_p mo_jammed mo_code (0:Int32) mo_low mo_high mo_old mo_latest_5 mo_cycles mo_stolen mo_interrupts mo_accesses_5 f_mra f_mrA f_mrc f_mrk f_mpi f_mwc f_mwo f_mco f_mpo f_mky f_mla f_mcn f_mct)) [0, 1, 2, 3, 4, 5, 6, 7, 8, 9, 10, 11, 12, 13] (by decide) rfl
        have hKc := hK.sub (tys' := [(k_mra, .int), (k_mrA, .int), (k_mrc, .int), (k_mrk, .int), (k_mpi, .int), (k_mwc, .int), (k_mwo, .int), (k_mco, .int), (k_mpo, .int), (k_mky, .int), (k_mla, .int), (k_mcn, .int), (k_mct, .int)]) [0, 1, 2, 3, 4, 5, 6, 7, 8, 9, 10, 11, 12] rfl
        have hFc := va_free (wc := (wwX7 q_mo q_mra q_mrA q_mrc q_mrk q_mpi q_mwc q_mwo q_mco q_mpo q_mky q_mla q_mcn q_mct k_mra k_mrA k_mrc k_mrk k_mpi k_mwc k_mwo k_mco k_mpo k_mky k_mla k_mcn k_mct mo_port mo_line mo_cycle mo_raised mo_idle mo_bad mo_glyph mo_fetched mo_rows mo_flags2_5 mo_enabled mo_a mo_x mo_y mo_s mo_flags mo_p mo_jammed mo_code (0:Int32) mo_low mo_high mo_old mo_latest_5 mo_cycles mo_stolen mo_interrupts mo_accesses_5 f_mra f_mrA f_mrc f_mrk f_mpi f_mwc f_mwo f_mco f_mpo f_mky f_mla f_mcn f_mct)) hD hS hA [0, 1, 2, 3, 4, 5, 6, 7, 8, 9, 10, 11, 12, 13] rfl
        refine va_callv (va_runV (As := [.int (4:Int32), .int (0:Int32)]) (rest := []) ⟨hx, hb, hml, hown, hts⟩ (mX7_put l dC dI q_mo q_mra q_mrA q_mrc q_mrk q_mpi q_mwc q_mwo q_mco q_mpo q_mky q_mla q_mcn q_mct k_mra k_mrA k_mrc k_mrk k_mpi k_mwc k_mwo k_mco k_mpo k_mky k_mla k_mcn k_mct H.size mo_port mo_line mo_cycle mo_raised mo_idle mo_bad mo_glyph mo_fetched mo_rows mo_flags2_5 mo_enabled mo_a mo_x mo_y mo_s mo_flags mo_p mo_jammed mo_code (0:Int32) mo_low mo_high mo_old mo_latest_5 mo_cycles mo_stolen mo_interrupts mo_accesses_5 f_mra f_mrA f_mrc f_mrk f_mpi f_mwc f_mwo f_mco f_mpo f_mky f_mla f_mcn f_mct (4:Int32) (0:Int32)) (cwV 2 hts (ub_V kMX7_157 kYX7_put kSX7_put kIX7 kBX7_put) rfl rfl rfl (by decide +kernel) ⟨Nat.le_of_ble_eq_true rfl, Nat.le_of_ble_eq_true rfl⟩) ⟨fun a U g mk q => by obtain ⟨q0, q1, qP, qK, qD⟩ := q; exact ⟨q0, q1, qP, va_K.moved (u := U) (U := U.calling g mk a) (Vm.Alike.refl U.vm) qK, qD⟩, va_recv hKc hPc (ci := 7) (q0 := 0) rfl rfl, fun U hU hW => ⟨rfl, by rw [hU], by rw [hU]; exact hPc, va_K.moved hW.alike hKc, hDc.weaken (fun _ _ _ _ => trivial)⟩⟩ rfl rfl hl.1 rfl (lv_room (Nat.le_of_ble_eq_true rfl)) dX7_plainStep_72 ⟨(Nat.zero_le _), (Nat.zero_le _)⟩) hS (fun q _ h => hFc q h) hFc (fun u_72 t H locs ht hvm hw hB hz1 hk1 hS => ?_)
        obtain ⟨hP1, hK1, hD1⟩ := hB
        rw [ht] at hP1
        subst hw
        obtain ⟨hP, hD⟩ := vb_bk2 (wc := (wwX7 q_mo q_mra q_mrA q_mrc q_mrk q_mpi q_mwc q_mwo q_mco q_mpo q_mky q_mla q_mcn q_mct k_mra k_mrA k_mrc k_mrk k_mpi k_mwc k_mwo k_mco k_mpo k_mky k_mla k_mcn k_mct mo_port mo_line mo_cycle mo_raised mo_idle mo_bad mo_glyph mo_fetched mo_rows mo_flags2_5 mo_enabled mo_a mo_x mo_y mo_s mo_flags mo_p mo_jammed mo_code (0:Int32) mo_low mo_high mo_old mo_latest_5 mo_cycles mo_stolen mo_interrupts mo_accesses_5 f_mra f_mrA f_mrc f_mrk f_mpi f_mwc f_mwo f_mco f_mpo f_mky f_mla f_mcn f_mct)) (ws' := (wwX7 q_mo q_mra q_mrA q_mrc q_mrk q_mpi q_mwc q_mwo q_mco q_mpo q_mky q_mla q_mcn q_mct k_mra k_mrA k_mrc k_mrk k_mpi k_mwc k_mwo k_mco k_mpo k_mky k_mla k_mcn k_mct mo_port mo_line mo_cycle mo_raised mo_idle mo_bad mo_glyph mo_fetched mo_rows mo_flags2_5 mo_enabled mo_a mo_x mo_y mo_s (fX7_put (4:Int32) (0:Int32) mo_flags) mo_p mo_jammed mo_code (0:Int32) mo_low mo_high mo_old mo_latest_5 mo_cycles mo_stolen mo_interrupts mo_accesses_5 f_mra f_mrA f_mrc f_mrk f_mpi f_mwc f_mwo f_mco f_mpo f_mky f_mla f_mcn f_mct)) hP hD hD1 [0, 1, 2, 3, 4, 5, 6, 7, 8, 9, 10, 11, 12, 13] [] rfl [q_mo, q_mra, q_mrA, q_mrc, q_mrk, q_mpi, q_mwc, q_mwo, q_mco, q_mpo, q_mky, q_mla, q_mcn, q_mct] rfl rfl ae_n rfl rfl hk1 hP1
        refine lv_iload_n hx hb dX7_plainStep_75 rfl (lv_at hl 0 rfl) ?_
        refine lv_sipush (v := 216) hx hb dX7_plainStep_76 (by decide) ?_
        refine lv_icmp_eq (tgt := 89) hx hb dX7_plainStep_79 (by decide) (fun c_79 => by exact absurd c_79 (by rw [c_50]; decide)) (fun c_79 => ?_)
        refine lv_iload_n hx hb dX7_plainStep_82 rfl (lv_at hl 0 rfl) ?_
        refine lv_sipush (v := 248) hx hb dX7_plainStep_83 (by decide) ?_
        refine lv_icmp_ne (tgt := 107) hx hb dX7_plainStep_86 (by decide) (fun c_86 => ?_) (fun c_86 => by exact absurd c_86 (by rw [c_50]; decide))
        refine lv_iload_n hx hb dX7_plainStep_107 rfl (lv_at hl 0 rfl) ?_
        refine lv_sipush (v := 170) hx hb dX7_plainStep_108 (by decide) ?_
        refine lv_icmp_ne (tgt := 126) hx hb dX7_plainStep_111 (by decide) (fun c_111 => ?_) (fun c_111 => by exact absurd c_111 (by rw [c_50]; decide))
        refine lv_iload_n hx hb dX7_plainStep_126 rfl (lv_at hl 0 rfl) ?_
        refine lv_sipush (v := 138) hx hb dX7_plainStep_127 (by decide) ?_
        refine lv_icmp_ne (tgt := 145) hx hb dX7_plainStep_130 (by decide) (fun c_130 => ?_) (fun c_130 => by exact absurd c_130 (by rw [c_50]; decide))
        refine lv_iload_n hx hb dX7_plainStep_145 rfl (lv_at hl 0 rfl) ?_
        refine lv_sipush (v := 168) hx hb dX7_plainStep_146 (by decide) ?_
        refine lv_icmp_ne (tgt := 164) hx hb dX7_plainStep_149 (by decide) (fun c_149 => ?_) (fun c_149 => by exact absurd c_149 (by rw [c_50]; decide))
        refine lv_iload_n hx hb dX7_plainStep_164 rfl (lv_at hl 0 rfl) ?_
        refine lv_sipush (v := 152) hx hb dX7_plainStep_165 (by decide) ?_
        refine lv_icmp_ne (tgt := 183) hx hb dX7_plainStep_168 (by decide) (fun c_168 => ?_) (fun c_168 => by exact absurd c_168 (by rw [c_50]; decide))
        refine lv_iload_n hx hb dX7_plainStep_183 rfl (lv_at hl 0 rfl) ?_
        refine lv_sipush (v := 232) hx hb dX7_plainStep_184 (by decide) ?_
        refine lv_icmp_ne (tgt := 208) hx hb dX7_plainStep_187 (by decide) (fun c_187 => ?_) (fun c_187 => by exact absurd c_187 (by rw [c_50]; decide))
        refine lv_iload_n hx hb dX7_plainStep_208 rfl (lv_at hl 0 rfl) ?_
        refine lv_sipush (v := 200) hx hb dX7_plainStep_209 (by decide) ?_
        refine lv_icmp_ne (tgt := 233) hx hb dX7_plainStep_212 (by decide) (fun c_212 => ?_) (fun c_212 => by exact absurd c_212 (by rw [c_50]; decide))
        refine lv_iload_n hx hb dX7_plainStep_233 rfl (lv_at hl 0 rfl) ?_
        refine lv_sipush (v := 202) hx hb dX7_plainStep_234 (by decide) ?_
        refine lv_icmp_ne (tgt := 260) hx hb dX7_plainStep_237 (by decide) (fun c_237 => ?_) (fun c_237 => by exact absurd c_237 (by rw [c_50]; decide))
        refine lv_iload_n hx hb dX7_plainStep_260 rfl (lv_at hl 0 rfl) ?_
        refine lv_sipush (v := 136) hx hb dX7_plainStep_261 (by decide) ?_
        refine lv_icmp_ne (tgt := 287) hx hb dX7_plainStep_264 (by decide) (fun c_264 => ?_) (fun c_264 => by exact absurd c_264 (by rw [c_50]; decide))
        refine lv_iload_n hx hb dX7_plainStep_287 rfl (lv_at hl 0 rfl) ?_
        refine lv_bipush (v := 10) hx hb dX7_plainStep_288 (by decide) ?_
        refine lv_icmp_ne (tgt := 310) hx hb dX7_plainStep_290 (by decide) (fun c_290 => ?_) (fun c_290 => by exact absurd c_290 (by rw [c_50]; decide))
        refine lv_aload_n hx hb dX7_plainStep_310 rfl (lv_at hl 1 rfl) ?_
        refine va_get (D := (dC, dI)) (ci := 7) (v := .int mo_a) (C := RX7) (T := TX7) (N := 41) hx hb hts hiX7 hown hK hP 0 rfl rfl 24 (by decide) (hts _ kFX7_136) (fun _ h9 => h9) rfl dX7_plainStep_311 ?_
        refine lv_iconst (v := 1) hx hb dX7_plainStep_314 (by decide) ?_
        refine lv_iand hx hb dX7_plainStep_315 ?_
        refine lv_iconst (v := 1) hx hb dX7_plainStep_316 (by decide) ?_
        refine vj_join (j := 325) (rest := []) (Hyp := fun z H locs => z = (if (mo_a &&& (1:Int32)) = (1:Int32) then (1:Int32) else (0:Int32)) ∧ va_P (dC, dI) vwCl (wwX7 q_mo q_mra q_mrA q_mrc q_mrk q_mpi q_mwc q_mwo q_mco q_mpo q_mky q_mla q_mcn q_mct k_mra k_mrA k_mrc k_mrk k_mpi k_mwc k_mwo k_mco k_mpo k_mky k_mla k_mcn k_mct mo_port mo_line mo_cycle mo_raised mo_idle mo_bad mo_glyph mo_fetched mo_rows mo_flags2_5 mo_enabled mo_a mo_x mo_y mo_s (fX7_put (4:Int32) (0:Int32) mo_flags) mo_p mo_jammed mo_code (0:Int32) mo_low mo_high mo_old mo_latest_5 mo_cycles mo_stolen mo_interrupts mo_accesses_5 f_mra f_mrA f_mrc f_mrk f_mpi f_mwc f_mwo f_mco f_mpo f_mky f_mla f_mcn f_mct) H ∧ va_S A s.heap H locs) (fun z H locs hh => ?_) (fun J325 => ?_)
        · obtain ⟨hz, hP, hS⟩ := hh
          subst hz
          refine lv_istore_n (lv' := [(2, .int (if (mo_a &&& (1:Int32)) = (1:Int32) then (1:Int32) else (0:Int32))), (1, .int mo_code), (0, .ref q_mo)]) hx hb dX7_plainStep_325 rfl hl (by decide) rfl (fun ls hl => ?_)
          refine lv_iload_n hx hb dX7_plainStep_326 rfl (lv_at hl 1 rfl) ?_
          refine lv_bipush (v := 10) hx hb dX7_plainStep_327 (by decide) ?_
          refine lv_icmp_ne (tgt := 350) hx hb dX7_plainStep_329 (by decide) (fun c_329 => ?_) (fun c_329 => by exact absurd c_329 (by rw [c_50]; decide))
          refine lv_iload_n hx hb dX7_plainStep_350 rfl (lv_at hl 1 rfl) ?_
          refine lv_bipush (v := 74) hx hb dX7_plainStep_351 (by decide) ?_
          refine lv_icmp_ne (tgt := 370) hx hb dX7_plainStep_353 (by decide) (fun c_353 => ?_) (fun c_353 => by exact absurd c_353 (by rw [c_50]; decide))
          refine lv_iload_n hx hb dX7_plainStep_370 rfl (lv_at hl 1 rfl) ?_
          refine lv_bipush (v := 10) hx hb dX7_plainStep_371 (by decide) ?_
          refine lv_icmp_eq (tgt := 382) hx hb dX7_plainStep_373 (by decide) (fun c_373 => by exact absurd c_373 (by rw [c_50]; decide)) (fun c_373 => ?_)
          refine lv_iload_n hx hb dX7_plainStep_376 rfl (lv_at hl 1 rfl) ?_
          refine lv_bipush (v := 74) hx hb dX7_plainStep_377 (by decide) ?_
          refine lv_icmp_ne (tgt := 388) hx hb dX7_plainStep_379 (by decide) (fun c_379 => ?_) (fun c_379 => by exact absurd c_379 (by rw [c_50]; decide))
          exact W.vret hx hb hr (fun t ht hW => ⟨⟨(mo_flags2_5, mo_a, mo_x, mo_y, (fX7_put (4:Int32) (0:Int32) mo_flags), (0:Int32), mo_latest_5, mo_accesses_5), rfl, hF.symm, by rw [ht]; exact hP, va_K.moved hW.alike hK, hD⟩, hS.F ht⟩) hS.2.2 dX7_plainStep_388
        · refine lv_icmp_ne (tgt := 324) hx hb dX7_plainStep_317 (by decide) (fun c_317 => ?_) (fun c_317 => ?_)
          · refine lv_iconst (v := 0) hx hb dX7_plainStep_324 (by decide) ?_
            exact J325 _ _ _ ⟨by rw [if_neg c_317], hP, hS⟩
          · refine lv_iconst (v := 1) hx hb dX7_plainStep_320 (by decide) ?_
            refine lv_goto (tgt := 325) hx hb dX7_plainStep_321 (by decide) ?_
            exact J325 _ _ _ ⟨by rw [if_pos c_317], hP, hS⟩
      · have hF := hF.trans (if_neg c_50)
        refine lv_iload_n hx hb dX7_plainStep_53 rfl (lv_at hl 0 rfl) ?_
        refine lv_bipush (v := 120) hx hb dX7_plainStep_54 (by decide) ?_
        refine lv_icmp_ne (tgt := 75) hx hb dX7_plainStep_56 (by decide) (fun c_56 => ?_) (fun c_56 => ?_)
        · have hF := hF.trans (if_neg c_56)
          refine lv_iload_n hx hb dX7_plainStep_75 rfl (lv_at hl 0 rfl) ?_
          refine lv_sipush (v := 216) hx hb dX7_plainStep_76 (by decide) ?_
          refine lv_icmp_eq (tgt := 89) hx hb dX7_plainStep_79 (by decide) (fun c_79 => ?_) (fun c_79 => ?_)
          · have hF := hF.trans (if_pos c_79)
            refine lv_aload_n hx hb dX7_plainStep_89 rfl (lv_at hl 1 rfl) ?_
            refine lv_bipush (v := 8) hx hb dX7_plainStep_90 (by decide) ?_
            refine lv_iload_n hx hb dX7_plainStep_92 rfl (lv_at hl 0 rfl) ?_
            refine lv_sipush (v := 248) hx hb dX7_plainStep_93 (by decide) ?_
            refine lv_icmp_ne (tgt := 103) hx hb dX7_plainStep_96 (by decide) (fun c_96 => ?_) (fun c_96 => by exact absurd c_96 (by rw [c_79]; decide))
            refine lv_iconst (v := 0) hx hb dX7_plainStep_103 (by decide) ?_
            have hPc := hP.sub (ws' := (wwX7 q_mo q_mra q_mrA q_mrc q_mrk q_mpi q_mwc q_mwo q_mco q_mpo q_mky q_mla q_mcn q_mct k_mra k_mrA k_mrc k_mrk k_mpi k_mwc k_mwo k_mco k_mpo k_mky k_mla k_mcn k_mct mo_port mo_line mo_cycle mo_raised mo_idle mo_bad mo_glyph mo_fetched mo_rows mo_flags2_5 mo_enabled mo_a mo_x mo_y mo_s mo_flags mo_p mo_jammed mo_code (0:Int32) mo_low mo_high mo_old mo_latest_5 mo_cycles mo_stolen mo_interrupts mo_accesses_5 f_mra f_mrA f_mrc f_mrk f_mpi f_mwc f_mwo f_mco f_mpo f_mky f_mla f_mcn f_mct)) [0, 1, 2, 3, 4, 5, 6, 7, 8, 9, 10, 11, 12, 13] rfl
            have hDc := hD.sub (ws' := (wwX7 q_mo q_mra q_mrA q_mrc q_mrk q_mpi q_mwc q_mwo q_mco q_mpo q_mky q_mla q_mcn q_mct k_mra k_mrA k_mrc k_mrk k_mpi k_mwc k_mwo k_mco k_mpo k_mky k_mla k_mcn k_mct mo_port mo_line mo_cycle mo_raised mo_idle mo_bad mo_glyph mo_fetched mo_rows mo_flags2_5 mo_enabled mo_a mo_x mo_y mo_s mo_flags mo_p mo_jammed mo_code (0:Int32) mo_low mo_high mo_old mo_latest_5 mo_cycles mo_stolen mo_interrupts mo_accesses_5 f_mra f_mrA f_mrc f_mrk f_mpi f_mwc f_mwo f_mco f_mpo f_mky f_mla f_mcn f_mct)) [0, 1, 2, 3, 4, 5, 6, 7, 8, 9, 10, 11, 12, 13] (by decide) rfl
            have hKc := hK.sub (tys' := [(k_mra, .int), (k_mrA, .int), (k_mrc, .int), (k_mrk, .int), (k_mpi, .int), (k_mwc, .int), (k_mwo, .int), (k_mco, .int), (k_mpo, .int), (k_mky, .int), (k_mla, .int), (k_mcn, .int), (k_mct, .int)]) [0, 1, 2, 3, 4, 5, 6, 7, 8, 9, 10, 11, 12] rfl
            have hFc := va_free (wc := (wwX7 q_mo q_mra q_mrA q_mrc q_mrk q_mpi q_mwc q_mwo q_mco q_mpo q_mky q_mla q_mcn q_mct k_mra k_mrA k_mrc k_mrk k_mpi k_mwc k_mwo k_mco k_mpo k_mky k_mla k_mcn k_mct mo_port mo_line mo_cycle mo_raised mo_idle mo_bad mo_glyph mo_fetched mo_rows mo_flags2_5 mo_enabled mo_a mo_x mo_y mo_s mo_flags mo_p mo_jammed mo_code (0:Int32) mo_low mo_high mo_old mo_latest_5 mo_cycles mo_stolen mo_interrupts mo_accesses_5 f_mra f_mrA f_mrc f_mrk f_mpi f_mwc f_mwo f_mco f_mpo f_mky f_mla f_mcn f_mct)) hD hS hA [0, 1, 2, 3, 4, 5, 6, 7, 8, 9, 10, 11, 12, 13] rfl
            refine va_callv (va_runV (As := [.int (8:Int32), .int (0:Int32)]) (rest := []) ⟨hx, hb, hml, hown, hts⟩ (mX7_put l dC dI q_mo q_mra q_mrA q_mrc q_mrk q_mpi q_mwc q_mwo q_mco q_mpo q_mky q_mla q_mcn q_mct k_mra k_mrA k_mrc k_mrk k_mpi k_mwc k_mwo k_mco k_mpo k_mky k_mla k_mcn k_mct H.size mo_port mo_line mo_cycle mo_raised mo_idle mo_bad mo_glyph mo_fetched mo_rows mo_flags2_5 mo_enabled mo_a mo_x mo_y mo_s mo_flags mo_p mo_jammed mo_code (0:Int32) mo_low mo_high mo_old mo_latest_5 mo_cycles mo_stolen mo_interrupts mo_accesses_5 f_mra f_mrA f_mrc f_mrk f_mpi f_mwc f_mwo f_mco f_mpo f_mky f_mla f_mcn f_mct (8:Int32) (0:Int32)) (cwV 2 hts (ub_V kMX7_157 kYX7_put kSX7_put kIX7 kBX7_put) rfl rfl rfl (by decide +kernel) ⟨Nat.le_of_ble_eq_true rfl, Nat.le_of_ble_eq_true rfl⟩) ⟨fun a U g mk q => by obtain ⟨q0, q1, qP, qK, qD⟩ := q; exact ⟨q0, q1, qP, va_K.moved (u := U) (U := U.calling g mk a) (Vm.Alike.refl U.vm) qK, qD⟩, va_recv hKc hPc (ci := 7) (q0 := 0) rfl rfl, fun U hU hW => ⟨rfl, by rw [hU], by rw [hU]; exact hPc, va_K.moved hW.alike hKc, hDc.weaken (fun _ _ _ _ => trivial)⟩⟩ rfl rfl hl.1 rfl (lv_room (Nat.le_of_ble_eq_true rfl)) dX7_plainStep_104 ⟨(Nat.zero_le _), (Nat.zero_le _)⟩) hS (fun q _ h => hFc q h) hFc (fun u_104 t H locs ht hvm hw hB hz1 hk1 hS => ?_)
            obtain ⟨hP1, hK1, hD1⟩ := hB
            rw [ht] at hP1
            subst hw
            obtain ⟨hP, hD⟩ := vb_bk2 (wc := (wwX7 q_mo q_mra q_mrA q_mrc q_mrk q_mpi q_mwc q_mwo q_mco q_mpo q_mky q_mla q_mcn q_mct k_mra k_mrA k_mrc k_mrk k_mpi k_mwc k_mwo k_mco k_mpo k_mky k_mla k_mcn k_mct mo_port mo_line mo_cycle mo_raised mo_idle mo_bad mo_glyph mo_fetched mo_rows mo_flags2_5 mo_enabled mo_a mo_x mo_y mo_s mo_flags mo_p mo_jammed mo_code (0:Int32) mo_low mo_high mo_old mo_latest_5 mo_cycles mo_stolen mo_interrupts mo_accesses_5 f_mra f_mrA f_mrc f_mrk f_mpi f_mwc f_mwo f_mco f_mpo f_mky f_mla f_mcn f_mct)) (ws' := (wwX7 q_mo q_mra q_mrA q_mrc q_mrk q_mpi q_mwc q_mwo q_mco q_mpo q_mky q_mla q_mcn q_mct k_mra k_mrA k_mrc k_mrk k_mpi k_mwc k_mwo k_mco k_mpo k_mky k_mla k_mcn k_mct mo_port mo_line mo_cycle mo_raised mo_idle mo_bad mo_glyph mo_fetched mo_rows mo_flags2_5 mo_enabled mo_a mo_x mo_y mo_s (fX7_put (8:Int32) (0:Int32) mo_flags) mo_p mo_jammed mo_code (0:Int32) mo_low mo_high mo_old mo_latest_5 mo_cycles mo_stolen mo_interrupts mo_accesses_5 f_mra f_mrA f_mrc f_mrk f_mpi f_mwc f_mwo f_mco f_mpo f_mky f_mla f_mcn f_mct)) hP hD hD1 [0, 1, 2, 3, 4, 5, 6, 7, 8, 9, 10, 11, 12, 13] [] rfl [q_mo, q_mra, q_mrA, q_mrc, q_mrk, q_mpi, q_mwc, q_mwo, q_mco, q_mpo, q_mky, q_mla, q_mcn, q_mct] rfl rfl ae_n rfl rfl hk1 hP1
            refine lv_iload_n hx hb dX7_plainStep_107 rfl (lv_at hl 0 rfl) ?_
            refine lv_sipush (v := 170) hx hb dX7_plainStep_108 (by decide) ?_
            refine lv_icmp_ne (tgt := 126) hx hb dX7_plainStep_111 (by decide) (fun c_111 => ?_) (fun c_111 => by exact absurd c_111 (by rw [c_79]; decide))
            refine lv_iload_n hx hb dX7_plainStep_126 rfl (lv_at hl 0 rfl) ?_
            refine lv_sipush (v := 138) hx hb dX7_plainStep_127 (by decide) ?_
            refine lv_icmp_ne (tgt := 145) hx hb dX7_plainStep_130 (by decide) (fun c_130 => ?_) (fun c_130 => by exact absurd c_130 (by rw [c_79]; decide))
            refine lv_iload_n hx hb dX7_plainStep_145 rfl (lv_at hl 0 rfl) ?_
            refine lv_sipush (v := 168) hx hb dX7_plainStep_146 (by decide) ?_
            refine lv_icmp_ne (tgt := 164) hx hb dX7_plainStep_149 (by decide) (fun c_149 => ?_) (fun c_149 => by exact absurd c_149 (by rw [c_79]; decide))
            refine lv_iload_n hx hb dX7_plainStep_164 rfl (lv_at hl 0 rfl) ?_
            refine lv_sipush (v := 152) hx hb dX7_plainStep_165 (by decide) ?_
            refine lv_icmp_ne (tgt := 183) hx hb dX7_plainStep_168 (by decide) (fun c_168 => ?_) (fun c_168 => by exact absurd c_168 (by rw [c_79]; decide))
            refine lv_iload_n hx hb dX7_plainStep_183 rfl (lv_at hl 0 rfl) ?_
            refine lv_sipush (v := 232) hx hb dX7_plainStep_184 (by decide) ?_
            refine lv_icmp_ne (tgt := 208) hx hb dX7_plainStep_187 (by decide) (fun c_187 => ?_) (fun c_187 => by exact absurd c_187 (by rw [c_79]; decide))
            refine lv_iload_n hx hb dX7_plainStep_208 rfl (lv_at hl 0 rfl) ?_
            refine lv_sipush (v := 200) hx hb dX7_plainStep_209 (by decide) ?_
            refine lv_icmp_ne (tgt := 233) hx hb dX7_plainStep_212 (by decide) (fun c_212 => ?_) (fun c_212 => by exact absurd c_212 (by rw [c_79]; decide))
            refine lv_iload_n hx hb dX7_plainStep_233 rfl (lv_at hl 0 rfl) ?_
            refine lv_sipush (v := 202) hx hb dX7_plainStep_234 (by decide) ?_
            refine lv_icmp_ne (tgt := 260) hx hb dX7_plainStep_237 (by decide) (fun c_237 => ?_) (fun c_237 => by exact absurd c_237 (by rw [c_79]; decide))
            refine lv_iload_n hx hb dX7_plainStep_260 rfl (lv_at hl 0 rfl) ?_
            refine lv_sipush (v := 136) hx hb dX7_plainStep_261 (by decide) ?_
            refine lv_icmp_ne (tgt := 287) hx hb dX7_plainStep_264 (by decide) (fun c_264 => ?_) (fun c_264 => by exact absurd c_264 (by rw [c_79]; decide))
            refine lv_iload_n hx hb dX7_plainStep_287 rfl (lv_at hl 0 rfl) ?_
            refine lv_bipush (v := 10) hx hb dX7_plainStep_288 (by decide) ?_
            refine lv_icmp_ne (tgt := 310) hx hb dX7_plainStep_290 (by decide) (fun c_290 => ?_) (fun c_290 => by exact absurd c_290 (by rw [c_79]; decide))
            refine lv_aload_n hx hb dX7_plainStep_310 rfl (lv_at hl 1 rfl) ?_
            refine va_get (D := (dC, dI)) (ci := 7) (v := .int mo_a) (C := RX7) (T := TX7) (N := 41) hx hb hts hiX7 hown hK hP 0 rfl rfl 24 (by decide) (hts _ kFX7_136) (fun _ h9 => h9) rfl dX7_plainStep_311 ?_
            refine lv_iconst (v := 1) hx hb dX7_plainStep_314 (by decide) ?_
            refine lv_iand hx hb dX7_plainStep_315 ?_
            refine lv_iconst (v := 1) hx hb dX7_plainStep_316 (by decide) ?_
            refine vj_join (j := 325) (rest := []) (Hyp := fun z H locs => z = (if (mo_a &&& (1:Int32)) = (1:Int32) then (1:Int32) else (0:Int32)) ∧ va_P (dC, dI) vwCl (wwX7 q_mo q_mra q_mrA q_mrc q_mrk q_mpi q_mwc q_mwo q_mco q_mpo q_mky q_mla q_mcn q_mct k_mra k_mrA k_mrc k_mrk k_mpi k_mwc k_mwo k_mco k_mpo k_mky k_mla k_mcn k_mct mo_port mo_line mo_cycle mo_raised mo_idle mo_bad mo_glyph mo_fetched mo_rows mo_flags2_5 mo_enabled mo_a mo_x mo_y mo_s (fX7_put (8:Int32) (0:Int32) mo_flags) mo_p mo_jammed mo_code (0:Int32) mo_low mo_high mo_old mo_latest_5 mo_cycles mo_stolen mo_interrupts mo_accesses_5 f_mra f_mrA f_mrc f_mrk f_mpi f_mwc f_mwo f_mco f_mpo f_mky f_mla f_mcn f_mct) H ∧ va_S A s.heap H locs) (fun z H locs hh => ?_) (fun J325 => ?_)
            · obtain ⟨hz, hP, hS⟩ := hh
              subst hz
              refine lv_istore_n (lv' := [(2, .int (if (mo_a &&& (1:Int32)) = (1:Int32) then (1:Int32) else (0:Int32))), (1, .int mo_code), (0, .ref q_mo)]) hx hb dX7_plainStep_325 rfl hl (by decide) rfl (fun ls hl => ?_)
              refine lv_iload_n hx hb dX7_plainStep_326 rfl (lv_at hl 1 rfl) ?_
              refine lv_bipush (v := 10) hx hb dX7_plainStep_327 (by decide) ?_
              refine lv_icmp_ne (tgt := 350) hx hb dX7_plainStep_329 (by decide) (fun c_329 => ?_) (fun c_329 => by exact absurd c_329 (by rw [c_79]; decide))
              refine lv_iload_n hx hb dX7_plainStep_350 rfl (lv_at hl 1 rfl) ?_
              refine lv_bipush (v := 74) hx hb dX7_plainStep_351 (by decide) ?_
              refine lv_icmp_ne (tgt := 370) hx hb dX7_plainStep_353 (by decide) (fun c_353 => ?_) (fun c_353 => by exact absurd c_353 (by rw [c_79]; decide))
              refine lv_iload_n hx hb dX7_plainStep_370 rfl (lv_at hl 1 rfl) ?_
              refine lv_bipush (v := 10) hx hb dX7_plainStep_371 (by decide) ?_
              refine lv_icmp_eq (tgt := 382) hx hb dX7_plainStep_373 (by decide) (fun c_373 => by exact absurd c_373 (by rw [c_79]; decide)) (fun c_373 => ?_)
              refine lv_iload_n hx hb dX7_plainStep_376 rfl (lv_at hl 1 rfl) ?_
              refine lv_bipush (v := 74) hx hb dX7_plainStep_377 (by decide) ?_
              refine lv_icmp_ne (tgt := 388) hx hb dX7_plainStep_379 (by decide) (fun c_379 => ?_) (fun c_379 => by exact absurd c_379 (by rw [c_79]; decide))
              exact W.vret hx hb hr (fun t ht hW => ⟨⟨(mo_flags2_5, mo_a, mo_x, mo_y, (fX7_put (8:Int32) (0:Int32) mo_flags), (0:Int32), mo_latest_5, mo_accesses_5), rfl, hF.symm, by rw [ht]; exact hP, va_K.moved hW.alike hK, hD⟩, hS.F ht⟩) hS.2.2 dX7_plainStep_388
            · refine lv_icmp_ne (tgt := 324) hx hb dX7_plainStep_317 (by decide) (fun c_317 => ?_) (fun c_317 => ?_)
              · refine lv_iconst (v := 0) hx hb dX7_plainStep_324 (by decide) ?_
                exact J325 _ _ _ ⟨by rw [if_neg c_317], hP, hS⟩
              · refine lv_iconst (v := 1) hx hb dX7_plainStep_320 (by decide) ?_
                refine lv_goto (tgt := 325) hx hb dX7_plainStep_321 (by decide) ?_
                exact J325 _ _ _ ⟨by rw [if_pos c_317], hP, hS⟩
          · have hF := hF.trans (if_neg c_79)
            refine lv_iload_n hx hb dX7_plainStep_82 rfl (lv_at hl 0 rfl) ?_
            refine lv_sipush (v := 248) hx hb dX7_plainStep_83 (by decide) ?_
            refine lv_icmp_ne (tgt := 107) hx hb dX7_plainStep_86 (by decide) (fun c_86 => ?_) (fun c_86 => ?_)
            · have hF := hF.trans (if_neg c_86)
              refine lv_iload_n hx hb dX7_plainStep_107 rfl (lv_at hl 0 rfl) ?_
              refine lv_sipush (v := 170) hx hb dX7_plainStep_108 (by decide) ?_
              refine lv_icmp_ne (tgt := 126) hx hb dX7_plainStep_111 (by decide) (fun c_111 => ?_) (fun c_111 => ?_)
              · have hF := hF.trans (if_neg c_111)
                refine lv_iload_n hx hb dX7_plainStep_126 rfl (lv_at hl 0 rfl) ?_
                refine lv_sipush (v := 138) hx hb dX7_plainStep_127 (by decide) ?_
                refine lv_icmp_ne (tgt := 145) hx hb dX7_plainStep_130 (by decide) (fun c_130 => ?_) (fun c_130 => ?_)
                · have hF := hF.trans (if_neg c_130)
                  refine lv_iload_n hx hb dX7_plainStep_145 rfl (lv_at hl 0 rfl) ?_
                  refine lv_sipush (v := 168) hx hb dX7_plainStep_146 (by decide) ?_
                  refine lv_icmp_ne (tgt := 164) hx hb dX7_plainStep_149 (by decide) (fun c_149 => ?_) (fun c_149 => ?_)
                  · have hF := hF.trans (if_neg c_149)
                    refine lv_iload_n hx hb dX7_plainStep_164 rfl (lv_at hl 0 rfl) ?_
                    refine lv_sipush (v := 152) hx hb dX7_plainStep_165 (by decide) ?_
                    refine lv_icmp_ne (tgt := 183) hx hb dX7_plainStep_168 (by decide) (fun c_168 => ?_) (fun c_168 => ?_)
                    · have hF := hF.trans (if_neg c_168)
                      refine lv_iload_n hx hb dX7_plainStep_183 rfl (lv_at hl 0 rfl) ?_
                      refine lv_sipush (v := 232) hx hb dX7_plainStep_184 (by decide) ?_
                      refine lv_icmp_ne (tgt := 208) hx hb dX7_plainStep_187 (by decide) (fun c_187 => ?_) (fun c_187 => ?_)
                      · have hF := hF.trans (if_neg c_187)
                        refine lv_iload_n hx hb dX7_plainStep_208 rfl (lv_at hl 0 rfl) ?_
                        refine lv_sipush (v := 200) hx hb dX7_plainStep_209 (by decide) ?_
                        refine lv_icmp_ne (tgt := 233) hx hb dX7_plainStep_212 (by decide) (fun c_212 => ?_) (fun c_212 => ?_)
                        · have hF := hF.trans (if_neg c_212)
                          refine lv_iload_n hx hb dX7_plainStep_233 rfl (lv_at hl 0 rfl) ?_
                          refine lv_sipush (v := 202) hx hb dX7_plainStep_234 (by decide) ?_
                          refine lv_icmp_ne (tgt := 260) hx hb dX7_plainStep_237 (by decide) (fun c_237 => ?_) (fun c_237 => ?_)
                          · have hF := hF.trans (if_neg c_237)
                            refine lv_iload_n hx hb dX7_plainStep_260 rfl (lv_at hl 0 rfl) ?_
                            refine lv_sipush (v := 136) hx hb dX7_plainStep_261 (by decide) ?_
                            refine lv_icmp_ne (tgt := 287) hx hb dX7_plainStep_264 (by decide) (fun c_264 => ?_) (fun c_264 => ?_)
                            · have hF := hF.trans (if_neg c_264)
                              refine lv_iload_n hx hb dX7_plainStep_287 rfl (lv_at hl 0 rfl) ?_
                              refine lv_bipush (v := 10) hx hb dX7_plainStep_288 (by decide) ?_
                              refine vj_join (j := 325) (rest := []) (Hyp := fun z H locs => z = (if mo_code = (10:Int32) then (if mo_a ≤ (127:Int32) then (0:Int32) else (1:Int32)) else (if (mo_a &&& (1:Int32)) = (1:Int32) then (1:Int32) else (0:Int32))) ∧ va_P (dC, dI) vwCl (wwX7 q_mo q_mra q_mrA q_mrc q_mrk q_mpi q_mwc q_mwo q_mco q_mpo q_mky q_mla q_mcn q_mct k_mra k_mrA k_mrc k_mrk k_mpi k_mwc k_mwo k_mco k_mpo k_mky k_mla k_mcn k_mct mo_port mo_line mo_cycle mo_raised mo_idle mo_bad mo_glyph mo_fetched mo_rows mo_flags2_5 mo_enabled mo_a mo_x mo_y mo_s mo_flags mo_p mo_jammed mo_code (0:Int32) mo_low mo_high mo_old mo_latest_5 mo_cycles mo_stolen mo_interrupts mo_accesses_5 f_mra f_mrA f_mrc f_mrk f_mpi f_mwc f_mwo f_mco f_mpo f_mky f_mla f_mcn f_mct) H ∧ va_S A s.heap H locs) (fun z H locs hh => ?_) (fun J325 => ?_)
                              · obtain ⟨hz, hP, hS⟩ := hh
                                subst hz
                                refine lv_istore_n (lv' := [(2, .int (if mo_code = (10:Int32) then (if mo_a ≤ (127:Int32) then (0:Int32) else (1:Int32)) else (if (mo_a &&& (1:Int32)) = (1:Int32) then (1:Int32) else (0:Int32)))), (1, .int mo_code), (0, .ref q_mo)]) hx hb dX7_plainStep_325 rfl hl (by decide) rfl (fun ls hl => ?_)
                                refine lv_iload_n hx hb dX7_plainStep_326 rfl (lv_at hl 1 rfl) ?_
                                refine lv_bipush (v := 10) hx hb dX7_plainStep_327 (by decide) ?_
                                refine lv_icmp_ne (tgt := 350) hx hb dX7_plainStep_329 (by decide) (fun c_329 => ?_) (fun c_329 => ?_)
                                · have hF := hF.trans (if_neg c_329)
                                  refine lv_iload_n hx hb dX7_plainStep_350 rfl (lv_at hl 1 rfl) ?_
                                  refine lv_bipush (v := 74) hx hb dX7_plainStep_351 (by decide) ?_
                                  refine lv_icmp_ne (tgt := 370) hx hb dX7_plainStep_353 (by decide) (fun c_353 => ?_) (fun c_353 => ?_)
                                  · have hF := hF.trans (if_neg c_353)
                                    refine lv_iload_n hx hb dX7_plainStep_370 rfl (lv_at hl 1 rfl) ?_
                                    refine lv_bipush (v := 10) hx hb dX7_plainStep_371 (by decide) ?_
                                    refine lv_icmp_eq (tgt := 382) hx hb dX7_plainStep_373 (by decide) (fun c_373 => by exact absurd c_373 c_329) (fun c_373 => ?_)
                                    refine lv_iload_n hx hb dX7_plainStep_376 rfl (lv_at hl 1 rfl) ?_
                                    refine lv_bipush (v := 74) hx hb dX7_plainStep_377 (by decide) ?_
                                    refine lv_icmp_ne (tgt := 388) hx hb dX7_plainStep_379 (by decide) (fun c_379 => ?_) (fun c_379 => by exact absurd c_379 c_353)
                                    exact W.vret hx hb hr (fun t ht hW => ⟨⟨(mo_flags2_5, mo_a, mo_x, mo_y, mo_flags, (0:Int32), mo_latest_5, mo_accesses_5), rfl, hF.symm, by rw [ht]; exact hP, va_K.moved hW.alike hK, hD⟩, hS.F ht⟩) hS.2.2 dX7_plainStep_388
                                  · have hF := hF.trans (if_pos c_353)
                                    refine lv_aload_n hx hb dX7_plainStep_356 rfl (lv_at hl 2 rfl) ?_
                                    refine lv_aload_n hx hb dX7_plainStep_357 rfl (lv_at hl 2 rfl) ?_
                                    refine lv_aload_n hx hb dX7_plainStep_358 rfl (lv_at hl 2 rfl) ?_
                                    refine va_get (D := (dC, dI)) (ci := 7) (v := .int mo_a) (C := RX7) (T := TX7) (N := 41) hx hb hts hiX7 hown hK hP 0 rfl rfl 24 (by decide) (hts _ kFX7_136) (fun _ h9 => h9) rfl dX7_plainStep_359 ?_
                                    refine lv_iconst (v := 2) hx hb dX7_plainStep_362 (by decide) ?_
                                    refine lv_idiv hx hb dX7_plainStep_363 (by decide) ?_
                                    have hPc := hP.sub (ws' := (wwX7 q_mo q_mra q_mrA q_mrc q_mrk q_mpi q_mwc q_mwo q_mco q_mpo q_mky q_mla q_mcn q_mct k_mra k_mrA k_mrc k_mrk k_mpi k_mwc k_mwo k_mco k_mpo k_mky k_mla k_mcn k_mct mo_port mo_line mo_cycle mo_raised mo_idle mo_bad mo_glyph mo_fetched mo_rows mo_flags2_5 mo_enabled mo_a mo_x mo_y mo_s mo_flags mo_p mo_jammed mo_code (0:Int32) mo_low mo_high mo_old mo_latest_5 mo_cycles mo_stolen mo_interrupts mo_accesses_5 f_mra f_mrA f_mrc f_mrk f_mpi f_mwc f_mwo f_mco f_mpo f_mky f_mla f_mcn f_mct)) [0, 1, 2, 3, 4, 5, 6, 7, 8, 9, 10, 11, 12, 13] rfl
                                    have hDc := hD.sub (ws' := (wwX7 q_mo q_mra q_mrA q_mrc q_mrk q_mpi q_mwc q_mwo q_mco q_mpo q_mky q_mla q_mcn q_mct k_mra k_mrA k_mrc k_mrk k_mpi k_mwc k_mwo k_mco k_mpo k_mky k_mla k_mcn k_mct mo_port mo_line mo_cycle mo_raised mo_idle mo_bad mo_glyph mo_fetched mo_rows mo_flags2_5 mo_enabled mo_a mo_x mo_y mo_s mo_flags mo_p mo_jammed mo_code (0:Int32) mo_low mo_high mo_old mo_latest_5 mo_cycles mo_stolen mo_interrupts mo_accesses_5 f_mra f_mrA f_mrc f_mrk f_mpi f_mwc f_mwo f_mco f_mpo f_mky f_mla f_mcn f_mct)) [0, 1, 2, 3, 4, 5, 6, 7, 8, 9, 10, 11, 12, 13] (by decide) rfl
                                    have hKc := hK.sub (tys' := [(k_mra, .int), (k_mrA, .int), (k_mrc, .int), (k_mrk, .int), (k_mpi, .int), (k_mwc, .int), (k_mwo, .int), (k_mco, .int), (k_mpo, .int), (k_mky, .int), (k_mla, .int), (k_mcn, .int), (k_mct, .int)]) [0, 1, 2, 3, 4, 5, 6, 7, 8, 9, 10, 11, 12] rfl
                                    have hFc := va_free (wc := (wwX7 q_mo q_mra q_mrA q_mrc q_mrk q_mpi q_mwc q_mwo q_mco q_mpo q_mky q_mla q_mcn q_mct k_mra k_mrA k_mrc k_mrk k_mpi k_mwc k_mwo k_mco k_mpo k_mky k_mla k_mcn k_mct mo_port mo_line mo_cycle mo_raised mo_idle mo_bad mo_glyph mo_fetched mo_rows mo_flags2_5 mo_enabled mo_a mo_x mo_y mo_s mo_flags mo_p mo_jammed mo_code (0:Int32) mo_low mo_high mo_old mo_latest_5 mo_cycles mo_stolen mo_interrupts mo_accesses_5 f_mra f_mrA f_mrc f_mrk f_mpi f_mwc f_mwo f_mco f_mpo f_mky f_mla f_mcn f_mct)) hD hS hA [0, 1, 2, 3, 4, 5, 6, 7, 8, 9, 10, 11, 12, 13] rfl
                                    refine va_calli (va_runV (As := [.int (mo_a / (2:Int32))]) (rest := [.ref q_mo]) ⟨hx, hb, hml, hown, hts⟩ (mX7_judged l dC dI q_mo q_mra q_mrA q_mrc q_mrk q_mpi q_mwc q_mwo q_mco q_mpo q_mky q_mla q_mcn q_mct k_mra k_mrA k_mrc k_mrk k_mpi k_mwc k_mwo k_mco k_mpo k_mky k_mla k_mcn k_mct H.size mo_port mo_line mo_cycle mo_raised mo_idle mo_bad mo_glyph mo_fetched mo_rows mo_flags2_5 mo_enabled mo_a mo_x mo_y mo_s mo_flags mo_p mo_jammed mo_code (0:Int32) mo_low mo_high mo_old mo_latest_5 mo_cycles mo_stolen mo_interrupts mo_accesses_5 f_mra f_mrA f_mrc f_mrk f_mpi f_mwc f_mwo f_mco f_mpo f_mky f_mla f_mcn f_mct (mo_a / (2:Int32))) (cwV 1 hts (ub_V kMX7_173 kYX7_judged kSX7_judged kIX7 kBX7_judged) rfl rfl rfl (by decide +kernel) ⟨Nat.le_of_ble_eq_true rfl, Nat.le_of_ble_eq_true rfl⟩) ⟨fun a U g mk q => by obtain ⟨q0, q1, qP, qK, qD⟩ := q; exact ⟨q0, q1, qP, va_K.moved (u := U) (U := U.calling g mk a) (Vm.Alike.refl U.vm) qK, qD⟩, va_recv hKc hPc (ci := 7) (q0 := 0) rfl rfl, fun U hU hW => ⟨rfl, by rw [hU], by rw [hU]; exact hPc, va_K.moved hW.alike hKc, hDc.weaken (fun _ _ _ _ => trivial)⟩⟩ rfl rfl hl.1 rfl (lv_room (Nat.le_of_ble_eq_true rfl)) dX7_plainStep_364 ⟨(Nat.zero_le _), (Nat.zero_le _)⟩) hS (fun q _ h => hFc q h) hFc (fun r_364 u_364 t H locs ht hvm hw hB hz1 hk1 hS => ?_)
                                    obtain ⟨mo_flags_364, rfl⟩ : ∃ z, z = u_364 := ⟨_, rfl⟩
                                    obtain ⟨hP1, hK1, hD1⟩ := hB
                                    rw [ht] at hP1
                                    obtain ⟨hP, hD⟩ := vb_bk2 (wc := (wwX7 q_mo q_mra q_mrA q_mrc q_mrk q_mpi q_mwc q_mwo q_mco q_mpo q_mky q_mla q_mcn q_mct k_mra k_mrA k_mrc k_mrk k_mpi k_mwc k_mwo k_mco k_mpo k_mky k_mla k_mcn k_mct mo_port mo_line mo_cycle mo_raised mo_idle mo_bad mo_glyph mo_fetched mo_rows mo_flags2_5 mo_enabled mo_a mo_x mo_y mo_s mo_flags mo_p mo_jammed mo_code (0:Int32) mo_low mo_high mo_old mo_latest_5 mo_cycles mo_stolen mo_interrupts mo_accesses_5 f_mra f_mrA f_mrc f_mrk f_mpi f_mwc f_mwo f_mco f_mpo f_mky f_mla f_mcn f_mct)) (ws' := (wwX7 q_mo q_mra q_mrA q_mrc q_mrk q_mpi q_mwc q_mwo q_mco q_mpo q_mky q_mla q_mcn q_mct k_mra k_mrA k_mrc k_mrk k_mpi k_mwc k_mwo k_mco k_mpo k_mky k_mla k_mcn k_mct mo_port mo_line mo_cycle mo_raised mo_idle mo_bad mo_glyph mo_fetched mo_rows mo_flags2_5 mo_enabled mo_a mo_x mo_y mo_s mo_flags_364 mo_p mo_jammed mo_code (0:Int32) mo_low mo_high mo_old mo_latest_5 mo_cycles mo_stolen mo_interrupts mo_accesses_5 f_mra f_mrA f_mrc f_mrk f_mpi f_mwc f_mwo f_mco f_mpo f_mky f_mla f_mcn f_mct)) hP hD hD1 [0, 1, 2, 3, 4, 5, 6, 7, 8, 9, 10, 11, 12, 13] [] rfl [q_mo, q_mra, q_mrA, q_mrc, q_mrk, q_mpi, q_mwc, q_mwo, q_mco, q_mpo, q_mky, q_mla, q_mcn, q_mct] rfl rfl ae_n rfl rfl hk1 hP1
                                    rw [← hw] at hF
                                    dsimp only at hF
                                    refine va_put (D := (dC, dI)) (ci := 7) (v := .int r_364) (ty := .int) (C := RX7) (T := TX7) (N := 41) hx hb hts hiX7 tyX7 tyX7_ok nmX7 hown hK hP hD hS 0 rfl rfl 24 (by decide) (hts _ kFX7_136) (fun _ h9 => h9) rfl (by decide +kernel) rfl rfl (Nat.le_of_ble_eq_true rfl) dX7_plainStep_367 (fun H locs hP hD hS => ?_)
                                    have hP : va_P (dC, dI) vwCl (wwX7 q_mo q_mra q_mrA q_mrc q_mrk q_mpi q_mwc q_mwo q_mco q_mpo q_mky q_mla q_mcn q_mct k_mra k_mrA k_mrc k_mrk k_mpi k_mwc k_mwo k_mco k_mpo k_mky k_mla k_mcn k_mct mo_port mo_line mo_cycle mo_raised mo_idle mo_bad mo_glyph mo_fetched mo_rows mo_flags2_5 mo_enabled r_364 mo_x mo_y mo_s mo_flags_364 mo_p mo_jammed mo_code (0:Int32) mo_low mo_high mo_old mo_latest_5 mo_cycles mo_stolen mo_interrupts mo_accesses_5 f_mra f_mrA f_mrc f_mrk f_mpi f_mwc f_mwo f_mco f_mpo f_mky f_mla f_mcn f_mct) H := hP
                                    have hD : va_D A (wwX7 q_mo q_mra q_mrA q_mrc q_mrk q_mpi q_mwc q_mwo q_mco q_mpo q_mky q_mla q_mcn q_mct k_mra k_mrA k_mrc k_mrk k_mpi k_mwc k_mwo k_mco k_mpo k_mky k_mla k_mcn k_mct mo_port mo_line mo_cycle mo_raised mo_idle mo_bad mo_glyph mo_fetched mo_rows mo_flags2_5 mo_enabled r_364 mo_x mo_y mo_s mo_flags_364 mo_p mo_jammed mo_code (0:Int32) mo_low mo_high mo_old mo_latest_5 mo_cycles mo_stolen mo_interrupts mo_accesses_5 f_mra f_mrA f_mrc f_mrk f_mpi f_mwc f_mwo f_mco f_mpo f_mky f_mla f_mcn f_mct) := hD
                                    refine lv_iload_n hx hb dX7_plainStep_370 rfl (lv_at hl 1 rfl) ?_
                                    refine lv_bipush (v := 10) hx hb dX7_plainStep_371 (by decide) ?_
                                    refine lv_icmp_eq (tgt := 382) hx hb dX7_plainStep_373 (by decide) (fun c_373 => by exact absurd c_373 c_329) (fun c_373 => ?_)
                                    refine lv_iload_n hx hb dX7_plainStep_376 rfl (lv_at hl 1 rfl) ?_
                                    refine lv_bipush (v := 74) hx hb dX7_plainStep_377 (by decide) ?_
                                    refine lv_icmp_ne (tgt := 388) hx hb dX7_plainStep_379 (by decide) (fun c_379 => by exact absurd c_353 c_379) (fun c_379 => ?_)
                                    refine lv_aload_n hx hb dX7_plainStep_382 rfl (lv_at hl 2 rfl) ?_
                                    refine lv_iconst (v := 1) hx hb dX7_plainStep_383 (by decide) ?_
                                    refine lv_iload_n hx hb dX7_plainStep_384 rfl (lv_at hl 0 rfl) ?_
                                    have hPc := hP.sub (ws' := (wwX7 q_mo q_mra q_mrA q_mrc q_mrk q_mpi q_mwc q_mwo q_mco q_mpo q_mky q_mla q_mcn q_mct k_mra k_mrA k_mrc k_mrk k_mpi k_mwc k_mwo k_mco k_mpo k_mky k_mla k_mcn k_mct mo_port mo_line mo_cycle mo_raised mo_idle mo_bad mo_glyph mo_fetched mo_rows mo_flags2_5 mo_enabled r_364 mo_x mo_y mo_s mo_flags_364 mo_p mo_jammed mo_code (0:Int32) mo_low mo_high mo_old mo_latest_5 mo_cycles mo_stolen mo_interrupts mo_accesses_5 f_mra f_mrA f_mrc f_mrk f_mpi f_mwc f_mwo f_mco f_mpo f_mky f_mla f_mcn f_mct)) [0, 1, 2, 3, 4, 5, 6, 7, 8, 9, 10, 11, 12, 13] rfl
                                    have hDc := hD.sub (ws' := (wwX7 q_mo q_mra q_mrA q_mrc q_mrk q_mpi q_mwc q_mwo q_mco q_mpo q_mky q_mla q_mcn q_mct k_mra k_mrA k_mrc k_mrk k_mpi k_mwc k_mwo k_mco k_mpo k_mky k_mla k_mcn k_mct mo_port mo_line mo_cycle mo_raised mo_idle mo_bad mo_glyph mo_fetched mo_rows mo_flags2_5 mo_enabled r_364 mo_x mo_y mo_s mo_flags_364 mo_p mo_jammed mo_code (0:Int32) mo_low mo_high mo_old mo_latest_5 mo_cycles mo_stolen mo_interrupts mo_accesses_5 f_mra f_mrA f_mrc f_mrk f_mpi f_mwc f_mwo f_mco f_mpo f_mky f_mla f_mcn f_mct)) [0, 1, 2, 3, 4, 5, 6, 7, 8, 9, 10, 11, 12, 13] (by decide) rfl
                                    have hKc := hK.sub (tys' := [(k_mra, .int), (k_mrA, .int), (k_mrc, .int), (k_mrk, .int), (k_mpi, .int), (k_mwc, .int), (k_mwo, .int), (k_mco, .int), (k_mpo, .int), (k_mky, .int), (k_mla, .int), (k_mcn, .int), (k_mct, .int)]) [0, 1, 2, 3, 4, 5, 6, 7, 8, 9, 10, 11, 12] rfl
                                    have hFc := va_free (wc := (wwX7 q_mo q_mra q_mrA q_mrc q_mrk q_mpi q_mwc q_mwo q_mco q_mpo q_mky q_mla q_mcn q_mct k_mra k_mrA k_mrc k_mrk k_mpi k_mwc k_mwo k_mco k_mpo k_mky k_mla k_mcn k_mct mo_port mo_line mo_cycle mo_raised mo_idle mo_bad mo_glyph mo_fetched mo_rows mo_flags2_5 mo_enabled r_364 mo_x mo_y mo_s mo_flags_364 mo_p mo_jammed mo_code (0:Int32) mo_low mo_high mo_old mo_latest_5 mo_cycles mo_stolen mo_interrupts mo_accesses_5 f_mra f_mrA f_mrc f_mrk f_mpi f_mwc f_mwo f_mco f_mpo f_mky f_mla f_mcn f_mct)) hD hS hA [0, 1, 2, 3, 4, 5, 6, 7, 8, 9, 10, 11, 12, 13] rfl
                                    refine va_callv (va_runV (As := [.int (1:Int32), .int (if mo_code = (10:Int32) then (if mo_a ≤ (127:Int32) then (0:Int32) else (1:Int32)) else (if (mo_a &&& (1:Int32)) = (1:Int32) then (1:Int32) else (0:Int32)))]) (rest := []) ⟨hx, hb, hml, hown, hts⟩ (mX7_put l dC dI q_mo q_mra q_mrA q_mrc q_mrk q_mpi q_mwc q_mwo q_mco q_mpo q_mky q_mla q_mcn q_mct k_mra k_mrA k_mrc k_mrk k_mpi k_mwc k_mwo k_mco k_mpo k_mky k_mla k_mcn k_mct H.size mo_port mo_line mo_cycle mo_raised mo_idle mo_bad mo_glyph mo_fetched mo_rows mo_flags2_5 mo_enabled r_364 mo_x mo_y mo_s mo_flags_364 mo_p mo_jammed mo_code (0:Int32) mo_low mo_high mo_old mo_latest_5 mo_cycles mo_stolen mo_interrupts mo_accesses_5 f_mra f_mrA f_mrc f_mrk f_mpi f_mwc f_mwo f_mco f_mpo f_mky f_mla f_mcn f_mct (1:Int32) (if mo_code = (10:Int32) then (if mo_a ≤ (127:Int32) then (0:Int32) else (1:Int32)) else (if (mo_a &&& (1:Int32)) = (1:Int32) then (1:Int32) else (0:Int32)))) (cwV 2 hts (ub_V kMX7_157 kYX7_put kSX7_put kIX7 kBX7_put) rfl rfl rfl (by decide +kernel) ⟨Nat.le_of_ble_eq_true rfl, Nat.le_of_ble_eq_true rfl⟩) ⟨fun a U g mk q => by obtain ⟨q0, q1, qP, qK, qD⟩ := q; exact ⟨q0, q1, qP, va_K.moved (u := U) (U := U.calling g mk a) (Vm.Alike.refl U.vm) qK, qD⟩, va_recv hKc hPc (ci := 7) (q0 := 0) rfl rfl, fun U hU hW => ⟨rfl, by rw [hU], by rw [hU]; exact hPc, va_K.moved hW.alike hKc, hDc.weaken (fun _ _ _ _ => trivial)⟩⟩ rfl rfl hl.1 rfl (lv_room (Nat.le_of_ble_eq_true rfl)) dX7_plainStep_385 ⟨(Nat.zero_le _), (Nat.zero_le _)⟩) hS (fun q _ h => hFc q h) hFc (fun u_385 t H locs ht hvm hw hB hz1 hk1 hS => ?_)
                                    obtain ⟨hP1, hK1, hD1⟩ := hB
                                    rw [ht] at hP1
                                    subst hw
                                    obtain ⟨hP, hD⟩ := vb_bk2 (wc := (wwX7 q_mo q_mra q_mrA q_mrc q_mrk q_mpi q_mwc q_mwo q_mco q_mpo q_mky q_mla q_mcn q_mct k_mra k_mrA k_mrc k_mrk k_mpi k_mwc k_mwo k_mco k_mpo k_mky k_mla k_mcn k_mct mo_port mo_line mo_cycle mo_raised mo_idle mo_bad mo_glyph mo_fetched mo_rows mo_flags2_5 mo_enabled r_364 mo_x mo_y mo_s mo_flags_364 mo_p mo_jammed mo_code (0:Int32) mo_low mo_high mo_old mo_latest_5 mo_cycles mo_stolen mo_interrupts mo_accesses_5 f_mra f_mrA f_mrc f_mrk f_mpi f_mwc f_mwo f_mco f_mpo f_mky f_mla f_mcn f_mct)) (ws' := (wwX7 q_mo q_mra q_mrA q_mrc q_mrk q_mpi q_mwc q_mwo q_mco q_mpo q_mky q_mla q_mcn q_mct k_mra k_mrA k_mrc k_mrk k_mpi k_mwc k_mwo k_mco k_mpo k_mky k_mla k_mcn k_mct mo_port mo_line mo_cycle mo_raised mo_idle mo_bad mo_glyph mo_fetched mo_rows mo_flags2_5 mo_enabled r_364 mo_x mo_y mo_s (fX7_put (1:Int32) (if mo_code = (10:Int32) then (if mo_a ≤ (127:Int32) then (0:Int32) else (1:Int32)) else (if (mo_a &&& (1:Int32)) = (1:Int32) then (1:Int32) else (0:Int32))) mo_flags_364) mo_p mo_jammed mo_code (0:Int32) mo_low mo_high mo_old mo_latest_5 mo_cycles mo_stolen mo_interrupts mo_accesses_5 f_mra f_mrA f_mrc f_mrk f_mpi f_mwc f_mwo f_mco f_mpo f_mky f_mla f_mcn f_mct)) hP hD hD1 [0, 1, 2, 3, 4, 5, 6, 7, 8, 9, 10, 11, 12, 13] [] rfl [q_mo, q_mra, q_mrA, q_mrc, q_mrk, q_mpi, q_mwc, q_mwo, q_mco, q_mpo, q_mky, q_mla, q_mcn, q_mct] rfl rfl ae_n rfl rfl hk1 hP1
                                    exact W.vret hx hb hr (fun t ht hW => ⟨⟨(mo_flags2_5, r_364, mo_x, mo_y, (fX7_put (1:Int32) (if mo_code = (10:Int32) then (if mo_a ≤ (127:Int32) then (0:Int32) else (1:Int32)) else (if (mo_a &&& (1:Int32)) = (1:Int32) then (1:Int32) else (0:Int32))) mo_flags_364), (0:Int32), mo_latest_5, mo_accesses_5), rfl, hF.symm, by rw [ht]; exact hP, va_K.moved hW.alike hK, hD⟩, hS.F ht⟩) hS.2.2 dX7_plainStep_388
                                · have hF := hF.trans (if_pos c_329)
                                  refine lv_aload_n hx hb dX7_plainStep_332 rfl (lv_at hl 2 rfl) ?_
                                  refine lv_aload_n hx hb dX7_plainStep_333 rfl (lv_at hl 2 rfl) ?_
                                  refine lv_iconst (v := 2) hx hb dX7_plainStep_334 (by decide) ?_
                                  refine lv_aload_n hx hb dX7_plainStep_335 rfl (lv_at hl 2 rfl) ?_
                                  refine va_get (D := (dC, dI)) (ci := 7) (v := .int mo_a) (C := RX7) (T := TX7) (N := 41) hx hb hts hiX7 hown hK hP 0 rfl rfl 24 (by decide) (hts _ kFX7_136) (fun _ h9 => h9) rfl dX7_plainStep_336 ?_
                                  refine lv_imul hx hb dX7_plainStep_339 ?_
                                  refine lv_sipush (v := 255) hx hb dX7_plainStep_340 (by decide) ?_
                                  refine lv_iand hx hb dX7_plainStep_343 ?_
                                  have hPc := hP.sub (ws' := (wwX7 q_mo q_mra q_mrA q_mrc q_mrk q_mpi q_mwc q_mwo q_mco q_mpo q_mky q_mla q_mcn q_mct k_mra k_mrA k_mrc k_mrk k_mpi k_mwc k_mwo k_mco k_mpo k_mky k_mla k_mcn k_mct mo_port mo_line mo_cycle mo_raised mo_idle mo_bad mo_glyph mo_fetched mo_rows mo_flags2_5 mo_enabled mo_a mo_x mo_y mo_s mo_flags mo_p mo_jammed mo_code (0:Int32) mo_low mo_high mo_old mo_latest_5 mo_cycles mo_stolen mo_interrupts mo_accesses_5 f_mra f_mrA f_mrc f_mrk f_mpi f_mwc f_mwo f_mco f_mpo f_mky f_mla f_mcn f_mct)) [0, 1, 2, 3, 4, 5, 6, 7, 8, 9, 10, 11, 12, 13] rfl
                                  have hDc := hD.sub (ws' := (wwX7 q_mo q_mra q_mrA q_mrc q_mrk q_mpi q_mwc q_mwo q_mco q_mpo q_mky q_mla q_mcn q_mct k_mra k_mrA k_mrc k_mrk k_mpi k_mwc k_mwo k_mco k_mpo k_mky k_mla k_mcn k_mct mo_port mo_line mo_cycle mo_raised mo_idle mo_bad mo_glyph mo_fetched mo_rows mo_flags2_5 mo_enabled mo_a mo_x mo_y mo_s mo_flags mo_p mo_jammed mo_code (0:Int32) mo_low mo_high mo_old mo_latest_5 mo_cycles mo_stolen mo_interrupts mo_accesses_5 f_mra f_mrA f_mrc f_mrk f_mpi f_mwc f_mwo f_mco f_mpo f_mky f_mla f_mcn f_mct)) [0, 1, 2, 3, 4, 5, 6, 7, 8, 9, 10, 11, 12, 13] (by decide) rfl
                                  have hKc := hK.sub (tys' := [(k_mra, .int), (k_mrA, .int), (k_mrc, .int), (k_mrk, .int), (k_mpi, .int), (k_mwc, .int), (k_mwo, .int), (k_mco, .int), (k_mpo, .int), (k_mky, .int), (k_mla, .int), (k_mcn, .int), (k_mct, .int)]) [0, 1, 2, 3, 4, 5, 6, 7, 8, 9, 10, 11, 12] rfl
                                  have hFc := va_free (wc := (wwX7 q_mo q_mra q_mrA q_mrc q_mrk q_mpi q_mwc q_mwo q_mco q_mpo q_mky q_mla q_mcn q_mct k_mra k_mrA k_mrc k_mrk k_mpi k_mwc k_mwo k_mco k_mpo k_mky k_mla k_mcn k_mct mo_port mo_line mo_cycle mo_raised mo_idle mo_bad mo_glyph mo_fetched mo_rows mo_flags2_5 mo_enabled mo_a mo_x mo_y mo_s mo_flags mo_p mo_jammed mo_code (0:Int32) mo_low mo_high mo_old mo_latest_5 mo_cycles mo_stolen mo_interrupts mo_accesses_5 f_mra f_mrA f_mrc f_mrk f_mpi f_mwc f_mwo f_mco f_mpo f_mky f_mla f_mcn f_mct)) hD hS hA [0, 1, 2, 3, 4, 5, 6, 7, 8, 9, 10, 11, 12, 13] rfl
                                  refine va_calli (va_runV (As := [.int (((2:Int32) * mo_a) &&& (255:Int32))]) (rest := [.ref q_mo]) ⟨hx, hb, hml, hown, hts⟩ (mX7_judged l dC dI q_mo q_mra q_mrA q_mrc q_mrk q_mpi q_mwc q_mwo q_mco q_mpo q_mky q_mla q_mcn q_mct k_mra k_mrA k_mrc k_mrk k_mpi k_mwc k_mwo k_mco k_mpo k_mky k_mla k_mcn k_mct H.size mo_port mo_line mo_cycle mo_raised mo_idle mo_bad mo_glyph mo_fetched mo_rows mo_flags2_5 mo_enabled mo_a mo_x mo_y mo_s mo_flags mo_p mo_jammed mo_code (0:Int32) mo_low mo_high mo_old mo_latest_5 mo_cycles mo_stolen mo_interrupts mo_accesses_5 f_mra f_mrA f_mrc f_mrk f_mpi f_mwc f_mwo f_mco f_mpo f_mky f_mla f_mcn f_mct (((2:Int32) * mo_a) &&& (255:Int32))) (cwV 1 hts (ub_V kMX7_173 kYX7_judged kSX7_judged kIX7 kBX7_judged) rfl rfl rfl (by decide +kernel) ⟨Nat.le_of_ble_eq_true rfl, Nat.le_of_ble_eq_true rfl⟩) ⟨fun a U g mk q => by obtain ⟨q0, q1, qP, qK, qD⟩ := q; exact ⟨q0, q1, qP, va_K.moved (u := U) (U := U.calling g mk a) (Vm.Alike.refl U.vm) qK, qD⟩, va_recv hKc hPc (ci := 7) (q0 := 0) rfl rfl, fun U hU hW => ⟨rfl, by rw [hU], by rw [hU]; exact hPc, va_K.moved hW.alike hKc, hDc.weaken (fun _ _ _ _ => trivial)⟩⟩ rfl rfl hl.1 rfl (lv_room (Nat.le_of_ble_eq_true rfl)) dX7_plainStep_344 ⟨(Nat.zero_le _), (Nat.zero_le _)⟩) hS (fun q _ h => hFc q h) hFc (fun r_344 u_344 t H locs ht hvm hw hB hz1 hk1 hS => ?_)
                                  obtain ⟨mo_flags_344, rfl⟩ : ∃ z, z = u_344 := ⟨_, rfl⟩
                                  obtain ⟨hP1, hK1, hD1⟩ := hB
                                  rw [ht] at hP1
                                  obtain ⟨hP, hD⟩ := vb_bk2 (wc := (wwX7 q_mo q_mra q_mrA q_mrc q_mrk q_mpi q_mwc q_mwo q_mco q_mpo q_mky q_mla q_mcn q_mct k_mra k_mrA k_mrc k_mrk k_mpi k_mwc k_mwo k_mco k_mpo k_mky k_mla k_mcn k_mct mo_port mo_line mo_cycle mo_raised mo_idle mo_bad mo_glyph mo_fetched mo_rows mo_flags2_5 mo_enabled mo_a mo_x mo_y mo_s mo_flags mo_p mo_jammed mo_code (0:Int32) mo_low mo_high mo_old mo_latest_5 mo_cycles mo_stolen mo_interrupts mo_accesses_5 f_mra f_mrA f_mrc f_mrk f_mpi f_mwc f_mwo f_mco f_mpo f_mky f_mla f_mcn f_mct)) (ws' := (wwX7 q_mo q_mra q_mrA q_mrc q_mrk q_mpi q_mwc q_mwo q_mco q_mpo q_mky q_mla q_mcn q_mct k_mra k_mrA k_mrc k_mrk k_mpi k_mwc k_mwo k_mco k_mpo k_mky k_mla k_mcn k_mct mo_port mo_line mo_cycle mo_raised mo_idle mo_bad mo_glyph mo_fetched mo_rows mo_flags2_5 mo_enabled mo_a mo_x mo_y mo_s mo_flags_344 mo_p mo_jammed mo_code (0:Int32) mo_low mo_high mo_old mo_latest_5 mo_cycles mo_stolen mo_interrupts mo_accesses_5 f_mra f_mrA f_mrc f_mrk f_mpi f_mwc f_mwo f_mco f_mpo f_mky f_mla f_mcn f_mct)) hP hD hD1 [0, 1, 2, 3, 4, 5, 6, 7, 8, 9, 10, 11, 12, 13] [] rfl [q_mo, q_mra, q_mrA, q_mrc, q_mrk, q_mpi, q_mwc, q_mwo, q_mco, q_mpo, q_mky, q_mla, q_mcn, q_mct] rfl rfl ae_n rfl rfl hk1 hP1
                                  rw [← hw] at hF
                                  dsimp only at hF
                                  refine va_put (D := (dC, dI)) (ci := 7) (v := .int r_344) (ty := .int) (C := RX7) (T := TX7) (N := 41) hx hb hts hiX7 tyX7 tyX7_ok nmX7 hown hK hP hD hS 0 rfl rfl 24 (by decide) (hts _ kFX7_136) (fun _ h9 => h9) rfl (by decide +kernel) rfl rfl (Nat.le_of_ble_eq_true rfl) dX7_plainStep_347 (fun H locs hP hD hS => ?_)
                                  have hP : va_P (dC, dI) vwCl (wwX7 q_mo q_mra q_mrA q_mrc q_mrk q_mpi q_mwc q_mwo q_mco q_mpo q_mky q_mla q_mcn q_mct k_mra k_mrA k_mrc k_mrk k_mpi k_mwc k_mwo k_mco k_mpo k_mky k_mla k_mcn k_mct mo_port mo_line mo_cycle mo_raised mo_idle mo_bad mo_glyph mo_fetched mo_rows mo_flags2_5 mo_enabled r_344 mo_x mo_y mo_s mo_flags_344 mo_p mo_jammed mo_code (0:Int32) mo_low mo_high mo_old mo_latest_5 mo_cycles mo_stolen mo_interrupts mo_accesses_5 f_mra f_mrA f_mrc f_mrk f_mpi f_mwc f_mwo f_mco f_mpo f_mky f_mla f_mcn f_mct) H := hP
                                  have hD : va_D A (wwX7 q_mo q_mra q_mrA q_mrc q_mrk q_mpi q_mwc q_mwo q_mco q_mpo q_mky q_mla q_mcn q_mct k_mra k_mrA k_mrc k_mrk k_mpi k_mwc k_mwo k_mco k_mpo k_mky k_mla k_mcn k_mct mo_port mo_line mo_cycle mo_raised mo_idle mo_bad mo_glyph mo_fetched mo_rows mo_flags2_5 mo_enabled r_344 mo_x mo_y mo_s mo_flags_344 mo_p mo_jammed mo_code (0:Int32) mo_low mo_high mo_old mo_latest_5 mo_cycles mo_stolen mo_interrupts mo_accesses_5 f_mra f_mrA f_mrc f_mrk f_mpi f_mwc f_mwo f_mco f_mpo f_mky f_mla f_mcn f_mct) := hD
                                  refine lv_iload_n hx hb dX7_plainStep_350 rfl (lv_at hl 1 rfl) ?_
                                  refine lv_bipush (v := 74) hx hb dX7_plainStep_351 (by decide) ?_
                                  refine lv_icmp_ne (tgt := 370) hx hb dX7_plainStep_353 (by decide) (fun c_353 => ?_) (fun c_353 => by exact absurd c_353 (by rw [c_329]; decide))
                                  refine lv_iload_n hx hb dX7_plainStep_370 rfl (lv_at hl 1 rfl) ?_
                                  refine lv_bipush (v := 10) hx hb dX7_plainStep_371 (by decide) ?_
                                  refine lv_icmp_eq (tgt := 382) hx hb dX7_plainStep_373 (by decide) (fun c_373 => ?_) (fun c_373 => by exact absurd c_329 c_373)
                                  refine lv_aload_n hx hb dX7_plainStep_382 rfl (lv_at hl 2 rfl) ?_
                                  refine lv_iconst (v := 1) hx hb dX7_plainStep_383 (by decide) ?_
                                  refine lv_iload_n hx hb dX7_plainStep_384 rfl (lv_at hl 0 rfl) ?_
                                  have hPc := hP.sub (ws' := (wwX7 q_mo q_mra q_mrA q_mrc q_mrk q_mpi q_mwc q_mwo q_mco q_mpo q_mky q_mla q_mcn q_mct k_mra k_mrA k_mrc k_mrk k_mpi k_mwc k_mwo k_mco k_mpo k_mky k_mla k_mcn k_mct mo_port mo_line mo_cycle mo_raised mo_idle mo_bad mo_glyph mo_fetched mo_rows mo_flags2_5 mo_enabled r_344 mo_x mo_y mo_s mo_flags_344 mo_p mo_jammed mo_code (0:Int32) mo_low mo_high mo_old mo_latest_5 mo_cycles mo_stolen mo_interrupts mo_accesses_5 f_mra f_mrA f_mrc f_mrk f_mpi f_mwc f_mwo f_mco f_mpo f_mky f_mla f_mcn f_mct)) [0, 1, 2, 3, 4, 5, 6, 7, 8, 9, 10, 11, 12, 13] rfl
                                  have hDc := hD.sub (ws' := (wwX7 q_mo q_mra q_mrA q_mrc q_mrk q_mpi q_mwc q_mwo q_mco q_mpo q_mky q_mla q_mcn q_mct k_mra k_mrA k_mrc k_mrk k_mpi k_mwc k_mwo k_mco k_mpo k_mky k_mla k_mcn k_mct mo_port mo_line mo_cycle mo_raised mo_idle mo_bad mo_glyph mo_fetched mo_rows mo_flags2_5 mo_enabled r_344 mo_x mo_y mo_s mo_flags_344 mo_p mo_jammed mo_code (0:Int32) mo_low mo_high mo_old mo_latest_5 mo_cycles mo_stolen mo_interrupts mo_accesses_5 f_mra f_mrA f_mrc f_mrk f_mpi f_mwc f_mwo f_mco f_mpo f_mky f_mla f_mcn f_mct)) [0, 1, 2, 3, 4, 5, 6, 7, 8, 9, 10, 11, 12, 13] (by decide) rfl
                                  have hKc := hK.sub (tys' := [(k_mra, .int), (k_mrA, .int), (k_mrc, .int), (k_mrk, .int), (k_mpi, .int), (k_mwc, .int), (k_mwo, .int), (k_mco, .int), (k_mpo, .int), (k_mky, .int), (k_mla, .int), (k_mcn, .int), (k_mct, .int)]) [0, 1, 2, 3, 4, 5, 6, 7, 8, 9, 10, 11, 12] rfl
                                  have hFc := va_free (wc := (wwX7 q_mo q_mra q_mrA q_mrc q_mrk q_mpi q_mwc q_mwo q_mco q_mpo q_mky q_mla q_mcn q_mct k_mra k_mrA k_mrc k_mrk k_mpi k_mwc k_mwo k_mco k_mpo k_mky k_mla k_mcn k_mct mo_port mo_line mo_cycle mo_raised mo_idle mo_bad mo_glyph mo_fetched mo_rows mo_flags2_5 mo_enabled r_344 mo_x mo_y mo_s mo_flags_344 mo_p mo_jammed mo_code (0:Int32) mo_low mo_high mo_old mo_latest_5 mo_cycles mo_stolen mo_interrupts mo_accesses_5 f_mra f_mrA f_mrc f_mrk f_mpi f_mwc f_mwo f_mco f_mpo f_mky f_mla f_mcn f_mct)) hD hS hA [0, 1, 2, 3, 4, 5, 6, 7, 8, 9, 10, 11, 12, 13] rfl
                                  refine va_callv (va_runV (As := [.int (1:Int32), .int (if mo_code = (10:Int32) then (if mo_a ≤ (127:Int32) then (0:Int32) else (1:Int32)) else (if (mo_a &&& (1:Int32)) = (1:Int32) then (1:Int32) else (0:Int32)))]) (rest := []) ⟨hx, hb, hml, hown, hts⟩ (mX7_put l dC dI q_mo q_mra q_mrA q_mrc q_mrk q_mpi q_mwc q_mwo q_mco q_mpo q_mky q_mla q_mcn q_mct k_mra k_mrA k_mrc k_mrk k_mpi k_mwc k_mwo k_mco k_mpo k_mky k_mla k_mcn k_mct H.size mo_port mo_line mo_cycle mo_raised mo_idle mo_bad mo_glyph mo_fetched mo_rows mo_flags2_5 mo_enabled r_344 mo_x mo_y mo_s mo_flags_344 mo_p mo_jammed mo_code (0:Int32) mo_low mo_high mo_old mo_latest_5 mo_cycles mo_stolen mo_interrupts mo_accesses_5 f_mra f_mrA f_mrc f_mrk f_mpi f_mwc f_mwo f_mco f_mpo f_mky f_mla f_mcn f_mct (1:Int32) (if mo_code = (10:Int32) then (if mo_a ≤ (127:Int32) then (0:Int32) else (1:Int32)) else (if (mo_a &&& (1:Int32)) = (1:Int32) then (1:Int32) else (0:Int32)))) (cwV 2 hts (ub_V kMX7_157 kYX7_put kSX7_put kIX7 kBX7_put) rfl rfl rfl (by decide +kernel) ⟨Nat.le_of_ble_eq_true rfl, Nat.le_of_ble_eq_true rfl⟩) ⟨fun a U g mk q => by obtain ⟨q0, q1, qP, qK, qD⟩ := q; exact ⟨q0, q1, qP, va_K.moved (u := U) (U := U.calling g mk a) (Vm.Alike.refl U.vm) qK, qD⟩, va_recv hKc hPc (ci := 7) (q0 := 0) rfl rfl, fun U hU hW => ⟨rfl, by rw [hU], by rw [hU]; exact hPc, va_K.moved hW.alike hKc, hDc.weaken (fun _ _ _ _ => trivial)⟩⟩ rfl rfl hl.1 rfl (lv_room (Nat.le_of_ble_eq_true rfl)) dX7_plainStep_385 ⟨(Nat.zero_le _), (Nat.zero_le _)⟩) hS (fun q _ h => hFc q h) hFc (fun u_385 t H locs ht hvm hw hB hz1 hk1 hS => ?_)
                                  obtain ⟨hP1, hK1, hD1⟩ := hB
                                  rw [ht] at hP1
                                  subst hw
                                  obtain ⟨hP, hD⟩ := vb_bk2 (wc := (wwX7 q_mo q_mra q_mrA q_mrc q_mrk q_mpi q_mwc q_mwo q_mco q_mpo q_mky q_mla q_mcn q_mct k_mra k_mrA k_mrc k_mrk k_mpi k_mwc k_mwo k_mco k_mpo k_mky k_mla k_mcn k_mct mo_port mo_line mo_cycle mo_raised mo_idle mo_bad mo_glyph mo_fetched mo_rows mo_flags2_5 mo_enabled r_344 mo_x mo_y mo_s mo_flags_344 mo_p mo_jammed mo_code (0:Int32) mo_low mo_high mo_old mo_latest_5 mo_cycles mo_stolen mo_interrupts mo_accesses_5 f_mra f_mrA f_mrc f_mrk f_mpi f_mwc f_mwo f_mco f_mpo f_mky f_mla f_mcn f_mct)) (ws' := (wwX7 q_mo q_mra q_mrA q_mrc q_mrk q_mpi q_mwc q_mwo q_mco q_mpo q_mky q_mla q_mcn q_mct k_mra k_mrA k_mrc k_mrk k_mpi k_mwc k_mwo k_mco k_mpo k_mky k_mla k_mcn k_mct mo_port mo_line mo_cycle mo_raised mo_idle mo_bad mo_glyph mo_fetched mo_rows mo_flags2_5 mo_enabled r_344 mo_x mo_y mo_s (fX7_put (1:Int32) (if mo_code = (10:Int32) then (if mo_a ≤ (127:Int32) then (0:Int32) else (1:Int32)) else (if (mo_a &&& (1:Int32)) = (1:Int32) then (1:Int32) else (0:Int32))) mo_flags_344) mo_p mo_jammed mo_code (0:Int32) mo_low mo_high mo_old mo_latest_5 mo_cycles mo_stolen mo_interrupts mo_accesses_5 f_mra f_mrA f_mrc f_mrk f_mpi f_mwc f_mwo f_mco f_mpo f_mky f_mla f_mcn f_mct)) hP hD hD1 [0, 1, 2, 3, 4, 5, 6, 7, 8, 9, 10, 11, 12, 13] [] rfl [q_mo, q_mra, q_mrA, q_mrc, q_mrk, q_mpi, q_mwc, q_mwo, q_mco, q_mpo, q_mky, q_mla, q_mcn, q_mct] rfl rfl ae_n rfl rfl hk1 hP1
                                  exact W.vret hx hb hr (fun t ht hW => ⟨⟨(mo_flags2_5, r_344, mo_x, mo_y, (fX7_put (1:Int32) (if mo_code = (10:Int32) then (if mo_a ≤ (127:Int32) then (0:Int32) else (1:Int32)) else (if (mo_a &&& (1:Int32)) = (1:Int32) then (1:Int32) else (0:Int32))) mo_flags_344), (0:Int32), mo_latest_5, mo_accesses_5), rfl, hF.symm, by rw [ht]; exact hP, va_K.moved hW.alike hK, hD⟩, hS.F ht⟩) hS.2.2 dX7_plainStep_388
                              · refine lv_icmp_ne (tgt := 310) hx hb dX7_plainStep_290 (by decide) (fun c_290 => ?_) (fun c_290 => ?_)
                                · refine lv_aload_n hx hb dX7_plainStep_310 rfl (lv_at hl 1 rfl) ?_
                                  refine va_get (D := (dC, dI)) (ci := 7) (v := .int mo_a) (C := RX7) (T := TX7) (N := 41) hx hb hts hiX7 hown hK hP 0 rfl rfl 24 (by decide) (hts _ kFX7_136) (fun _ h9 => h9) rfl dX7_plainStep_311 ?_
                                  refine lv_iconst (v := 1) hx hb dX7_plainStep_314 (by decide) ?_
                                  refine lv_iand hx hb dX7_plainStep_315 ?_
                                  refine lv_iconst (v := 1) hx hb dX7_plainStep_316 (by decide) ?_
                                  refine lv_icmp_ne (tgt := 324) hx hb dX7_plainStep_317 (by decide) (fun c_317 => ?_) (fun c_317 => ?_)
                                  · refine lv_iconst (v := 0) hx hb dX7_plainStep_324 (by decide) ?_
                                    exact J325 _ _ _ ⟨by rw [if_neg c_290, if_neg c_317], hP, hS⟩
                                  · refine lv_iconst (v := 1) hx hb dX7_plainStep_320 (by decide) ?_
                                    refine lv_goto (tgt := 325) hx hb dX7_plainStep_321 (by decide) ?_
                                    exact J325 _ _ _ ⟨by rw [if_neg c_290, if_pos c_317], hP, hS⟩
                                · refine lv_aload_n hx hb dX7_plainStep_293 rfl (lv_at hl 1 rfl) ?_
                                  refine va_get (D := (dC, dI)) (ci := 7) (v := .int mo_a) (C := RX7) (T := TX7) (N := 41) hx hb hts hiX7 hown hK hP 0 rfl rfl 24 (by decide) (hts _ kFX7_136) (fun _ h9 => h9) rfl dX7_plainStep_294 ?_
                                  refine lv_bipush (v := 127) hx hb dX7_plainStep_297 (by decide) ?_
                                  refine lv_icmp_le (tgt := 306) hx hb dX7_plainStep_299 (by decide) (fun c_299 => ?_) (fun c_299 => ?_)
                                  · refine lv_iconst (v := 0) hx hb dX7_plainStep_306 (by decide) ?_
                                    refine lv_goto (tgt := 325) hx hb dX7_plainStep_307 (by decide) ?_
                                    exact J325 _ _ _ ⟨by rw [if_pos c_290, if_pos c_299], hP, hS⟩
                                  · refine lv_iconst (v := 1) hx hb dX7_plainStep_302 (by decide) ?_
                                    refine lv_goto (tgt := 325) hx hb dX7_plainStep_303 (by decide) ?_
                                    exact J325 _ _ _ ⟨by rw [if_pos c_290, if_neg c_299], hP, hS⟩
                            · have hF := hF.trans (if_pos c_264)
                              refine lv_aload_n hx hb dX7_plainStep_267 rfl (lv_at hl 1 rfl) ?_
                              refine lv_aload_n hx hb dX7_plainStep_268 rfl (lv_at hl 1 rfl) ?_
                              refine lv_aload_n hx hb dX7_plainStep_269 rfl (lv_at hl 1 rfl) ?_
                              refine va_get (D := (dC, dI)) (ci := 7) (v := .int mo_y) (C := RX7) (T := TX7) (N := 41) hx hb hts hiX7 hown hK hP 0 rfl rfl 26 (by decide) (hts _ kFX7_142) (fun _ h9 => h9) rfl dX7_plainStep_270 ?_
                              refine lv_sipush (v := 255) hx hb dX7_plainStep_273 (by decide) ?_
                              refine lv_iadd hx hb dX7_plainStep_276 ?_
                              refine lv_sipush (v := 255) hx hb dX7_plainStep_277 (by decide) ?_
                              refine lv_iand hx hb dX7_plainStep_280 ?_
                              have hPc := hP.sub (ws' := (wwX7 q_mo q_mra q_mrA q_mrc q_mrk q_mpi q_mwc q_mwo q_mco q_mpo q_mky q_mla q_mcn q_mct k_mra k_mrA k_mrc k_mrk k_mpi k_mwc k_mwo k_mco k_mpo k_mky k_mla k_mcn k_mct mo_port mo_line mo_cycle mo_raised mo_idle mo_bad mo_glyph mo_fetched mo_rows mo_flags2_5 mo_enabled mo_a mo_x mo_y mo_s mo_flags mo_p mo_jammed mo_code (0:Int32) mo_low mo_high mo_old mo_latest_5 mo_cycles mo_stolen mo_interrupts mo_accesses_5 f_mra f_mrA f_mrc f_mrk f_mpi f_mwc f_mwo f_mco f_mpo f_mky f_mla f_mcn f_mct)) [0, 1, 2, 3, 4, 5, 6, 7, 8, 9, 10, 11, 12, 13] rfl
                              have hDc := hD.sub (ws' := (wwX7 q_mo q_mra q_mrA q_mrc q_mrk q_mpi q_mwc q_mwo q_mco q_mpo q_mky q_mla q_mcn q_mct k_mra k_mrA k_mrc k_mrk k_mpi k_mwc k_mwo k_mco k_mpo k_mky k_mla k_mcn k_mct mo_port mo_line mo_cycle mo_raised mo_idle mo_bad mo_glyph mo_fetched mo_rows mo_flags2_5 mo_enabled mo_a mo_x mo_y mo_s mo_flags mo_p mo_jammed mo_code (0:Int32) mo_low mo_high mo_old mo_latest_5 mo_cycles mo_stolen mo_interrupts mo_accesses_5 f_mra f_mrA f_mrc f_mrk f_mpi f_mwc f_mwo f_mco f_mpo f_mky f_mla f_mcn f_mct)) [0, 1, 2, 3, 4, 5, 6, 7, 8, 9, 10, 11, 12, 13] (by decide) rfl
                              have hKc := hK.sub (tys' := [(k_mra, .int), (k_mrA, .int), (k_mrc, .int), (k_mrk, .int), (k_mpi, .int), (k_mwc, .int), (k_mwo, .int), (k_mco, .int), (k_mpo, .int), (k_mky, .int), (k_mla, .int), (k_mcn, .int), (k_mct, .int)]) [0, 1, 2, 3, 4, 5, 6, 7, 8, 9, 10, 11, 12] rfl
                              have hFc := va_free (wc := (wwX7 q_mo q_mra q_mrA q_mrc q_mrk q_mpi q_mwc q_mwo q_mco q_mpo q_mky q_mla q_mcn q_mct k_mra k_mrA k_mrc k_mrk k_mpi k_mwc k_mwo k_mco k_mpo k_mky k_mla k_mcn k_mct mo_port mo_line mo_cycle mo_raised mo_idle mo_bad mo_glyph mo_fetched mo_rows mo_flags2_5 mo_enabled mo_a mo_x mo_y mo_s mo_flags mo_p mo_jammed mo_code (0:Int32) mo_low mo_high mo_old mo_latest_5 mo_cycles mo_stolen mo_interrupts mo_accesses_5 f_mra f_mrA f_mrc f_mrk f_mpi f_mwc f_mwo f_mco f_mpo f_mky f_mla f_mcn f_mct)) hD hS hA [0, 1, 2, 3, 4, 5, 6, 7, 8, 9, 10, 11, 12, 13] rfl
                              refine va_calli (va_runV (As := [.int ((mo_y + (255:Int32)) &&& (255:Int32))]) (rest := [.ref q_mo]) ⟨hx, hb, hml, hown, hts⟩ (mX7_judged l dC dI q_mo q_mra q_mrA q_mrc q_mrk q_mpi q_mwc q_mwo q_mco q_mpo q_mky q_mla q_mcn q_mct k_mra k_mrA k_mrc k_mrk k_mpi k_mwc k_mwo k_mco k_mpo k_mky k_mla k_mcn k_mct H.size mo_port mo_line mo_cycle mo_raised mo_idle mo_bad mo_glyph mo_fetched mo_rows mo_flags2_5 mo_enabled mo_a mo_x mo_y mo_s mo_flags mo_p mo_jammed mo_code (0:Int32) mo_low mo_high mo_old mo_latest_5 mo_cycles mo_stolen mo_interrupts mo_accesses_5 f_mra f_mrA f_mrc f_mrk f_mpi f_mwc f_mwo f_mco f_mpo f_mky f_mla f_mcn f_mct ((mo_y + (255:Int32)) &&& (255:Int32))) (cwV 1 hts (ub_V kMX7_173 kYX7_judged kSX7_judged kIX7 kBX7_judged) rfl rfl rfl (by decide +kernel) ⟨Nat.le_of_ble_eq_true rfl, Nat.le_of_ble_eq_true rfl⟩) ⟨fun a U g mk q => by obtain ⟨q0, q1, qP, qK, qD⟩ := q; exact ⟨q0, q1, qP, va_K.moved (u := U) (U := U.calling g mk a) (Vm.Alike.refl U.vm) qK, qD⟩, va_recv hKc hPc (ci := 7) (q0 := 0) rfl rfl, fun U hU hW => ⟨rfl, by rw [hU], by rw [hU]; exact hPc, va_K.moved hW.alike hKc, hDc.weaken (fun _ _ _ _ => trivial)⟩⟩ rfl rfl hl.1 rfl (lv_room (Nat.le_of_ble_eq_true rfl)) dX7_plainStep_281 ⟨(Nat.zero_le _), (Nat.zero_le _)⟩) hS (fun q _ h => hFc q h) hFc (fun r_281 u_281 t H locs ht hvm hw hB hz1 hk1 hS => ?_)
                              obtain ⟨mo_flags_281, rfl⟩ : ∃ z, z = u_281 := ⟨_, rfl⟩
                              obtain ⟨hP1, hK1, hD1⟩ := hB
                              rw [ht] at hP1
                              obtain ⟨hP, hD⟩ := vb_bk2 (wc := (wwX7 q_mo q_mra q_mrA q_mrc q_mrk q_mpi q_mwc q_mwo q_mco q_mpo q_mky q_mla q_mcn q_mct k_mra k_mrA k_mrc k_mrk k_mpi k_mwc k_mwo k_mco k_mpo k_mky k_mla k_mcn k_mct mo_port mo_line mo_cycle mo_raised mo_idle mo_bad mo_glyph mo_fetched mo_rows mo_flags2_5 mo_enabled mo_a mo_x mo_y mo_s mo_flags mo_p mo_jammed mo_code (0:Int32) mo_low mo_high mo_old mo_latest_5 mo_cycles mo_stolen mo_interrupts mo_accesses_5 f_mra f_mrA f_mrc f_mrk f_mpi f_mwc f_mwo f_mco f_mpo f_mky f_mla f_mcn f_mct)) (ws' := (wwX7 q_mo q_mra q_mrA q_mrc q_mrk q_mpi q_mwc q_mwo q_mco q_mpo q_mky q_mla q_mcn q_mct k_mra k_mrA k_mrc k_mrk k_mpi k_mwc k_mwo k_mco k_mpo k_mky k_mla k_mcn k_mct mo_port mo_line mo_cycle mo_raised mo_idle mo_bad mo_glyph mo_fetched mo_rows mo_flags2_5 mo_enabled mo_a mo_x mo_y mo_s mo_flags_281 mo_p mo_jammed mo_code (0:Int32) mo_low mo_high mo_old mo_latest_5 mo_cycles mo_stolen mo_interrupts mo_accesses_5 f_mra f_mrA f_mrc f_mrk f_mpi f_mwc f_mwo f_mco f_mpo f_mky f_mla f_mcn f_mct)) hP hD hD1 [0, 1, 2, 3, 4, 5, 6, 7, 8, 9, 10, 11, 12, 13] [] rfl [q_mo, q_mra, q_mrA, q_mrc, q_mrk, q_mpi, q_mwc, q_mwo, q_mco, q_mpo, q_mky, q_mla, q_mcn, q_mct] rfl rfl ae_n rfl rfl hk1 hP1
                              rw [← hw] at hF
                              dsimp only at hF
                              refine va_put (D := (dC, dI)) (ci := 7) (v := .int r_281) (ty := .int) (C := RX7) (T := TX7) (N := 41) hx hb hts hiX7 tyX7 tyX7_ok nmX7 hown hK hP hD hS 0 rfl rfl 26 (by decide) (hts _ kFX7_142) (fun _ h9 => h9) rfl (by decide +kernel) rfl rfl (Nat.le_of_ble_eq_true rfl) dX7_plainStep_284 (fun H locs hP hD hS => ?_)
                              have hP : va_P (dC, dI) vwCl (wwX7 q_mo q_mra q_mrA q_mrc q_mrk q_mpi q_mwc q_mwo q_mco q_mpo q_mky q_mla q_mcn q_mct k_mra k_mrA k_mrc k_mrk k_mpi k_mwc k_mwo k_mco k_mpo k_mky k_mla k_mcn k_mct mo_port mo_line mo_cycle mo_raised mo_idle mo_bad mo_glyph mo_fetched mo_rows mo_flags2_5 mo_enabled mo_a mo_x r_281 mo_s mo_flags_281 mo_p mo_jammed mo_code (0:Int32) mo_low mo_high mo_old mo_latest_5 mo_cycles mo_stolen mo_interrupts mo_accesses_5 f_mra f_mrA f_mrc f_mrk f_mpi f_mwc f_mwo f_mco f_mpo f_mky f_mla f_mcn f_mct) H := hP
                              have hD : va_D A (wwX7 q_mo q_mra q_mrA q_mrc q_mrk q_mpi q_mwc q_mwo q_mco q_mpo q_mky q_mla q_mcn q_mct k_mra k_mrA k_mrc k_mrk k_mpi k_mwc k_mwo k_mco k_mpo k_mky k_mla k_mcn k_mct mo_port mo_line mo_cycle mo_raised mo_idle mo_bad mo_glyph mo_fetched mo_rows mo_flags2_5 mo_enabled mo_a mo_x r_281 mo_s mo_flags_281 mo_p mo_jammed mo_code (0:Int32) mo_low mo_high mo_old mo_latest_5 mo_cycles mo_stolen mo_interrupts mo_accesses_5 f_mra f_mrA f_mrc f_mrk f_mpi f_mwc f_mwo f_mco f_mpo f_mky f_mla f_mcn f_mct) := hD
                              refine lv_iload_n hx hb dX7_plainStep_287 rfl (lv_at hl 0 rfl) ?_
                              refine lv_bipush (v := 10) hx hb dX7_plainStep_288 (by decide) ?_
                              refine lv_icmp_ne (tgt := 310) hx hb dX7_plainStep_290 (by decide) (fun c_290 => ?_) (fun c_290 => by exact absurd c_290 (by rw [c_264]; decide))
                              refine lv_aload_n hx hb dX7_plainStep_310 rfl (lv_at hl 1 rfl) ?_
                              refine va_get (D := (dC, dI)) (ci := 7) (v := .int mo_a) (C := RX7) (T := TX7) (N := 41) hx hb hts hiX7 hown hK hP 0 rfl rfl 24 (by decide) (hts _ kFX7_136) (fun _ h9 => h9) rfl dX7_plainStep_311 ?_
                              refine lv_iconst (v := 1) hx hb dX7_plainStep_314 (by decide) ?_
                              refine lv_iand hx hb dX7_plainStep_315 ?_
                              refine lv_iconst (v := 1) hx hb dX7_plainStep_316 (by decide) ?_
                              refine vj_join (j := 325) (rest := []) (Hyp := fun z H locs => z = (if (mo_a &&& (1:Int32)) = (1:Int32) then (1:Int32) else (0:Int32)) ∧ va_P (dC, dI) vwCl (wwX7 q_mo q_mra q_mrA q_mrc q_mrk q_mpi q_mwc q_mwo q_mco q_mpo q_mky q_mla q_mcn q_mct k_mra k_mrA k_mrc k_mrk k_mpi k_mwc k_mwo k_mco k_mpo k_mky k_mla k_mcn k_mct mo_port mo_line mo_cycle mo_raised mo_idle mo_bad mo_glyph mo_fetched mo_rows mo_flags2_5 mo_enabled mo_a mo_x r_281 mo_s mo_flags_281 mo_p mo_jammed mo_code (0:Int32) mo_low mo_high mo_old mo_latest_5 mo_cycles mo_stolen mo_interrupts mo_accesses_5 f_mra f_mrA f_mrc f_mrk f_mpi f_mwc f_mwo f_mco f_mpo f_mky f_mla f_mcn f_mct) H ∧ va_S A s.heap H locs) (fun z H locs hh => ?_) (fun J325 => ?_)
                              · obtain ⟨hz, hP, hS⟩ := hh
                                subst hz
                                refine lv_istore_n (lv' := [(2, .int (if (mo_a &&& (1:Int32)) = (1:Int32) then (1:Int32) else (0:Int32))), (1, .int mo_code), (0, .ref q_mo)]) hx hb dX7_plainStep_325 rfl hl (by decide) rfl (fun ls hl => ?_)
                                refine lv_iload_n hx hb dX7_plainStep_326 rfl (lv_at hl 1 rfl) ?_
                                refine lv_bipush (v := 10) hx hb dX7_plainStep_327 (by decide) ?_
                                refine lv_icmp_ne (tgt := 350) hx hb dX7_plainStep_329 (by decide) (fun c_329 => ?_) (fun c_329 => by exact absurd c_329 (by rw [c_264]; decide))
                                refine lv_iload_n hx hb dX7_plainStep_350 rfl (lv_at hl 1 rfl) ?_
                                refine lv_bipush (v := 74) hx hb dX7_plainStep_351 (by decide) ?_
                                refine lv_icmp_ne (tgt := 370) hx hb dX7_plainStep_353 (by decide) (fun c_353 => ?_) (fun c_353 => by exact absurd c_353 (by rw [c_264]; decide))
                                refine lv_iload_n hx hb dX7_plainStep_370 rfl (lv_at hl 1 rfl) ?_
                                refine lv_bipush (v := 10) hx hb dX7_plainStep_371 (by decide) ?_
                                refine lv_icmp_eq (tgt := 382) hx hb dX7_plainStep_373 (by decide) (fun c_373 => by exact absurd c_373 (by rw [c_264]; decide)) (fun c_373 => ?_)
                                refine lv_iload_n hx hb dX7_plainStep_376 rfl (lv_at hl 1 rfl) ?_
                                refine lv_bipush (v := 74) hx hb dX7_plainStep_377 (by decide) ?_
                                refine lv_icmp_ne (tgt := 388) hx hb dX7_plainStep_379 (by decide) (fun c_379 => ?_) (fun c_379 => by exact absurd c_379 (by rw [c_264]; decide))
                                exact W.vret hx hb hr (fun t ht hW => ⟨⟨(mo_flags2_5, mo_a, mo_x, r_281, mo_flags_281, (0:Int32), mo_latest_5, mo_accesses_5), rfl, hF.symm, by rw [ht]; exact hP, va_K.moved hW.alike hK, hD⟩, hS.F ht⟩) hS.2.2 dX7_plainStep_388
                              · refine lv_icmp_ne (tgt := 324) hx hb dX7_plainStep_317 (by decide) (fun c_317 => ?_) (fun c_317 => ?_)
                                · refine lv_iconst (v := 0) hx hb dX7_plainStep_324 (by decide) ?_
                                  exact J325 _ _ _ ⟨by rw [if_neg c_317], hP, hS⟩
                                · refine lv_iconst (v := 1) hx hb dX7_plainStep_320 (by decide) ?_
                                  refine lv_goto (tgt := 325) hx hb dX7_plainStep_321 (by decide) ?_
                                  exact J325 _ _ _ ⟨by rw [if_pos c_317], hP, hS⟩
                          · have hF := hF.trans (if_pos c_237)
                            refine lv_aload_n hx hb dX7_plainStep_240 rfl (lv_at hl 1 rfl) ?_
                            refine lv_aload_n hx hb dX7_plainStep_241 rfl (lv_at hl 1 rfl) ?_
                            refine lv_aload_n hx hb dX7_plainStep_242 rfl (lv_at hl 1 rfl) ?_
                            refine va_get (D := (dC, dI)) (ci := 7) (v := .int mo_x) (C := RX7) (T := TX7) (N := 41) hx hb hts hiX7 hown hK hP 0 rfl rfl 25 (by decide) (hts _ kFX7_139) (fun _ h9 => h9) rfl dX7_plainStep_243 ?_
                            refine lv_sipush (v := 255) hx hb dX7_plainStep_246 (by decide) ?_
                            refine lv_iadd hx hb dX7_plainStep_249 ?_
                            refine lv_sipush (v := 255) hx hb dX7_plainStep_250 (by decide) ?_
                            refine lv_iand hx hb dX7_plainStep_253 ?_
                            have hPc := hP.sub (ws' := (wwX7 q_mo q_mra q_mrA q_mrc q_mrk q_mpi q_mwc q_mwo q_mco q_mpo q_mky q_mla q_mcn q_mct k_mra k_mrA k_mrc k_mrk k_mpi k_mwc k_mwo k_mco k_mpo k_mky k_mla k_mcn k_mct mo_port mo_line mo_cycle mo_raised mo_idle mo_bad mo_glyph mo_fetched mo_rows mo_flags2_5 mo_enabled mo_a mo_x mo_y mo_s mo_flags mo_p mo_jammed mo_code (0:Int32) mo_low mo_high mo_old mo_latest_5 mo_cycles mo_stolen mo_interrupts mo_accesses_5 f_mra f_mrA f_mrc f_mrk f_mpi f_mwc f_mwo f_mco f_mpo f_mky f_mla f_mcn f_mct)) [0, 1, 2, 3, 4, 5, 6, 7, 8, 9, 10, 11, 12, 13] rfl
                            have hDc := hD.sub (ws' := (wwX7 q_mo q_mra q_mrA q_mrc q_mrk q_mpi q_mwc q_mwo q_mco q_mpo q_mky q_mla q_mcn q_mct k_mra k_mrA k_mrc k_mrk k_mpi k_mwc k_mwo k_mco k_mpo k_mky k_mla k_mcn k_mct mo_port mo_line mo_cycle mo_raised mo_idle mo_bad mo_glyph mo_fetched mo_rows mo_flags2_5 mo_enabled mo_a mo_x mo_y mo_s mo_flags mo_p mo_jammed mo_code (0:Int32) mo_low mo_high mo_old mo_latest_5 mo_cycles mo_stolen mo_interrupts mo_accesses_5 f_mra f_mrA f_mrc f_mrk f_mpi f_mwc f_mwo f_mco f_mpo f_mky f_mla f_mcn f_mct)) [0, 1, 2, 3, 4, 5, 6, 7, 8, 9, 10, 11, 12, 13] (by decide) rfl
                            have hKc := hK.sub (tys' := [(k_mra, .int), (k_mrA, .int), (k_mrc, .int), (k_mrk, .int), (k_mpi, .int), (k_mwc, .int), (k_mwo, .int), (k_mco, .int), (k_mpo, .int), (k_mky, .int), (k_mla, .int), (k_mcn, .int), (k_mct, .int)]) [0, 1, 2, 3, 4, 5, 6, 7, 8, 9, 10, 11, 12] rfl
                            have hFc := va_free (wc := (wwX7 q_mo q_mra q_mrA q_mrc q_mrk q_mpi q_mwc q_mwo q_mco q_mpo q_mky q_mla q_mcn q_mct k_mra k_mrA k_mrc k_mrk k_mpi k_mwc k_mwo k_mco k_mpo k_mky k_mla k_mcn k_mct mo_port mo_line mo_cycle mo_raised mo_idle mo_bad mo_glyph mo_fetched mo_rows mo_flags2_5 mo_enabled mo_a mo_x mo_y mo_s mo_flags mo_p mo_jammed mo_code (0:Int32) mo_low mo_high mo_old mo_latest_5 mo_cycles mo_stolen mo_interrupts mo_accesses_5 f_mra f_mrA f_mrc f_mrk f_mpi f_mwc f_mwo f_mco f_mpo f_mky f_mla f_mcn f_mct)) hD hS hA [0, 1, 2, 3, 4, 5, 6, 7, 8, 9, 10, 11, 12, 13] rfl
                            refine va_calli (va_runV (As := [.int ((mo_x + (255:Int32)) &&& (255:Int32))]) (rest := [.ref q_mo]) ⟨hx, hb, hml, hown, hts⟩ (mX7_judged l dC dI q_mo q_mra q_mrA q_mrc q_mrk q_mpi q_mwc q_mwo q_mco q_mpo q_mky q_mla q_mcn q_mct k_mra k_mrA k_mrc k_mrk k_mpi k_mwc k_mwo k_mco k_mpo k_mky k_mla k_mcn k_mct H.size mo_port mo_line mo_cycle mo_raised mo_idle mo_bad mo_glyph mo_fetched mo_rows mo_flags2_5 mo_enabled mo_a mo_x mo_y mo_s mo_flags mo_p mo_jammed mo_code (0:Int32) mo_low mo_high mo_old mo_latest_5 mo_cycles mo_stolen mo_interrupts mo_accesses_5 f_mra f_mrA f_mrc f_mrk f_mpi f_mwc f_mwo f_mco f_mpo f_mky f_mla f_mcn f_mct ((mo_x + (255:Int32)) &&& (255:Int32))) (cwV 1 hts (ub_V kMX7_173 kYX7_judged kSX7_judged kIX7 kBX7_judged) rfl rfl rfl (by decide +kernel) ⟨Nat.le_of_ble_eq_true rfl, Nat.le_of_ble_eq_true rfl⟩) ⟨fun a U g mk q => by obtain ⟨q0, q1, qP, qK, qD⟩ := q; exact ⟨q0, q1, qP, va_K.moved (u := U) (U := U.calling g mk a) (Vm.Alike.refl U.vm) qK, qD⟩, va_recv hKc hPc (ci := 7) (q0 := 0) rfl rfl, fun U hU hW => ⟨rfl, by rw [hU], by rw [hU]; exact hPc, va_K.moved hW.alike hKc, hDc.weaken (fun _ _ _ _ => trivial)⟩⟩ rfl rfl hl.1 rfl (lv_room (Nat.le_of_ble_eq_true rfl)) dX7_plainStep_254 ⟨(Nat.zero_le _), (Nat.zero_le _)⟩) hS (fun q _ h => hFc q h) hFc (fun r_254 u_254 t H locs ht hvm hw hB hz1 hk1 hS => ?_)
                            obtain ⟨mo_flags_254, rfl⟩ : ∃ z, z = u_254 := ⟨_, rfl⟩
                            obtain ⟨hP1, hK1, hD1⟩ := hB
                            rw [ht] at hP1
                            obtain ⟨hP, hD⟩ := vb_bk2 (wc := (wwX7 q_mo q_mra q_mrA q_mrc q_mrk q_mpi q_mwc q_mwo q_mco q_mpo q_mky q_mla q_mcn q_mct k_mra k_mrA k_mrc k_mrk k_mpi k_mwc k_mwo k_mco k_mpo k_mky k_mla k_mcn k_mct mo_port mo_line mo_cycle mo_raised mo_idle mo_bad mo_glyph mo_fetched mo_rows mo_flags2_5 mo_enabled mo_a mo_x mo_y mo_s mo_flags mo_p mo_jammed mo_code (0:Int32) mo_low mo_high mo_old mo_latest_5 mo_cycles mo_stolen mo_interrupts mo_accesses_5 f_mra f_mrA f_mrc f_mrk f_mpi f_mwc f_mwo f_mco f_mpo f_mky f_mla f_mcn f_mct)) (ws' := (wwX7 q_mo q_mra q_mrA q_mrc q_mrk q_mpi q_mwc q_mwo q_mco q_mpo q_mky q_mla q_mcn q_mct k_mra k_mrA k_mrc k_mrk k_mpi k_mwc k_mwo k_mco k_mpo k_mky k_mla k_mcn k_mct mo_port mo_line mo_cycle mo_raised mo_idle mo_bad mo_glyph mo_fetched mo_rows mo_flags2_5 mo_enabled mo_a mo_x mo_y mo_s mo_flags_254 mo_p mo_jammed mo_code (0:Int32) mo_low mo_high mo_old mo_latest_5 mo_cycles mo_stolen mo_interrupts mo_accesses_5 f_mra f_mrA f_mrc f_mrk f_mpi f_mwc f_mwo f_mco f_mpo f_mky f_mla f_mcn f_mct)) hP hD hD1 [0, 1, 2, 3, 4, 5, 6, 7, 8, 9, 10, 11, 12, 13] [] rfl [q_mo, q_mra, q_mrA, q_mrc, q_mrk, q_mpi, q_mwc, q_mwo, q_mco, q_mpo, q_mky, q_mla, q_mcn, q_mct] rfl rfl ae_n rfl rfl hk1 hP1
                            rw [← hw] at hF
                            dsimp only at hF
                            refine va_put (D := (dC, dI)) (ci := 7) (v := .int r_254) (ty := .int) (C := RX7) (T := TX7) (N := 41) hx hb hts hiX7 tyX7 tyX7_ok nmX7 hown hK hP hD hS 0 rfl rfl 25 (by decide) (hts _ kFX7_139) (fun _ h9 => h9) rfl (by decide +kernel) rfl rfl (Nat.le_of_ble_eq_true rfl) dX7_plainStep_257 (fun H locs hP hD hS => ?_)
                            have hP : va_P (dC, dI) vwCl (wwX7 q_mo q_mra q_mrA q_mrc q_mrk q_mpi q_mwc q_mwo q_mco q_mpo q_mky q_mla q_mcn q_mct k_mra k_mrA k_mrc k_mrk k_mpi k_mwc k_mwo k_mco k_mpo k_mky k_mla k_mcn k_mct mo_port mo_line mo_cycle mo_raised mo_idle mo_bad mo_glyph mo_fetched mo_rows mo_flags2_5 mo_enabled mo_a r_254 mo_y mo_s mo_flags_254 mo_p mo_jammed mo_code (0:Int32) mo_low mo_high mo_old mo_latest_5 mo_cycles mo_stolen mo_interrupts mo_accesses_5 f_mra f_mrA f_mrc f_mrk f_mpi f_mwc f_mwo f_mco f_mpo f_mky f_mla f_mcn f_mct) H := hP
                            have hD : va_D A (wwX7 q_mo q_mra q_mrA q_mrc q_mrk q_mpi q_mwc q_mwo q_mco q_mpo q_mky q_mla q_mcn q_mct k_mra k_mrA k_mrc k_mrk k_mpi k_mwc k_mwo k_mco k_mpo k_mky k_mla k_mcn k_mct mo_port mo_line mo_cycle mo_raised mo_idle mo_bad mo_glyph mo_fetched mo_rows mo_flags2_5 mo_enabled mo_a r_254 mo_y mo_s mo_flags_254 mo_p mo_jammed mo_code (0:Int32) mo_low mo_high mo_old mo_latest_5 mo_cycles mo_stolen mo_interrupts mo_accesses_5 f_mra f_mrA f_mrc f_mrk f_mpi f_mwc f_mwo f_mco f_mpo f_mky f_mla f_mcn f_mct) := hD
                            refine lv_iload_n hx hb dX7_plainStep_260 rfl (lv_at hl 0 rfl) ?_
                            refine lv_sipush (v := 136) hx hb dX7_plainStep_261 (by decide) ?_
                            refine lv_icmp_ne (tgt := 287) hx hb dX7_plainStep_264 (by decide) (fun c_264 => ?_) (fun c_264 => by exact absurd c_264 (by rw [c_237]; decide))
                            refine lv_iload_n hx hb dX7_plainStep_287 rfl (lv_at hl 0 rfl) ?_
                            refine lv_bipush (v := 10) hx hb dX7_plainStep_288 (by decide) ?_
                            refine lv_icmp_ne (tgt := 310) hx hb dX7_plainStep_290 (by decide) (fun c_290 => ?_) (fun c_290 => by exact absurd c_290 (by rw [c_237]; decide))
                            refine lv_aload_n hx hb dX7_plainStep_310 rfl (lv_at hl 1 rfl) ?_
                            refine va_get (D := (dC, dI)) (ci := 7) (v := .int mo_a) (C := RX7) (T := TX7) (N := 41) hx hb hts hiX7 hown hK hP 0 rfl rfl 24 (by decide) (hts _ kFX7_136) (fun _ h9 => h9) rfl dX7_plainStep_311 ?_
                            refine lv_iconst (v := 1) hx hb dX7_plainStep_314 (by decide) ?_
                            refine lv_iand hx hb dX7_plainStep_315 ?_
                            refine lv_iconst (v := 1) hx hb dX7_plainStep_316 (by decide) ?_
                            refine vj_join (j := 325) (rest := []) (Hyp := fun z H locs => z = (if (mo_a &&& (1:Int32)) = (1:Int32) then (1:Int32) else (0:Int32)) ∧ va_P (dC, dI) vwCl (wwX7 q_mo q_mra q_mrA q_mrc q_mrk q_mpi q_mwc q_mwo q_mco q_mpo q_mky q_mla q_mcn q_mct k_mra k_mrA k_mrc k_mrk k_mpi k_mwc k_mwo k_mco k_mpo k_mky k_mla k_mcn k_mct mo_port mo_line mo_cycle mo_raised mo_idle mo_bad mo_glyph mo_fetched mo_rows mo_flags2_5 mo_enabled mo_a r_254 mo_y mo_s mo_flags_254 mo_p mo_jammed mo_code (0:Int32) mo_low mo_high mo_old mo_latest_5 mo_cycles mo_stolen mo_interrupts mo_accesses_5 f_mra f_mrA f_mrc f_mrk f_mpi f_mwc f_mwo f_mco f_mpo f_mky f_mla f_mcn f_mct) H ∧ va_S A s.heap H locs) (fun z H locs hh => ?_) (fun J325 => ?_)
                            · obtain ⟨hz, hP, hS⟩ := hh
                              subst hz
                              refine lv_istore_n (lv' := [(2, .int (if (mo_a &&& (1:Int32)) = (1:Int32) then (1:Int32) else (0:Int32))), (1, .int mo_code), (0, .ref q_mo)]) hx hb dX7_plainStep_325 rfl hl (by decide) rfl (fun ls hl => ?_)
                              refine lv_iload_n hx hb dX7_plainStep_326 rfl (lv_at hl 1 rfl) ?_
                              refine lv_bipush (v := 10) hx hb dX7_plainStep_327 (by decide) ?_
                              refine lv_icmp_ne (tgt := 350) hx hb dX7_plainStep_329 (by decide) (fun c_329 => ?_) (fun c_329 => by exact absurd c_329 (by rw [c_237]; decide))
                              refine lv_iload_n hx hb dX7_plainStep_350 rfl (lv_at hl 1 rfl) ?_
                              refine lv_bipush (v := 74) hx hb dX7_plainStep_351 (by decide) ?_
                              refine lv_icmp_ne (tgt := 370) hx hb dX7_plainStep_353 (by decide) (fun c_353 => ?_) (fun c_353 => by exact absurd c_353 (by rw [c_237]; decide))
                              refine lv_iload_n hx hb dX7_plainStep_370 rfl (lv_at hl 1 rfl) ?_
                              refine lv_bipush (v := 10) hx hb dX7_plainStep_371 (by decide) ?_
                              refine lv_icmp_eq (tgt := 382) hx hb dX7_plainStep_373 (by decide) (fun c_373 => by exact absurd c_373 (by rw [c_237]; decide)) (fun c_373 => ?_)
                              refine lv_iload_n hx hb dX7_plainStep_376 rfl (lv_at hl 1 rfl) ?_
                              refine lv_bipush (v := 74) hx hb dX7_plainStep_377 (by decide) ?_
                              refine lv_icmp_ne (tgt := 388) hx hb dX7_plainStep_379 (by decide) (fun c_379 => ?_) (fun c_379 => by exact absurd c_379 (by rw [c_237]; decide))
                              exact W.vret hx hb hr (fun t ht hW => ⟨⟨(mo_flags2_5, mo_a, r_254, mo_y, mo_flags_254, (0:Int32), mo_latest_5, mo_accesses_5), rfl, hF.symm, by rw [ht]; exact hP, va_K.moved hW.alike hK, hD⟩, hS.F ht⟩) hS.2.2 dX7_plainStep_388
                            · refine lv_icmp_ne (tgt := 324) hx hb dX7_plainStep_317 (by decide) (fun c_317 => ?_) (fun c_317 => ?_)
                              · refine lv_iconst (v := 0) hx hb dX7_plainStep_324 (by decide) ?_
                                exact J325 _ _ _ ⟨by rw [if_neg c_317], hP, hS⟩
                              · refine lv_iconst (v := 1) hx hb dX7_plainStep_320 (by decide) ?_
                                refine lv_goto (tgt := 325) hx hb dX7_plainStep_321 (by decide) ?_
                                exact J325 _ _ _ ⟨by rw [if_pos c_317], hP, hS⟩
                        · have hF := hF.trans (if_pos c_212)
                          refine lv_aload_n hx hb dX7_plainStep_215 rfl (lv_at hl 1 rfl) ?_
                          refine lv_aload_n hx hb dX7_plainStep_216 rfl (lv_at hl 1 rfl) ?_
                          refine lv_aload_n hx hb dX7_plainStep_217 rfl (lv_at hl 1 rfl) ?_
                          refine va_get (D := (dC, dI)) (ci := 7) (v := .int mo_y) (C := RX7) (T := TX7) (N := 41) hx hb hts hiX7 hown hK hP 0 rfl rfl 26 (by decide) (hts _ kFX7_142) (fun _ h9 => h9) rfl dX7_plainStep_218 ?_
                          refine lv_iconst (v := 1) hx hb dX7_plainStep_221 (by decide) ?_
                          refine lv_iadd hx hb dX7_plainStep_222 ?_
                          refine lv_sipush (v := 255) hx hb dX7_plainStep_223 (by decide) ?_
                          refine lv_iand hx hb dX7_plainStep_226 ?_
                          have hPc := hP.sub (ws' := (wwX7 q_mo q_mra q_mrA q_mrc q_mrk q_mpi q_mwc q_mwo q_mco q_mpo q_mky q_mla q_mcn q_mct k_mra k_mrA k_mrc k_mrk k_mpi k_mwc k_mwo k_mco k_mpo k_mky k_mla k_mcn k_mct mo_port mo_line mo_cycle mo_raised mo_idle mo_bad mo_glyph mo_fetched mo_rows mo_flags2_5 mo_enabled mo_a mo_x mo_y mo_s mo_flags mo_p mo_jammed mo_code (0:Int32) mo_low mo_high mo_old mo_latest_5 mo_cycles mo_stolen mo_interrupts mo_accesses_5 f_mra f_mrA f_mrc f_mrk f_mpi f_mwc f_mwo f_mco f_mpo f_mky f_mla f_mcn f_mct)) [0, 1, 2, 3, 4, 5, 6, 7, 8, 9, 10, 11, 12, 13] rfl
                          have hDc := hD.sub (ws' := (wwX7 q_mo q_mra q_mrA q_mrc q_mrk q_mpi q_mwc q_mwo q_mco q_mpo q_mky q_mla q_mcn q_mct k_mra k_mrA k_mrc k_mrk k_mpi k_mwc k_mwo k_mco k_mpo k_mky k_mla k_mcn k_mct mo_port mo_line mo_cycle mo_raised mo_idle mo_bad mo_glyph mo_fetched mo_rows mo_flags2_5 mo_enabled mo_a mo_x mo_y mo_s mo_flags mo_p mo_jammed mo_code (0:Int32) mo_low mo_high mo_old mo_latest_5 mo_cycles mo_stolen mo_interrupts mo_accesses_5 f_mra f_mrA f_mrc f_mrk f_mpi f_mwc f_mwo f_mco f_mpo f_mky f_mla f_mcn f_mct)) [0, 1, 2, 3, 4, 5, 6, 7, 8, 9, 10, 11, 12, 13] (by decide) rfl
                          have hKc := hK.sub (tys' := [(k_mra, .int), (k_mrA, .int), (k_mrc, .int), (k_mrk, .int), (k_mpi, .int), (k_mwc, .int), (k_mwo, .int), (k_mco, .int), (k_mpo, .int), (k_mky, .int), (k_mla, .int), (k_mcn, .int), (k_mct, .int)]) [0, 1, 2, 3, 4, 5, 6, 7, 8, 9, 10, 11, 12] rfl
                          have hFc := va_free (wc := (wwX7 q_mo q_mra q_mrA q_mrc q_mrk q_mpi q_mwc q_mwo q_mco q_mpo q_mky q_mla q_mcn q_mct k_mra k_mrA k_mrc k_mrk k_mpi k_mwc k_mwo k_mco k_mpo k_mky k_mla k_mcn k_mct mo_port mo_line mo_cycle mo_raised mo_idle mo_bad mo_glyph mo_fetched mo_rows mo_flags2_5 mo_enabled mo_a mo_x mo_y mo_s mo_flags mo_p mo_jammed mo_code (0:Int32) mo_low mo_high mo_old mo_latest_5 mo_cycles mo_stolen mo_interrupts mo_accesses_5 f_mra f_mrA f_mrc f_mrk f_mpi f_mwc f_mwo f_mco f_mpo f_mky f_mla f_mcn f_mct)) hD hS hA [0, 1, 2, 3, 4, 5, 6, 7, 8, 9, 10, 11, 12, 13] rfl
                          refine va_calli (va_runV (As := [.int ((mo_y + (1:Int32)) &&& (255:Int32))]) (rest := [.ref q_mo]) ⟨hx, hb, hml, hown, hts⟩ (mX7_judged l dC dI q_mo q_mra q_mrA q_mrc q_mrk q_mpi q_mwc q_mwo q_mco q_mpo q_mky q_mla q_mcn q_mct k_mra k_mrA k_mrc k_mrk k_mpi k_mwc k_mwo k_mco k_mpo k_mky k_mla k_mcn k_mct H.size mo_port mo_line mo_cycle mo_raised mo_idle mo_bad mo_glyph mo_fetched mo_rows mo_flags2_5 mo_enabled mo_a mo_x mo_y mo_s mo_flags mo_p mo_jammed mo_code (0:Int32) mo_low mo_high mo_old mo_latest_5 mo_cycles mo_stolen mo_interrupts mo_accesses_5 f_mra f_mrA f_mrc f_mrk f_mpi f_mwc f_mwo f_mco f_mpo f_mky f_mla f_mcn f_mct ((mo_y + (1:Int32)) &&& (255:Int32))) (cwV 1 hts (ub_V kMX7_173 kYX7_judged kSX7_judged kIX7 kBX7_judged) rfl rfl rfl (by decide +kernel) ⟨Nat.le_of_ble_eq_true rfl, Nat.le_of_ble_eq_true rfl⟩) ⟨fun a U g mk q => by obtain ⟨q0, q1, qP, qK, qD⟩ := q; exact ⟨q0, q1, qP, va_K.moved (u := U) (U := U.calling g mk a) (Vm.Alike.refl U.vm) qK, qD⟩, va_recv hKc hPc (ci := 7) (q0 := 0) rfl rfl, fun U hU hW => ⟨rfl, by rw [hU], by rw [hU]; exact hPc, va_K.moved hW.alike hKc, hDc.weaken (fun _ _ _ _ => trivial)⟩⟩ rfl rfl hl.1 rfl (lv_room (Nat.le_of_ble_eq_true rfl)) dX7_plainStep_227 ⟨(Nat.zero_le _), (Nat.zero_le _)⟩) hS (fun q _ h => hFc q h) hFc (fun r_227 u_227 t H locs ht hvm hw hB hz1 hk1 hS => ?_)
                          obtain ⟨mo_flags_227, rfl⟩ : ∃ z, z = u_227 := ⟨_, rfl⟩
                          obtain ⟨hP1, hK1, hD1⟩ := hB
                          rw [ht] at hP1
                          obtain ⟨hP, hD⟩ := vb_bk2 (wc := (wwX7 q_mo q_mra q_mrA q_mrc q_mrk q_mpi q_mwc q_mwo q_mco q_mpo q_mky q_mla q_mcn q_mct k_mra k_mrA k_mrc k_mrk k_mpi k_mwc k_mwo k_mco k_mpo k_mky k_mla k_mcn k_mct mo_port mo_line mo_cycle mo_raised mo_idle mo_bad mo_glyph mo_fetched mo_rows mo_flags2_5 mo_enabled mo_a mo_x mo_y mo_s mo_flags mo_p mo_jammed mo_code (0:Int32) mo_low mo_high mo_old mo_latest_5 mo_cycles mo_stolen mo_interrupts mo_accesses_5 f_mra f_mrA f_mrc f_mrk f_mpi f_mwc f_mwo f_mco f_mpo f_mky f_mla f_mcn f_mct)) (ws' := (wwX7 q_mo q_mra q_mrA q_mrc q_mrk q_mpi q_mwc q_mwo q_mco q_mpo q_mky q_mla q_mcn q_mct k_mra k_mrA k_mrc k_mrk k_mpi k_mwc k_mwo k_mco k_mpo k_mky k_mla k_mcn k_mct mo_port mo_line mo_cycle mo_raised mo_idle mo_bad mo_glyph mo_fetched mo_rows mo_flags2_5 mo_enabled mo_a mo_x mo_y mo_s mo_flags_227 mo_p mo_jammed mo_code (0:Int32) mo_low mo_high mo_old mo_latest_5 mo_cycles mo_stolen mo_interrupts mo_accesses_5 f_mra f_mrA f_mrc f_mrk f_mpi f_mwc f_mwo f_mco f_mpo f_mky f_mla f_mcn f_mct)) hP hD hD1 [0, 1, 2, 3, 4, 5, 6, 7, 8, 9, 10, 11, 12, 13] [] rfl [q_mo, q_mra, q_mrA, q_mrc, q_mrk, q_mpi, q_mwc, q_mwo, q_mco, q_mpo, q_mky, q_mla, q_mcn, q_mct] rfl rfl ae_n rfl rfl hk1 hP1
                          rw [← hw] at hF
                          dsimp only at hF
                          refine va_put (D := (dC, dI)) (ci := 7) (v := .int r_227) (ty := .int) (C := RX7) (T := TX7) (N := 41) hx hb hts hiX7 tyX7 tyX7_ok nmX7 hown hK hP hD hS 0 rfl rfl 26 (by decide) (hts _ kFX7_142) (fun _ h9 => h9) rfl (by decide +kernel) rfl rfl (Nat.le_of_ble_eq_true rfl) dX7_plainStep_230 (fun H locs hP hD hS => ?_)
                          have hP : va_P (dC, dI) vwCl (wwX7 q_mo q_mra q_mrA q_mrc q_mrk q_mpi q_mwc q_mwo q_mco q_mpo q_mky q_mla q_mcn q_mct k_mra k_mrA k_mrc k_mrk k_mpi k_mwc k_mwo k_mco k_mpo k_mky k_mla k_mcn k_mct mo_port mo_line mo_cycle mo_raised mo_idle mo_bad mo_glyph mo_fetched mo_rows mo_flags2_5 mo_enabled mo_a mo_x r_227 mo_s mo_flags_227 mo_p mo_jammed mo_code (0:Int32) mo_low mo_high mo_old mo_latest_5 mo_cycles mo_stolen mo_interrupts mo_accesses_5 f_mra f_mrA f_mrc f_mrk f_mpi f_mwc f_mwo f_mco f_mpo f_mky f_mla f_mcn f_mct) H := hP
                          have hD : va_D A (wwX7 q_mo q_mra q_mrA q_mrc q_mrk q_mpi q_mwc q_mwo q_mco q_mpo q_mky q_mla q_mcn q_mct k_mra k_mrA k_mrc k_mrk k_mpi k_mwc k_mwo k_mco k_mpo k_mky k_mla k_mcn k_mct mo_port mo_line mo_cycle mo_raised mo_idle mo_bad mo_glyph mo_fetched mo_rows mo_flags2_5 mo_enabled mo_a mo_x r_227 mo_s mo_flags_227 mo_p mo_jammed mo_code (0:Int32) mo_low mo_high mo_old mo_latest_5 mo_cycles mo_stolen mo_interrupts mo_accesses_5 f_mra f_mrA f_mrc f_mrk f_mpi f_mwc f_mwo f_mco f_mpo f_mky f_mla f_mcn f_mct) := hD
                          refine lv_iload_n hx hb dX7_plainStep_233 rfl (lv_at hl 0 rfl) ?_
                          refine lv_sipush (v := 202) hx hb dX7_plainStep_234 (by decide) ?_
                          refine lv_icmp_ne (tgt := 260) hx hb dX7_plainStep_237 (by decide) (fun c_237 => ?_) (fun c_237 => by exact absurd c_237 (by rw [c_212]; decide))
                          refine lv_iload_n hx hb dX7_plainStep_260 rfl (lv_at hl 0 rfl) ?_
                          refine lv_sipush (v := 136) hx hb dX7_plainStep_261 (by decide) ?_
                          refine lv_icmp_ne (tgt := 287) hx hb dX7_plainStep_264 (by decide) (fun c_264 => ?_) (fun c_264 => by exact absurd c_264 (by rw [c_212]; decide))
                          refine lv_iload_n hx hb dX7_plainStep_287 rfl (lv_at hl 0 rfl) ?_
                          refine lv_bipush (v := 10) hx hb dX7_plainStep_288 (by decide) ?_
                          refine lv_icmp_ne (tgt := 310) hx hb dX7_plainStep_290 (by decide) (fun c_290 => ?_) (fun c_290 => by exact absurd c_290 (by rw [c_212]; decide))
                          refine lv_aload_n hx hb dX7_plainStep_310 rfl (lv_at hl 1 rfl) ?_
                          refine va_get (D := (dC, dI)) (ci := 7) (v := .int mo_a) (C := RX7) (T := TX7) (N := 41) hx hb hts hiX7 hown hK hP 0 rfl rfl 24 (by decide) (hts _ kFX7_136) (fun _ h9 => h9) rfl dX7_plainStep_311 ?_
                          refine lv_iconst (v := 1) hx hb dX7_plainStep_314 (by decide) ?_
                          refine lv_iand hx hb dX7_plainStep_315 ?_
                          refine lv_iconst (v := 1) hx hb dX7_plainStep_316 (by decide) ?_
                          refine vj_join (j := 325) (rest := []) (Hyp := fun z H locs => z = (if (mo_a &&& (1:Int32)) = (1:Int32) then (1:Int32) else (0:Int32)) ∧ va_P (dC, dI) vwCl (wwX7 q_mo q_mra q_mrA q_mrc q_mrk q_mpi q_mwc q_mwo q_mco q_mpo q_mky q_mla q_mcn q_mct k_mra k_mrA k_mrc k_mrk k_mpi k_mwc k_mwo k_mco k_mpo k_mky k_mla k_mcn k_mct mo_port mo_line mo_cycle mo_raised mo_idle mo_bad mo_glyph mo_fetched mo_rows mo_flags2_5 mo_enabled mo_a mo_x r_227 mo_s mo_flags_227 mo_p mo_jammed mo_code (0:Int32) mo_low mo_high mo_old mo_latest_5 mo_cycles mo_stolen mo_interrupts mo_accesses_5 f_mra f_mrA f_mrc f_mrk f_mpi f_mwc f_mwo f_mco f_mpo f_mky f_mla f_mcn f_mct) H ∧ va_S A s.heap H locs) (fun z H locs hh => ?_) (fun J325 => ?_)
                          · obtain ⟨hz, hP, hS⟩ := hh
                            subst hz
                            refine lv_istore_n (lv' := [(2, .int (if (mo_a &&& (1:Int32)) = (1:Int32) then (1:Int32) else (0:Int32))), (1, .int mo_code), (0, .ref q_mo)]) hx hb dX7_plainStep_325 rfl hl (by decide) rfl (fun ls hl => ?_)
                            refine lv_iload_n hx hb dX7_plainStep_326 rfl (lv_at hl 1 rfl) ?_
                            refine lv_bipush (v := 10) hx hb dX7_plainStep_327 (by decide) ?_
                            refine lv_icmp_ne (tgt := 350) hx hb dX7_plainStep_329 (by decide) (fun c_329 => ?_) (fun c_329 => by exact absurd c_329 (by rw [c_212]; decide))
                            refine lv_iload_n hx hb dX7_plainStep_350 rfl (lv_at hl 1 rfl) ?_
                            refine lv_bipush (v := 74) hx hb dX7_plainStep_351 (by decide) ?_
                            refine lv_icmp_ne (tgt := 370) hx hb dX7_plainStep_353 (by decide) (fun c_353 => ?_) (fun c_353 => by exact absurd c_353 (by rw [c_212]; decide))
                            refine lv_iload_n hx hb dX7_plainStep_370 rfl (lv_at hl 1 rfl) ?_
                            refine lv_bipush (v := 10) hx hb dX7_plainStep_371 (by decide) ?_
                            refine lv_icmp_eq (tgt := 382) hx hb dX7_plainStep_373 (by decide) (fun c_373 => by exact absurd c_373 (by rw [c_212]; decide)) (fun c_373 => ?_)
                            refine lv_iload_n hx hb dX7_plainStep_376 rfl (lv_at hl 1 rfl) ?_
                            refine lv_bipush (v := 74) hx hb dX7_plainStep_377 (by decide) ?_
                            refine lv_icmp_ne (tgt := 388) hx hb dX7_plainStep_379 (by decide) (fun c_379 => ?_) (fun c_379 => by exact absurd c_379 (by rw [c_212]; decide))
                            exact W.vret hx hb hr (fun t ht hW => ⟨⟨(mo_flags2_5, mo_a, mo_x, r_227, mo_flags_227, (0:Int32), mo_latest_5, mo_accesses_5), rfl, hF.symm, by rw [ht]; exact hP, va_K.moved hW.alike hK, hD⟩, hS.F ht⟩) hS.2.2 dX7_plainStep_388
                          · refine lv_icmp_ne (tgt := 324) hx hb dX7_plainStep_317 (by decide) (fun c_317 => ?_) (fun c_317 => ?_)
                            · refine lv_iconst (v := 0) hx hb dX7_plainStep_324 (by decide) ?_
                              exact J325 _ _ _ ⟨by rw [if_neg c_317], hP, hS⟩
                            · refine lv_iconst (v := 1) hx hb dX7_plainStep_320 (by decide) ?_
                              refine lv_goto (tgt := 325) hx hb dX7_plainStep_321 (by decide) ?_
                              exact J325 _ _ _ ⟨by rw [if_pos c_317], hP, hS⟩
                      · have hF := hF.trans (if_pos c_187)
                        refine lv_aload_n hx hb dX7_plainStep_190 rfl (lv_at hl 1 rfl) ?_
                        refine lv_aload_n hx hb dX7_plainStep_191 rfl (lv_at hl 1 rfl) ?_
                        refine lv_aload_n hx hb dX7_plainStep_192 rfl (lv_at hl 1 rfl) ?_
                        refine va_get (D := (dC, dI)) (ci := 7) (v := .int mo_x) (C := RX7) (T := TX7) (N := 41) hx hb hts hiX7 hown hK hP 0 rfl rfl 25 (by decide) (hts _ kFX7_139) (fun _ h9 => h9) rfl dX7_plainStep_193 ?_
                        refine lv_iconst (v := 1) hx hb dX7_plainStep_196 (by decide) ?_
                        refine lv_iadd hx hb dX7_plainStep_197 ?_
                        refine lv_sipush (v := 255) hx hb dX7_plainStep_198 (by decide) ?_
                        refine lv_iand hx hb dX7_plainStep_201 ?_
                        have hPc := hP.sub (ws' := (wwX7 q_mo q_mra q_mrA q_mrc q_mrk q_mpi q_mwc q_mwo q_mco q_mpo q_mky q_mla q_mcn q_mct k_mra k_mrA k_mrc k_mrk k_mpi k_mwc k_mwo k_mco k_mpo k_mky k_mla k_mcn k_mct mo_port mo_line mo_cycle mo_raised mo_idle mo_bad mo_glyph mo_fetched mo_rows mo_flags2_5 mo_enabled mo_a mo_x mo_y mo_s mo_flags mo_p mo_jammed mo_code (0:Int32) mo_low mo_high mo_old mo_latest_5 mo_cycles mo_stolen mo_interrupts mo_accesses_5 f_mra f_mrA f_mrc f_mrk f_mpi f_mwc f_mwo f_mco f_mpo f_mky f_mla f_mcn f_mct)) [0, 1, 2, 3, 4, 5, 6, 7, 8, 9, 10, 11, 12, 13] rfl
                        have hDc := hD.sub (ws' := (wwX7 q_mo q_mra q_mrA q_mrc q_mrk q_mpi q_mwc q_mwo q_mco q_mpo q_mky q_mla q_mcn q_mct k_mra k_mrA k_mrc k_mrk k_mpi k_mwc k_mwo k_mco k_mpo k_mky k_mla k_mcn k_mct mo_port mo_line mo_cycle mo_raised mo_idle mo_bad mo_glyph mo_fetched mo_rows mo_flags2_5 mo_enabled mo_a mo_x mo_y mo_s mo_flags mo_p mo_jammed mo_code (0:Int32) mo_low mo_high mo_old mo_latest_5 mo_cycles mo_stolen mo_interrupts mo_accesses_5 f_mra f_mrA f_mrc f_mrk f_mpi f_mwc f_mwo f_mco f_mpo f_mky f_mla f_mcn f_mct)) [0, 1, 2, 3, 4, 5, 6, 7, 8, 9, 10, 11, 12, 13] (by decide) rfl
                        have hKc := hK.sub (tys' := [(k_mra, .int), (k_mrA, .int), (k_mrc, .int), (k_mrk, .int), (k_mpi, .int), (k_mwc, .int), (k_mwo, .int), (k_mco, .int), (k_mpo, .int), (k_mky, .int), (k_mla, .int), (k_mcn, .int), (k_mct, .int)]) [0, 1, 2, 3, 4, 5, 6, 7, 8, 9, 10, 11, 12] rfl
                        have hFc := va_free (wc := (wwX7 q_mo q_mra q_mrA q_mrc q_mrk q_mpi q_mwc q_mwo q_mco q_mpo q_mky q_mla q_mcn q_mct k_mra k_mrA k_mrc k_mrk k_mpi k_mwc k_mwo k_mco k_mpo k_mky k_mla k_mcn k_mct mo_port mo_line mo_cycle mo_raised mo_idle mo_bad mo_glyph mo_fetched mo_rows mo_flags2_5 mo_enabled mo_a mo_x mo_y mo_s mo_flags mo_p mo_jammed mo_code (0:Int32) mo_low mo_high mo_old mo_latest_5 mo_cycles mo_stolen mo_interrupts mo_accesses_5 f_mra f_mrA f_mrc f_mrk f_mpi f_mwc f_mwo f_mco f_mpo f_mky f_mla f_mcn f_mct)) hD hS hA [0, 1, 2, 3, 4, 5, 6, 7, 8, 9, 10, 11, 12, 13] rfl
                        refine va_calli (va_runV (As := [.int ((mo_x + (1:Int32)) &&& (255:Int32))]) (rest := [.ref q_mo]) ⟨hx, hb, hml, hown, hts⟩ (mX7_judged l dC dI q_mo q_mra q_mrA q_mrc q_mrk q_mpi q_mwc q_mwo q_mco q_mpo q_mky q_mla q_mcn q_mct k_mra k_mrA k_mrc k_mrk k_mpi k_mwc k_mwo k_mco k_mpo k_mky k_mla k_mcn k_mct H.size mo_port mo_line mo_cycle mo_raised mo_idle mo_bad mo_glyph mo_fetched mo_rows mo_flags2_5 mo_enabled mo_a mo_x mo_y mo_s mo_flags mo_p mo_jammed mo_code (0:Int32) mo_low mo_high mo_old mo_latest_5 mo_cycles mo_stolen mo_interrupts mo_accesses_5 f_mra f_mrA f_mrc f_mrk f_mpi f_mwc f_mwo f_mco f_mpo f_mky f_mla f_mcn f_mct ((mo_x + (1:Int32)) &&& (255:Int32))) (cwV 1 hts (ub_V kMX7_173 kYX7_judged kSX7_judged kIX7 kBX7_judged) rfl rfl rfl (by decide +kernel) ⟨Nat.le_of_ble_eq_true rfl, Nat.le_of_ble_eq_true rfl⟩) ⟨fun a U g mk q => by obtain ⟨q0, q1, qP, qK, qD⟩ := q; exact ⟨q0, q1, qP, va_K.moved (u := U) (U := U.calling g mk a) (Vm.Alike.refl U.vm) qK, qD⟩, va_recv hKc hPc (ci := 7) (q0 := 0) rfl rfl, fun U hU hW => ⟨rfl, by rw [hU], by rw [hU]; exact hPc, va_K.moved hW.alike hKc, hDc.weaken (fun _ _ _ _ => trivial)⟩⟩ rfl rfl hl.1 rfl (lv_room (Nat.le_of_ble_eq_true rfl)) dX7_plainStep_202 ⟨(Nat.zero_le _), (Nat.zero_le _)⟩) hS (fun q _ h => hFc q h) hFc (fun r_202 u_202 t H locs ht hvm hw hB hz1 hk1 hS => ?_)
                        obtain ⟨mo_flags_202, rfl⟩ : ∃ z, z = u_202 := ⟨_, rfl⟩
                        obtain ⟨hP1, hK1, hD1⟩ := hB
                        rw [ht] at hP1
                        obtain ⟨hP, hD⟩ := vb_bk2 (wc := (wwX7 q_mo q_mra q_mrA q_mrc q_mrk q_mpi q_mwc q_mwo q_mco q_mpo q_mky q_mla q_mcn q_mct k_mra k_mrA k_mrc k_mrk k_mpi k_mwc k_mwo k_mco k_mpo k_mky k_mla k_mcn k_mct mo_port mo_line mo_cycle mo_raised mo_idle mo_bad mo_glyph mo_fetched mo_rows mo_flags2_5 mo_enabled mo_a mo_x mo_y mo_s mo_flags mo_p mo_jammed mo_code (0:Int32) mo_low mo_high mo_old mo_latest_5 mo_cycles mo_stolen mo_interrupts mo_accesses_5 f_mra f_mrA f_mrc f_mrk f_mpi f_mwc f_mwo f_mco f_mpo f_mky f_mla f_mcn f_mct)) (ws' := (wwX7 q_mo q_mra q_mrA q_mrc q_mrk q_mpi q_mwc q_mwo q_mco q_mpo q_mky q_mla q_mcn q_mct k_mra k_mrA k_mrc k_mrk k_mpi k_mwc k_mwo k_mco k_mpo k_mky k_mla k_mcn k_mct mo_port mo_line mo_cycle mo_raised mo_idle mo_bad mo_glyph mo_fetched mo_rows mo_flags2_5 mo_enabled mo_a mo_x mo_y mo_s mo_flags_202 mo_p mo_jammed mo_code (0:Int32) mo_low mo_high mo_old mo_latest_5 mo_cycles mo_stolen mo_interrupts mo_accesses_5 f_mra f_mrA f_mrc f_mrk f_mpi f_mwc f_mwo f_mco f_mpo f_mky f_mla f_mcn f_mct)) hP hD hD1 [0, 1, 2, 3, 4, 5, 6, 7, 8, 9, 10, 11, 12, 13] [] rfl [q_mo, q_mra, q_mrA, q_mrc, q_mrk, q_mpi, q_mwc, q_mwo, q_mco, q_mpo, q_mky, q_mla, q_mcn, q_mct] rfl rfl ae_n rfl rfl hk1 hP1
                        rw [← hw] at hF
                        dsimp only at hF
                        refine va_put (D := (dC, dI)) (ci := 7) (v := .int r_202) (ty := .int) (C := RX7) (T := TX7) (N := 41) hx hb hts hiX7 tyX7 tyX7_ok nmX7 hown hK hP hD hS 0 rfl rfl 25 (by decide) (hts _ kFX7_139) (fun _ h9 => h9) rfl (by decide +kernel) rfl rfl (Nat.le_of_ble_eq_true rfl) dX7_plainStep_205 (fun H locs hP hD hS => ?_)
                        have hP : va_P (dC, dI) vwCl (wwX7 q_mo q_mra q_mrA q_mrc q_mrk q_mpi q_mwc q_mwo q_mco q_mpo q_mky q_mla q_mcn q_mct k_mra k_mrA k_mrc k_mrk k_mpi k_mwc k_mwo k_mco k_mpo k_mky k_mla k_mcn k_mct mo_port mo_line mo_cycle mo_raised mo_idle mo_bad mo_glyph mo_fetched mo_rows mo_flags2_5 mo_enabled mo_a r_202 mo_y mo_s mo_flags_202 mo_p mo_jammed mo_code (0:Int32) mo_low mo_high mo_old mo_latest_5 mo_cycles mo_stolen mo_interrupts mo_accesses_5 f_mra f_mrA f_mrc f_mrk f_mpi f_mwc f_mwo f_mco f_mpo f_mky f_mla f_mcn f_mct) H := hP
                        have hD : va_D A (wwX7 q_mo q_mra q_mrA q_mrc q_mrk q_mpi q_mwc q_mwo q_mco q_mpo q_mky q_mla q_mcn q_mct k_mra k_mrA k_mrc k_mrk k_mpi k_mwc k_mwo k_mco k_mpo k_mky k_mla k_mcn k_mct mo_port mo_line mo_cycle mo_raised mo_idle mo_bad mo_glyph mo_fetched mo_rows mo_flags2_5 mo_enabled mo_a r_202 mo_y mo_s mo_flags_202 mo_p mo_jammed mo_code (0:Int32) mo_low mo_high mo_old mo_latest_5 mo_cycles mo_stolen mo_interrupts mo_accesses_5 f_mra f_mrA f_mrc f_mrk f_mpi f_mwc f_mwo f_mco f_mpo f_mky f_mla f_mcn f_mct) := hD
                        refine lv_iload_n hx hb dX7_plainStep_208 rfl (lv_at hl 0 rfl) ?_
                        refine lv_sipush (v := 200) hx hb dX7_plainStep_209 (by decide) ?_
                        refine lv_icmp_ne (tgt := 233) hx hb dX7_plainStep_212 (by decide) (fun c_212 => ?_) (fun c_212 => by exact absurd c_212 (by rw [c_187]; decide))
                        refine lv_iload_n hx hb dX7_plainStep_233 rfl (lv_at hl 0 rfl) ?_
                        refine lv_sipush (v := 202) hx hb dX7_plainStep_234 (by decide) ?_
                        refine lv_icmp_ne (tgt := 260) hx hb dX7_plainStep_237 (by decide) (fun c_237 => ?_) (fun c_237 => by exact absurd c_237 (by rw [c_187]; decide))
                        refine lv_iload_n hx hb dX7_plainStep_260 rfl (lv_at hl 0 rfl) ?_
                        refine lv_sipush (v := 136) hx hb dX7_plainStep_261 (by decide) ?_
                        refine lv_icmp_ne (tgt := 287) hx hb dX7_plainStep_264 (by decide) (fun c_264 => ?_) (fun c_264 => by exact absurd c_264 (by rw [c_187]; decide))
                        refine lv_iload_n hx hb dX7_plainStep_287 rfl (lv_at hl 0 rfl) ?_
                        refine lv_bipush (v := 10) hx hb dX7_plainStep_288 (by decide) ?_
                        refine lv_icmp_ne (tgt := 310) hx hb dX7_plainStep_290 (by decide) (fun c_290 => ?_) (fun c_290 => by exact absurd c_290 (by rw [c_187]; decide))
                        refine lv_aload_n hx hb dX7_plainStep_310 rfl (lv_at hl 1 rfl) ?_
                        refine va_get (D := (dC, dI)) (ci := 7) (v := .int mo_a) (C := RX7) (T := TX7) (N := 41) hx hb hts hiX7 hown hK hP 0 rfl rfl 24 (by decide) (hts _ kFX7_136) (fun _ h9 => h9) rfl dX7_plainStep_311 ?_
                        refine lv_iconst (v := 1) hx hb dX7_plainStep_314 (by decide) ?_
                        refine lv_iand hx hb dX7_plainStep_315 ?_
                        refine lv_iconst (v := 1) hx hb dX7_plainStep_316 (by decide) ?_
                        refine vj_join (j := 325) (rest := []) (Hyp := fun z H locs => z = (if (mo_a &&& (1:Int32)) = (1:Int32) then (1:Int32) else (0:Int32)) ∧ va_P (dC, dI) vwCl (wwX7 q_mo q_mra q_mrA q_mrc q_mrk q_mpi q_mwc q_mwo q_mco q_mpo q_mky q_mla q_mcn q_mct k_mra k_mrA k_mrc k_mrk k_mpi k_mwc k_mwo k_mco k_mpo k_mky k_mla k_mcn k_mct mo_port mo_line mo_cycle mo_raised mo_idle mo_bad mo_glyph mo_fetched mo_rows mo_flags2_5 mo_enabled mo_a r_202 mo_y mo_s mo_flags_202 mo_p mo_jammed mo_code (0:Int32) mo_low mo_high mo_old mo_latest_5 mo_cycles mo_stolen mo_interrupts mo_accesses_5 f_mra f_mrA f_mrc f_mrk f_mpi f_mwc f_mwo f_mco f_mpo f_mky f_mla f_mcn f_mct) H ∧ va_S A s.heap H locs) (fun z H locs hh => ?_) (fun J325 => ?_)
                        · obtain ⟨hz, hP, hS⟩ := hh
                          subst hz
                          refine lv_istore_n (lv' := [(2, .int (if (mo_a &&& (1:Int32)) = (1:Int32) then (1:Int32) else (0:Int32))), (1, .int mo_code), (0, .ref q_mo)]) hx hb dX7_plainStep_325 rfl hl (by decide) rfl (fun ls hl => ?_)
                          refine lv_iload_n hx hb dX7_plainStep_326 rfl (lv_at hl 1 rfl) ?_
                          refine lv_bipush (v := 10) hx hb dX7_plainStep_327 (by decide) ?_
                          refine lv_icmp_ne (tgt := 350) hx hb dX7_plainStep_329 (by decide) (fun c_329 => ?_) (fun c_329 => by exact absurd c_329 (by rw [c_187]; decide))
                          refine lv_iload_n hx hb dX7_plainStep_350 rfl (lv_at hl 1 rfl) ?_
                          refine lv_bipush (v := 74) hx hb dX7_plainStep_351 (by decide) ?_
                          refine lv_icmp_ne (tgt := 370) hx hb dX7_plainStep_353 (by decide) (fun c_353 => ?_) (fun c_353 => by exact absurd c_353 (by rw [c_187]; decide))
                          refine lv_iload_n hx hb dX7_plainStep_370 rfl (lv_at hl 1 rfl) ?_
                          refine lv_bipush (v := 10) hx hb dX7_plainStep_371 (by decide) ?_
                          refine lv_icmp_eq (tgt := 382) hx hb dX7_plainStep_373 (by decide) (fun c_373 => by exact absurd c_373 (by rw [c_187]; decide)) (fun c_373 => ?_)
                          refine lv_iload_n hx hb dX7_plainStep_376 rfl (lv_at hl 1 rfl) ?_
                          refine lv_bipush (v := 74) hx hb dX7_plainStep_377 (by decide) ?_
                          refine lv_icmp_ne (tgt := 388) hx hb dX7_plainStep_379 (by decide) (fun c_379 => ?_) (fun c_379 => by exact absurd c_379 (by rw [c_187]; decide))
                          exact W.vret hx hb hr (fun t ht hW => ⟨⟨(mo_flags2_5, mo_a, r_202, mo_y, mo_flags_202, (0:Int32), mo_latest_5, mo_accesses_5), rfl, hF.symm, by rw [ht]; exact hP, va_K.moved hW.alike hK, hD⟩, hS.F ht⟩) hS.2.2 dX7_plainStep_388
                        · refine lv_icmp_ne (tgt := 324) hx hb dX7_plainStep_317 (by decide) (fun c_317 => ?_) (fun c_317 => ?_)
                          · refine lv_iconst (v := 0) hx hb dX7_plainStep_324 (by decide) ?_
                            exact J325 _ _ _ ⟨by rw [if_neg c_317], hP, hS⟩
                          · refine lv_iconst (v := 1) hx hb dX7_plainStep_320 (by decide) ?_
                            refine lv_goto (tgt := 325) hx hb dX7_plainStep_321 (by decide) ?_
                            exact J325 _ _ _ ⟨by rw [if_pos c_317], hP, hS⟩
                    · have hF := hF.trans (if_pos c_168)
                      refine lv_aload_n hx hb dX7_plainStep_171 rfl (lv_at hl 1 rfl) ?_
                      refine lv_aload_n hx hb dX7_plainStep_172 rfl (lv_at hl 1 rfl) ?_
                      refine lv_aload_n hx hb dX7_plainStep_173 rfl (lv_at hl 1 rfl) ?_
                      refine va_get (D := (dC, dI)) (ci := 7) (v := .int mo_y) (C := RX7) (T := TX7) (N := 41) hx hb hts hiX7 hown hK hP 0 rfl rfl 26 (by decide) (hts _ kFX7_142) (fun _ h9 => h9) rfl dX7_plainStep_174 ?_
                      have hPc := hP.sub (ws' := (wwX7 q_mo q_mra q_mrA q_mrc q_mrk q_mpi q_mwc q_mwo q_mco q_mpo q_mky q_mla q_mcn q_mct k_mra k_mrA k_mrc k_mrk k_mpi k_mwc k_mwo k_mco k_mpo k_mky k_mla k_mcn k_mct mo_port mo_line mo_cycle mo_raised mo_idle mo_bad mo_glyph mo_fetched mo_rows mo_flags2_5 mo_enabled mo_a mo_x mo_y mo_s mo_flags mo_p mo_jammed mo_code (0:Int32) mo_low mo_high mo_old mo_latest_5 mo_cycles mo_stolen mo_interrupts mo_accesses_5 f_mra f_mrA f_mrc f_mrk f_mpi f_mwc f_mwo f_mco f_mpo f_mky f_mla f_mcn f_mct)) [0, 1, 2, 3, 4, 5, 6, 7, 8, 9, 10, 11, 12, 13] rfl
                      have hDc := hD.sub (ws' := (wwX7 q_mo q_mra q_mrA q_mrc q_mrk q_mpi q_mwc q_mwo q_mco q_mpo q_mky q_mla q_mcn q_mct k_mra k_mrA k_mrc k_mrk k_mpi k_mwc k_mwo k_mco k_mpo k_mky k_mla k_mcn k_mct mo_port mo_line mo_cycle mo_raised mo_idle mo_bad mo_glyph mo_fetched mo_rows mo_flags2_5 mo_enabled mo_a mo_x mo_y mo_s mo_flags mo_p mo_jammed mo_code (0:Int32) mo_low mo_high mo_old mo_latest_5 mo_cycles mo_stolen mo_interrupts mo_accesses_5 f_mra f_mrA f_mrc f_mrk f_mpi f_mwc f_mwo f_mco f_mpo f_mky f_mla f_mcn f_mct)) [0, 1, 2, 3, 4, 5, 6, 7, 8, 9, 10, 11, 12, 13] (by decide) rfl
                      have hKc := hK.sub (tys' := [(k_mra, .int), (k_mrA, .int), (k_mrc, .int), (k_mrk, .int), (k_mpi, .int), (k_mwc, .int), (k_mwo, .int), (k_mco, .int), (k_mpo, .int), (k_mky, .int), (k_mla, .int), (k_mcn, .int), (k_mct, .int)]) [0, 1, 2, 3, 4, 5, 6, 7, 8, 9, 10, 11, 12] rfl
                      have hFc := va_free (wc := (wwX7 q_mo q_mra q_mrA q_mrc q_mrk q_mpi q_mwc q_mwo q_mco q_mpo q_mky q_mla q_mcn q_mct k_mra k_mrA k_mrc k_mrk k_mpi k_mwc k_mwo k_mco k_mpo k_mky k_mla k_mcn k_mct mo_port mo_line mo_cycle mo_raised mo_idle mo_bad mo_glyph mo_fetched mo_rows mo_flags2_5 mo_enabled mo_a mo_x mo_y mo_s mo_flags mo_p mo_jammed mo_code (0:Int32) mo_low mo_high mo_old mo_latest_5 mo_cycles mo_stolen mo_interrupts mo_accesses_5 f_mra f_mrA f_mrc f_mrk f_mpi f_mwc f_mwo f_mco f_mpo f_mky f_mla f_mcn f_mct)) hD hS hA [0, 1, 2, 3, 4, 5, 6, 7, 8, 9, 10, 11, 12, 13] rfl
                      refine va_calli (va_runV (As := [.int mo_y]) (rest := [.ref q_mo]) ⟨hx, hb, hml, hown, hts⟩ (mX7_judged l dC dI q_mo q_mra q_mrA q_mrc q_mrk q_mpi q_mwc q_mwo q_mco q_mpo q_mky q_mla q_mcn q_mct k_mra k_mrA k_mrc k_mrk k_mpi k_mwc k_mwo k_mco k_mpo k_mky k_mla k_mcn k_mct H.size mo_port mo_line mo_cycle mo_raised mo_idle mo_bad mo_glyph mo_fetched mo_rows mo_flags2_5 mo_enabled mo_a mo_x mo_y mo_s mo_flags mo_p mo_jammed mo_code (0:Int32) mo_low mo_high mo_old mo_latest_5 mo_cycles mo_stolen mo_interrupts mo_accesses_5 f_mra f_mrA f_mrc f_mrk f_mpi f_mwc f_mwo f_mco f_mpo f_mky f_mla f_mcn f_mct mo_y) (cwV 1 hts (ub_V kMX7_173 kYX7_judged kSX7_judged kIX7 kBX7_judged) rfl rfl rfl (by decide +kernel) ⟨Nat.le_of_ble_eq_true rfl, Nat.le_of_ble_eq_true rfl⟩) ⟨fun a U g mk q => by obtain ⟨q0, q1, qP, qK, qD⟩ := q; exact ⟨q0, q1, qP, va_K.moved (u := U) (U := U.calling g mk a) (Vm.Alike.refl U.vm) qK, qD⟩, va_recv hKc hPc (ci := 7) (q0 := 0) rfl rfl, fun U hU hW => ⟨rfl, by rw [hU], by rw [hU]; exact hPc, va_K.moved hW.alike hKc, hDc.weaken (fun _ _ _ _ => trivial)⟩⟩ rfl rfl hl.1 rfl (lv_room (Nat.le_of_ble_eq_true rfl)) dX7_plainStep_177 ⟨(Nat.zero_le _), (Nat.zero_le _)⟩) hS (fun q _ h => hFc q h) hFc (fun r_177 u_177 t H locs ht hvm hw hB hz1 hk1 hS => ?_)
                      obtain ⟨mo_flags_177, rfl⟩ : ∃ z, z = u_177 := ⟨_, rfl⟩
                      obtain ⟨hP1, hK1, hD1⟩ := hB
                      rw [ht] at hP1
                      obtain ⟨hP, hD⟩ := vb_bk2 (wc := (wwX7 q_mo q_mra q_mrA q_mrc q_mrk q_mpi q_mwc q_mwo q_mco q_mpo q_mky q_mla q_mcn q_mct k_mra k_mrA k_mrc k_mrk k_mpi k_mwc k_mwo k_mco k_mpo k_mky k_mla k_mcn k_mct mo_port mo_line mo_cycle mo_raised mo_idle mo_bad mo_glyph mo_fetched mo_rows mo_flags2_5 mo_enabled mo_a mo_x mo_y mo_s mo_flags mo_p mo_jammed mo_code (0:Int32) mo_low mo_high mo_old mo_latest_5 mo_cycles mo_stolen mo_interrupts mo_accesses_5 f_mra f_mrA f_mrc f_mrk f_mpi f_mwc f_mwo f_mco f_mpo f_mky f_mla f_mcn f_mct)) (ws' := (wwX7 q_mo q_mra q_mrA q_mrc q_mrk q_mpi q_mwc q_mwo q_mco q_mpo q_mky q_mla q_mcn q_mct k_mra k_mrA k_mrc k_mrk k_mpi k_mwc k_mwo k_mco k_mpo k_mky k_mla k_mcn k_mct mo_port mo_line mo_cycle mo_raised mo_idle mo_bad mo_glyph mo_fetched mo_rows mo_flags2_5 mo_enabled mo_a mo_x mo_y mo_s mo_flags_177 mo_p mo_jammed mo_code (0:Int32) mo_low mo_high mo_old mo_latest_5 mo_cycles mo_stolen mo_interrupts mo_accesses_5 f_mra f_mrA f_mrc f_mrk f_mpi f_mwc f_mwo f_mco f_mpo f_mky f_mla f_mcn f_mct)) hP hD hD1 [0, 1, 2, 3, 4, 5, 6, 7, 8, 9, 10, 11, 12, 13] [] rfl [q_mo, q_mra, q_mrA, q_mrc, q_mrk, q_mpi, q_mwc, q_mwo, q_mco, q_mpo, q_mky, q_mla, q_mcn, q_mct] rfl rfl ae_n rfl rfl hk1 hP1
                      rw [← hw] at hF
                      dsimp only at hF
                      refine va_put (D := (dC, dI)) (ci := 7) (v := .int r_177) (ty := .int) (C := RX7) (T := TX7) (N := 41) hx hb hts hiX7 tyX7 tyX7_ok nmX7 hown hK hP hD hS 0 rfl rfl 24 (by decide) (hts _ kFX7_136) (fun _ h9 => h9) rfl (by decide +kernel) rfl rfl (Nat.le_of_ble_eq_true rfl) dX7_plainStep_180 (fun H locs hP hD hS => ?_)
                      have hP : va_P (dC, dI) vwCl (wwX7 q_mo q_mra q_mrA q_mrc q_mrk q_mpi q_mwc q_mwo q_mco q_mpo q_mky q_mla q_mcn q_mct k_mra k_mrA k_mrc k_mrk k_mpi k_mwc k_mwo k_mco k_mpo k_mky k_mla k_mcn k_mct mo_port mo_line mo_cycle mo_raised mo_idle mo_bad mo_glyph mo_fetched mo_rows mo_flags2_5 mo_enabled r_177 mo_x mo_y mo_s mo_flags_177 mo_p mo_jammed mo_code (0:Int32) mo_low mo_high mo_old mo_latest_5 mo_cycles mo_stolen mo_interrupts mo_accesses_5 f_mra f_mrA f_mrc f_mrk f_mpi f_mwc f_mwo f_mco f_mpo f_mky f_mla f_mcn f_mct) H := hP
                      have hD : va_D A (wwX7 q_mo q_mra q_mrA q_mrc q_mrk q_mpi q_mwc q_mwo q_mco q_mpo q_mky q_mla q_mcn q_mct k_mra k_mrA k_mrc k_mrk k_mpi k_mwc k_mwo k_mco k_mpo k_mky k_mla k_mcn k_mct mo_port mo_line mo_cycle mo_raised mo_idle mo_bad mo_glyph mo_fetched mo_rows mo_flags2_5 mo_enabled r_177 mo_x mo_y mo_s mo_flags_177 mo_p mo_jammed mo_code (0:Int32) mo_low mo_high mo_old mo_latest_5 mo_cycles mo_stolen mo_interrupts mo_accesses_5 f_mra f_mrA f_mrc f_mrk f_mpi f_mwc f_mwo f_mco f_mpo f_mky f_mla f_mcn f_mct) := hD
                      refine lv_iload_n hx hb dX7_plainStep_183 rfl (lv_at hl 0 rfl) ?_
                      refine lv_sipush (v := 232) hx hb dX7_plainStep_184 (by decide) ?_
                      refine lv_icmp_ne (tgt := 208) hx hb dX7_plainStep_187 (by decide) (fun c_187 => ?_) (fun c_187 => by exact absurd c_187 (by rw [c_168]; decide))
                      refine lv_iload_n hx hb dX7_plainStep_208 rfl (lv_at hl 0 rfl) ?_
                      refine lv_sipush (v := 200) hx hb dX7_plainStep_209 (by decide) ?_
                      refine lv_icmp_ne (tgt := 233) hx hb dX7_plainStep_212 (by decide) (fun c_212 => ?_) (fun c_212 => by exact absurd c_212 (by rw [c_168]; decide))
                      refine lv_iload_n hx hb dX7_plainStep_233 rfl (lv_at hl 0 rfl) ?_
                      refine lv_sipush (v := 202) hx hb dX7_plainStep_234 (by decide) ?_
                      refine lv_icmp_ne (tgt := 260) hx hb dX7_plainStep_237 (by decide) (fun c_237 => ?_) (fun c_237 => by exact absurd c_237 (by rw [c_168]; decide))
                      refine lv_iload_n hx hb dX7_plainStep_260 rfl (lv_at hl 0 rfl) ?_
                      refine lv_sipush (v := 136) hx hb dX7_plainStep_261 (by decide) ?_
                      refine lv_icmp_ne (tgt := 287) hx hb dX7_plainStep_264 (by decide) (fun c_264 => ?_) (fun c_264 => by exact absurd c_264 (by rw [c_168]; decide))
                      refine lv_iload_n hx hb dX7_plainStep_287 rfl (lv_at hl 0 rfl) ?_
                      refine lv_bipush (v := 10) hx hb dX7_plainStep_288 (by decide) ?_
                      refine lv_icmp_ne (tgt := 310) hx hb dX7_plainStep_290 (by decide) (fun c_290 => ?_) (fun c_290 => by exact absurd c_290 (by rw [c_168]; decide))
                      refine lv_aload_n hx hb dX7_plainStep_310 rfl (lv_at hl 1 rfl) ?_
                      refine va_get (D := (dC, dI)) (ci := 7) (v := .int r_177) (C := RX7) (T := TX7) (N := 41) hx hb hts hiX7 hown hK hP 0 rfl rfl 24 (by decide) (hts _ kFX7_136) (fun _ h9 => h9) rfl dX7_plainStep_311 ?_
                      refine lv_iconst (v := 1) hx hb dX7_plainStep_314 (by decide) ?_
                      refine lv_iand hx hb dX7_plainStep_315 ?_
                      refine lv_iconst (v := 1) hx hb dX7_plainStep_316 (by decide) ?_
                      refine vj_join (j := 325) (rest := []) (Hyp := fun z H locs => z = (if (r_177 &&& (1:Int32)) = (1:Int32) then (1:Int32) else (0:Int32)) ∧ va_P (dC, dI) vwCl (wwX7 q_mo q_mra q_mrA q_mrc q_mrk q_mpi q_mwc q_mwo q_mco q_mpo q_mky q_mla q_mcn q_mct k_mra k_mrA k_mrc k_mrk k_mpi k_mwc k_mwo k_mco k_mpo k_mky k_mla k_mcn k_mct mo_port mo_line mo_cycle mo_raised mo_idle mo_bad mo_glyph mo_fetched mo_rows mo_flags2_5 mo_enabled r_177 mo_x mo_y mo_s mo_flags_177 mo_p mo_jammed mo_code (0:Int32) mo_low mo_high mo_old mo_latest_5 mo_cycles mo_stolen mo_interrupts mo_accesses_5 f_mra f_mrA f_mrc f_mrk f_mpi f_mwc f_mwo f_mco f_mpo f_mky f_mla f_mcn f_mct) H ∧ va_S A s.heap H locs) (fun z H locs hh => ?_) (fun J325 => ?_)
                      · obtain ⟨hz, hP, hS⟩ := hh
                        subst hz
                        refine lv_istore_n (lv' := [(2, .int (if (r_177 &&& (1:Int32)) = (1:Int32) then (1:Int32) else (0:Int32))), (1, .int mo_code), (0, .ref q_mo)]) hx hb dX7_plainStep_325 rfl hl (by decide) rfl (fun ls hl => ?_)
                        refine lv_iload_n hx hb dX7_plainStep_326 rfl (lv_at hl 1 rfl) ?_
                        refine lv_bipush (v := 10) hx hb dX7_plainStep_327 (by decide) ?_
                        refine lv_icmp_ne (tgt := 350) hx hb dX7_plainStep_329 (by decide) (fun c_329 => ?_) (fun c_329 => by exact absurd c_329 (by rw [c_168]; decide))
                        refine lv_iload_n hx hb dX7_plainStep_350 rfl (lv_at hl 1 rfl) ?_
                        refine lv_bipush (v := 74) hx hb dX7_plainStep_351 (by decide) ?_
                        refine lv_icmp_ne (tgt := 370) hx hb dX7_plainStep_353 (by decide) (fun c_353 => ?_) (fun c_353 => by exact absurd c_353 (by rw [c_168]; decide))
                        refine lv_iload_n hx hb dX7_plainStep_370 rfl (lv_at hl 1 rfl) ?_
                        refine lv_bipush (v := 10) hx hb dX7_plainStep_371 (by decide) ?_
                        refine lv_icmp_eq (tgt := 382) hx hb dX7_plainStep_373 (by decide) (fun c_373 => by exact absurd c_373 (by rw [c_168]; decide)) (fun c_373 => ?_)
                        refine lv_iload_n hx hb dX7_plainStep_376 rfl (lv_at hl 1 rfl) ?_
                        refine lv_bipush (v := 74) hx hb dX7_plainStep_377 (by decide) ?_
                        refine lv_icmp_ne (tgt := 388) hx hb dX7_plainStep_379 (by decide) (fun c_379 => ?_) (fun c_379 => by exact absurd c_379 (by rw [c_168]; decide))
                        exact W.vret hx hb hr (fun t ht hW => ⟨⟨(mo_flags2_5, r_177, mo_x, mo_y, mo_flags_177, (0:Int32), mo_latest_5, mo_accesses_5), rfl, hF.symm, by rw [ht]; exact hP, va_K.moved hW.alike hK, hD⟩, hS.F ht⟩) hS.2.2 dX7_plainStep_388
                      · refine lv_icmp_ne (tgt := 324) hx hb dX7_plainStep_317 (by decide) (fun c_317 => ?_) (fun c_317 => ?_)
                        · refine lv_iconst (v := 0) hx hb dX7_plainStep_324 (by decide) ?_
                          exact J325 _ _ _ ⟨by rw [if_neg c_317], hP, hS⟩
                        · refine lv_iconst (v := 1) hx hb dX7_plainStep_320 (by decide) ?_
                          refine lv_goto (tgt := 325) hx hb dX7_plainStep_321 (by decide) ?_
                          exact J325 _ _ _ ⟨by rw [if_pos c_317], hP, hS⟩
                  · have hF := hF.trans (if_pos c_149)
                    refine lv_aload_n hx hb dX7_plainStep_152 rfl (lv_at hl 1 rfl) ?_
                    refine lv_aload_n hx hb dX7_plainStep_153 rfl (lv_at hl 1 rfl) ?_
                    refine lv_aload_n hx hb dX7_plainStep_154 rfl (lv_at hl 1 rfl) ?_
                    refine va_get (D := (dC, dI)) (ci := 7) (v := .int mo_a) (C := RX7) (T := TX7) (N := 41) hx hb hts hiX7 hown hK hP 0 rfl rfl 24 (by decide) (hts _ kFX7_136) (fun _ h9 => h9) rfl dX7_plainStep_155 ?_
                    have hPc := hP.sub (ws' := (wwX7 q_mo q_mra q_mrA q_mrc q_mrk q_mpi q_mwc q_mwo q_mco q_mpo q_mky q_mla q_mcn q_mct k_mra k_mrA k_mrc k_mrk k_mpi k_mwc k_mwo k_mco k_mpo k_mky k_mla k_mcn k_mct mo_port mo_line mo_cycle mo_raised mo_idle mo_bad mo_glyph mo_fetched mo_rows mo_flags2_5 mo_enabled mo_a mo_x mo_y mo_s mo_flags mo_p mo_jammed mo_code (0:Int32) mo_low mo_high mo_old mo_latest_5 mo_cycles mo_stolen mo_interrupts mo_accesses_5 f_mra f_mrA f_mrc f_mrk f_mpi f_mwc f_mwo f_mco f_mpo f_mky f_mla f_mcn f_mct)) [0, 1, 2, 3, 4, 5, 6, 7, 8, 9, 10, 11, 12, 13] rfl
                    have hDc := hD.sub (ws' := (wwX7 q_mo q_mra q_mrA q_mrc q_mrk q_mpi q_mwc q_mwo q_mco q_mpo q_mky q_mla q_mcn q_mct k_mra k_mrA k_mrc k_mrk k_mpi k_mwc k_mwo k_mco k_mpo k_mky k_mla k_mcn k_mct mo_port mo_line mo_cycle mo_raised mo_idle mo_bad mo_glyph mo_fetched mo_rows mo_flags2_5 mo_enabled mo_a mo_x mo_y mo_s mo_flags mo_p mo_jammed mo_code (0:Int32) mo_low mo_high mo_old mo_latest_5 mo_cycles mo_stolen mo_interrupts mo_accesses_5 f_mra f_mrA f_mrc f_mrk f_mpi f_mwc f_mwo f_mco f_mpo f_mky f_mla f_mcn f_mct)) [0, 1, 2, 3, 4, 5, 6, 7, 8, 9, 10, 11, 12, 13] (by decide) rfl
                    have hKc := hK.sub (tys' := [(k_mra, .int), (k_mrA, .int), (k_mrc, .int), (k_mrk, .int), (k_mpi, .int), (k_mwc, .int), (k_mwo, .int), (k_mco, .int), (k_mpo, .int), (k_mky, .int), (k_mla, .int), (k_mcn, .int), (k_mct, .int)]) [0, 1, 2, 3, 4, 5, 6, 7, 8, 9, 10, 11, 12] rfl
                    have hFc := va_free (wc := (wwX7 q_mo q_mra q_mrA q_mrc q_mrk q_mpi q_mwc q_mwo q_mco q_mpo q_mky q_mla q_mcn q_mct k_mra k_mrA k_mrc k_mrk k_mpi k_mwc k_mwo k_mco k_mpo k_mky k_mla k_mcn k_mct mo_port mo_line mo_cycle mo_raised mo_idle mo_bad mo_glyph mo_fetched mo_rows mo_flags2_5 mo_enabled mo_a mo_x mo_y mo_s mo_flags mo_p mo_jammed mo_code (0:Int32) mo_low mo_high mo_old mo_latest_5 mo_cycles mo_stolen mo_interrupts mo_accesses_5 f_mra f_mrA f_mrc f_mrk f_mpi f_mwc f_mwo f_mco f_mpo f_mky f_mla f_mcn f_mct)) hD hS hA [0, 1, 2, 3, 4, 5, 6, 7, 8, 9, 10, 11, 12, 13] rfl
                    refine va_calli (va_runV (As := [.int mo_a]) (rest := [.ref q_mo]) ⟨hx, hb, hml, hown, hts⟩ (mX7_judged l dC dI q_mo q_mra q_mrA q_mrc q_mrk q_mpi q_mwc q_mwo q_mco q_mpo q_mky q_mla q_mcn q_mct k_mra k_mrA k_mrc k_mrk k_mpi k_mwc k_mwo k_mco k_mpo k_mky k_mla k_mcn k_mct H.size mo_port mo_line mo_cycle mo_raised mo_idle mo_bad mo_glyph mo_fetched mo_rows mo_flags2_5 mo_enabled mo_a mo_x mo_y mo_s mo_flags mo_p mo_jammed mo_code (0:Int32) mo_low mo_high mo_old mo_latest_5 mo_cycles mo_stolen mo_interrupts mo_accesses_5 f_mra f_mrA f_mrc f_mrk f_mpi f_mwc f_mwo f_mco f_mpo f_mky f_mla f_mcn f_mct mo_a) (cwV 1 hts (ub_V kMX7_173 kYX7_judged kSX7_judged kIX7 kBX7_judged) rfl rfl rfl (by decide +kernel) ⟨Nat.le_of_ble_eq_true rfl, Nat.le_of_ble_eq_true rfl⟩) ⟨fun a U g mk q => by obtain ⟨q0, q1, qP, qK, qD⟩ := q; exact ⟨q0, q1, qP, va_K.moved (u := U) (U := U.calling g mk a) (Vm.Alike.refl U.vm) qK, qD⟩, va_recv hKc hPc (ci := 7) (q0 := 0) rfl rfl, fun U hU hW => ⟨rfl, by rw [hU], by rw [hU]; exact hPc, va_K.moved hW.alike hKc, hDc.weaken (fun _ _ _ _ => trivial)⟩⟩ rfl rfl hl.1 rfl (lv_room (Nat.le_of_ble_eq_true rfl)) dX7_plainStep_158 ⟨(Nat.zero_le _), (Nat.zero_le _)⟩) hS (fun q _ h => hFc q h) hFc (fun r_158 u_158 t H locs ht hvm hw hB hz1 hk1 hS => ?_)
                    obtain ⟨mo_flags_158, rfl⟩ : ∃ z, z = u_158 := ⟨_, rfl⟩
                    obtain ⟨hP1, hK1, hD1⟩ := hB
                    rw [ht] at hP1
                    obtain ⟨hP, hD⟩ := vb_bk2 (wc := (wwX7 q_mo q_mra q_mrA q_mrc q_mrk q_mpi q_mwc q_mwo q_mco q_mpo q_mky q_mla q_mcn q_mct k_mra k_mrA k_mrc k_mrk k_mpi k_mwc k_mwo k_mco k_mpo k_mky k_mla k_mcn k_mct mo_port mo_line mo_cycle mo_raised mo_idle mo_bad mo_glyph mo_fetched mo_rows mo_flags2_5 mo_enabled mo_a mo_x mo_y mo_s mo_flags mo_p mo_jammed mo_code (0:Int32) mo_low mo_high mo_old mo_latest_5 mo_cycles mo_stolen mo_interrupts mo_accesses_5 f_mra f_mrA f_mrc f_mrk f_mpi f_mwc f_mwo f_mco f_mpo f_mky f_mla f_mcn f_mct)) (ws' := (wwX7 q_mo q_mra q_mrA q_mrc q_mrk q_mpi q_mwc q_mwo q_mco q_mpo q_mky q_mla q_mcn q_mct k_mra k_mrA k_mrc k_mrk k_mpi k_mwc k_mwo k_mco k_mpo k_mky k_mla k_mcn k_mct mo_port mo_line mo_cycle mo_raised mo_idle mo_bad mo_glyph mo_fetched mo_rows mo_flags2_5 mo_enabled mo_a mo_x mo_y mo_s mo_flags_158 mo_p mo_jammed mo_code (0:Int32) mo_low mo_high mo_old mo_latest_5 mo_cycles mo_stolen mo_interrupts mo_accesses_5 f_mra f_mrA f_mrc f_mrk f_mpi f_mwc f_mwo f_mco f_mpo f_mky f_mla f_mcn f_mct)) hP hD hD1 [0, 1, 2, 3, 4, 5, 6, 7, 8, 9, 10, 11, 12, 13] [] rfl [q_mo, q_mra, q_mrA, q_mrc, q_mrk, q_mpi, q_mwc, q_mwo, q_mco, q_mpo, q_mky, q_mla, q_mcn, q_mct] rfl rfl ae_n rfl rfl hk1 hP1
                    rw [← hw] at hF
                    dsimp only at hF
                    refine va_put (D := (dC, dI)) (ci := 7) (v := .int r_158) (ty := .int) (C := RX7) (T := TX7) (N := 41) hx hb hts hiX7 tyX7 tyX7_ok nmX7 hown hK hP hD hS 0 rfl rfl 26 (by decide) (hts _ kFX7_142) (fun _ h9 => h9) rfl (by decide +kernel) rfl rfl (Nat.le_of_ble_eq_true rfl) dX7_plainStep_161 (fun H locs hP hD hS => ?_)
                    have hP : va_P (dC, dI) vwCl (wwX7 q_mo q_mra q_mrA q_mrc q_mrk q_mpi q_mwc q_mwo q_mco q_mpo q_mky q_mla q_mcn q_mct k_mra k_mrA k_mrc k_mrk k_mpi k_mwc k_mwo k_mco k_mpo k_mky k_mla k_mcn k_mct mo_port mo_line mo_cycle mo_raised mo_idle mo_bad mo_glyph mo_fetched mo_rows mo_flags2_5 mo_enabled mo_a mo_x r_158 mo_s mo_flags_158 mo_p mo_jammed mo_code (0:Int32) mo_low mo_high mo_old mo_latest_5 mo_cycles mo_stolen mo_interrupts mo_accesses_5 f_mra f_mrA f_mrc f_mrk f_mpi f_mwc f_mwo f_mco f_mpo f_mky f_mla f_mcn f_mct) H := hP
                    have hD : va_D A (wwX7 q_mo q_mra q_mrA q_mrc q_mrk q_mpi q_mwc q_mwo q_mco q_mpo q_mky q_mla q_mcn q_mct k_mra k_mrA k_mrc k_mrk k_mpi k_mwc k_mwo k_mco k_mpo k_mky k_mla k_mcn k_mct mo_port mo_line mo_cycle mo_raised mo_idle mo_bad mo_glyph mo_fetched mo_rows mo_flags2_5 mo_enabled mo_a mo_x r_158 mo_s mo_flags_158 mo_p mo_jammed mo_code (0:Int32) mo_low mo_high mo_old mo_latest_5 mo_cycles mo_stolen mo_interrupts mo_accesses_5 f_mra f_mrA f_mrc f_mrk f_mpi f_mwc f_mwo f_mco f_mpo f_mky f_mla f_mcn f_mct) := hD
                    refine lv_iload_n hx hb dX7_plainStep_164 rfl (lv_at hl 0 rfl) ?_
                    refine lv_sipush (v := 152) hx hb dX7_plainStep_165 (by decide) ?_
                    refine lv_icmp_ne (tgt := 183) hx hb dX7_plainStep_168 (by decide) (fun c_168 => ?_) (fun c_168 => by exact absurd c_168 (by rw [c_149]; decide))
                    refine lv_iload_n hx hb dX7_plainStep_183 rfl (lv_at hl 0 rfl) ?_
                    refine lv_sipush (v := 232) hx hb dX7_plainStep_184 (by decide) ?_
                    refine lv_icmp_ne (tgt := 208) hx hb dX7_plainStep_187 (by decide) (fun c_187 => ?_) (fun c_187 => by exact absurd c_187 (by rw [c_149]; decide))
                    refine lv_iload_n hx hb dX7_plainStep_208 rfl (lv_at hl 0 rfl) ?_
                    refine lv_sipush (v := 200) hx hb dX7_plainStep_209 (by decide) ?_
                    refine lv_icmp_ne (tgt := 233) hx hb dX7_plainStep_212 (by decide) (fun c_212 => ?_) (fun c_212 => by exact absurd c_212 (by rw [c_149]; decide))
                    refine lv_iload_n hx hb dX7_plainStep_233 rfl (lv_at hl 0 rfl) ?_
                    refine lv_sipush (v := 202) hx hb dX7_plainStep_234 (by decide) ?_
                    refine lv_icmp_ne (tgt := 260) hx hb dX7_plainStep_237 (by decide) (fun c_237 => ?_) (fun c_237 => by exact absurd c_237 (by rw [c_149]; decide))
                    refine lv_iload_n hx hb dX7_plainStep_260 rfl (lv_at hl 0 rfl) ?_
                    refine lv_sipush (v := 136) hx hb dX7_plainStep_261 (by decide) ?_
                    refine lv_icmp_ne (tgt := 287) hx hb dX7_plainStep_264 (by decide) (fun c_264 => ?_) (fun c_264 => by exact absurd c_264 (by rw [c_149]; decide))
                    refine lv_iload_n hx hb dX7_plainStep_287 rfl (lv_at hl 0 rfl) ?_
                    refine lv_bipush (v := 10) hx hb dX7_plainStep_288 (by decide) ?_
                    refine lv_icmp_ne (tgt := 310) hx hb dX7_plainStep_290 (by decide) (fun c_290 => ?_) (fun c_290 => by exact absurd c_290 (by rw [c_149]; decide))
                    refine lv_aload_n hx hb dX7_plainStep_310 rfl (lv_at hl 1 rfl) ?_
                    refine va_get (D := (dC, dI)) (ci := 7) (v := .int mo_a) (C := RX7) (T := TX7) (N := 41) hx hb hts hiX7 hown hK hP 0 rfl rfl 24 (by decide) (hts _ kFX7_136) (fun _ h9 => h9) rfl dX7_plainStep_311 ?_
                    refine lv_iconst (v := 1) hx hb dX7_plainStep_314 (by decide) ?_
                    refine lv_iand hx hb dX7_plainStep_315 ?_
                    refine lv_iconst (v := 1) hx hb dX7_plainStep_316 (by decide) ?_
                    refine vj_join (j := 325) (rest := []) (Hyp := fun z H locs => z = (if (mo_a &&& (1:Int32)) = (1:Int32) then (1:Int32) else (0:Int32)) ∧ va_P (dC, dI) vwCl (wwX7 q_mo q_mra q_mrA q_mrc q_mrk q_mpi q_mwc q_mwo q_mco q_mpo q_mky q_mla q_mcn q_mct k_mra k_mrA k_mrc k_mrk k_mpi k_mwc k_mwo k_mco k_mpo k_mky k_mla k_mcn k_mct mo_port mo_line mo_cycle mo_raised mo_idle mo_bad mo_glyph mo_fetched mo_rows mo_flags2_5 mo_enabled mo_a mo_x r_158 mo_s mo_flags_158 mo_p mo_jammed mo_code (0:Int32) mo_low mo_high mo_old mo_latest_5 mo_cycles mo_stolen mo_interrupts mo_accesses_5 f_mra f_mrA f_mrc f_mrk f_mpi f_mwc f_mwo f_mco f_mpo f_mky f_mla f_mcn f_mct) H ∧ va_S A s.heap H locs) (fun z H locs hh => ?_) (fun J325 => ?_)
                    · obtain ⟨hz, hP, hS⟩ := hh
                      subst hz
                      refine lv_istore_n (lv' := [(2, .int (if (mo_a &&& (1:Int32)) = (1:Int32) then (1:Int32) else (0:Int32))), (1, .int mo_code), (0, .ref q_mo)]) hx hb dX7_plainStep_325 rfl hl (by decide) rfl (fun ls hl => ?_)
                      refine lv_iload_n hx hb dX7_plainStep_326 rfl (lv_at hl 1 rfl) ?_
                      refine lv_bipush (v := 10) hx hb dX7_plainStep_327 (by decide) ?_
                      refine lv_icmp_ne (tgt := 350) hx hb dX7_plainStep_329 (by decide) (fun c_329 => ?_) (fun c_329 => by exact absurd c_329 (by rw [c_149]; decide))
                      refine lv_iload_n hx hb dX7_plainStep_350 rfl (lv_at hl 1 rfl) ?_
                      refine lv_bipush (v := 74) hx hb dX7_plainStep_351 (by decide) ?_
                      refine lv_icmp_ne (tgt := 370) hx hb dX7_plainStep_353 (by decide) (fun c_353 => ?_) (fun c_353 => by exact absurd c_353 (by rw [c_149]; decide))
                      refine lv_iload_n hx hb dX7_plainStep_370 rfl (lv_at hl 1 rfl) ?_
                      refine lv_bipush (v := 10) hx hb dX7_plainStep_371 (by decide) ?_
                      refine lv_icmp_eq (tgt := 382) hx hb dX7_plainStep_373 (by decide) (fun c_373 => by exact absurd c_373 (by rw [c_149]; decide)) (fun c_373 => ?_)
                      refine lv_iload_n hx hb dX7_plainStep_376 rfl (lv_at hl 1 rfl) ?_
                      refine lv_bipush (v := 74) hx hb dX7_plainStep_377 (by decide) ?_
                      refine lv_icmp_ne (tgt := 388) hx hb dX7_plainStep_379 (by decide) (fun c_379 => ?_) (fun c_379 => by exact absurd c_379 (by rw [c_149]; decide))
                      exact W.vret hx hb hr (fun t ht hW => ⟨⟨(mo_flags2_5, mo_a, mo_x, r_158, mo_flags_158, (0:Int32), mo_latest_5, mo_accesses_5), rfl, hF.symm, by rw [ht]; exact hP, va_K.moved hW.alike hK, hD⟩, hS.F ht⟩) hS.2.2 dX7_plainStep_388
                    · refine lv_icmp_ne (tgt := 324) hx hb dX7_plainStep_317 (by decide) (fun c_317 => ?_) (fun c_317 => ?_)
                      · refine lv_iconst (v := 0) hx hb dX7_plainStep_324 (by decide) ?_
                        exact J325 _ _ _ ⟨by rw [if_neg c_317], hP, hS⟩
                      · refine lv_iconst (v := 1) hx hb dX7_plainStep_320 (by decide) ?_
                        refine lv_goto (tgt := 325) hx hb dX7_plainStep_321 (by decide) ?_
                        exact J325 _ _ _ ⟨by rw [if_pos c_317], hP, hS⟩
                · have hF := hF.trans (if_pos c_130)
                  refine lv_aload_n hx hb dX7_plainStep_133 rfl (lv_at hl 1 rfl) ?_
                  refine lv_aload_n hx hb dX7_plainStep_134 rfl (lv_at hl 1 rfl) ?_
                  refine lv_aload_n hx hb dX7_plainStep_135 rfl (lv_at hl 1 rfl) ?_
                  refine va_get (D := (dC, dI)) (ci := 7) (v := .int mo_x) (C := RX7) (T := TX7) (N := 41) hx hb hts hiX7 hown hK hP 0 rfl rfl 25 (by decide) (hts _ kFX7_139) (fun _ h9 => h9) rfl dX7_plainStep_136 ?_
                  have hPc := hP.sub (ws' := (wwX7 q_mo q_mra q_mrA q_mrc q_mrk q_mpi q_mwc q_mwo q_mco q_mpo q_mky q_mla q_mcn q_mct k_mra k_mrA k_mrc k_mrk k_mpi k_mwc k_mwo k_mco k_mpo k_mky k_mla k_mcn k_mct mo_port mo_line mo_cycle mo_raised mo_idle mo_bad mo_glyph mo_fetched mo_rows mo_flags2_5 mo_enabled mo_a mo_x mo_y mo_s mo_flags mo_p mo_jammed mo_code (0:Int32) mo_low mo_high mo_old mo_latest_5 mo_cycles mo_stolen mo_interrupts mo_accesses_5 f_mra f_mrA f_mrc f_mrk f_mpi f_mwc f_mwo f_mco f_mpo f_mky f_mla f_mcn f_mct)) [0, 1, 2, 3, 4, 5, 6, 7, 8, 9, 10, 11, 12, 13] rfl
                  have hDc := hD.sub (ws' := (wwX7 q_mo q_mra q_mrA q_mrc q_mrk q_mpi q_mwc q_mwo q_mco q_mpo q_mky q_mla q_mcn q_mct k_mra k_mrA k_mrc k_mrk k_mpi k_mwc k_mwo k_mco k_mpo k_mky k_mla k_mcn k_mct mo_port mo_line mo_cycle mo_raised mo_idle mo_bad mo_glyph mo_fetched mo_rows mo_flags2_5 mo_enabled mo_a mo_x mo_y mo_s mo_flags mo_p mo_jammed mo_code (0:Int32) mo_low mo_high mo_old mo_latest_5 mo_cycles mo_stolen mo_interrupts mo_accesses_5 f_mra f_mrA f_mrc f_mrk f_mpi f_mwc f_mwo f_mco f_mpo f_mky f_mla f_mcn f_mct)) [0, 1, 2, 3, 4, 5, 6, 7, 8, 9, 10, 11, 12, 13] (by decide) rfl
                  have hKc := hK.sub (tys' := [(k_mra, .int), (k_mrA, .int), (k_mrc, .int), (k_mrk, .int), (k_mpi, .int), (k_mwc, .int), (k_mwo, .int), (k_mco, .int), (k_mpo, .int), (k_mky, .int), (k_mla, .int), (k_mcn, .int), (k_mct, .int)]) [0, 1, 2, 3, 4, 5, 6, 7, 8, 9, 10, 11, 12] rfl
                  have hFc := va_free (wc := (wwX7 q_mo q_mra q_mrA q_mrc q_mrk q_mpi q_mwc q_mwo q_mco q_mpo q_mky q_mla q_mcn q_mct k_mra k_mrA k_mrc k_mrk k_mpi k_mwc k_mwo k_mco k_mpo k_mky k_mla k_mcn k_mct mo_port mo_line mo_cycle mo_raised mo_idle mo_bad mo_glyph mo_fetched mo_rows mo_flags2_5 mo_enabled mo_a mo_x mo_y mo_s mo_flags mo_p mo_jammed mo_code (0:Int32) mo_low mo_high mo_old mo_latest_5 mo_cycles mo_stolen mo_interrupts mo_accesses_5 f_mra f_mrA f_mrc f_mrk f_mpi f_mwc f_mwo f_mco f_mpo f_mky f_mla f_mcn f_mct)) hD hS hA [0, 1, 2, 3, 4, 5, 6, 7, 8, 9, 10, 11, 12, 13] rfl
                  refine va_calli (va_runV (As := [.int mo_x]) (rest := [.ref q_mo]) ⟨hx, hb, hml, hown, hts⟩ (mX7_judged l dC dI q_mo q_mra q_mrA q_mrc q_mrk q_mpi q_mwc q_mwo q_mco q_mpo q_mky q_mla q_mcn q_mct k_mra k_mrA k_mrc k_mrk k_mpi k_mwc k_mwo k_mco k_mpo k_mky k_mla k_mcn k_mct H.size mo_port mo_line mo_cycle mo_raised mo_idle mo_bad mo_glyph mo_fetched mo_rows mo_flags2_5 mo_enabled mo_a mo_x mo_y mo_s mo_flags mo_p mo_jammed mo_code (0:Int32) mo_low mo_high mo_old mo_latest_5 mo_cycles mo_stolen mo_interrupts mo_accesses_5 f_mra f_mrA f_mrc f_mrk f_mpi f_mwc f_mwo f_mco f_mpo f_mky f_mla f_mcn f_mct mo_x) (cwV 1 hts (ub_V kMX7_173 kYX7_judged kSX7_judged kIX7 kBX7_judged) rfl rfl rfl (by decide +kernel) ⟨Nat.le_of_ble_eq_true rfl, Nat.le_of_ble_eq_true rfl⟩) ⟨fun a U g mk q => by obtain ⟨q0, q1, qP, qK, qD⟩ := q; exact ⟨q0, q1, qP, va_K.moved (u := U) (U := U.calling g mk a) (Vm.Alike.refl U.vm) qK, qD⟩, va_recv hKc hPc (ci := 7) (q0 := 0) rfl rfl, fun U hU hW => ⟨rfl, by rw [hU], by rw [hU]; exact hPc, va_K.moved hW.alike hKc, hDc.weaken (fun _ _ _ _ => trivial)⟩⟩ rfl rfl hl.1 rfl (lv_room (Nat.le_of_ble_eq_true rfl)) dX7_plainStep_139 ⟨(Nat.zero_le _), (Nat.zero_le _)⟩) hS (fun q _ h => hFc q h) hFc (fun r_139 u_139 t H locs ht hvm hw hB hz1 hk1 hS => ?_)
                  obtain ⟨mo_flags_139, rfl⟩ : ∃ z, z = u_139 := ⟨_, rfl⟩
                  obtain ⟨hP1, hK1, hD1⟩ := hB
                  rw [ht] at hP1
                  obtain ⟨hP, hD⟩ := vb_bk2 (wc := (wwX7 q_mo q_mra q_mrA q_mrc q_mrk q_mpi q_mwc q_mwo q_mco q_mpo q_mky q_mla q_mcn q_mct k_mra k_mrA k_mrc k_mrk k_mpi k_mwc k_mwo k_mco k_mpo k_mky k_mla k_mcn k_mct mo_port mo_line mo_cycle mo_raised mo_idle mo_bad mo_glyph mo_fetched mo_rows mo_flags2_5 mo_enabled mo_a mo_x mo_y mo_s mo_flags mo_p mo_jammed mo_code (0:Int32) mo_low mo_high mo_old mo_latest_5 mo_cycles mo_stolen mo_interrupts mo_accesses_5 f_mra f_mrA f_mrc f_mrk f_mpi f_mwc f_mwo f_mco f_mpo f_mky f_mla f_mcn f_mct)) (ws' := (wwX7 q_mo q_mra q_mrA q_mrc q_mrk q_mpi q_mwc q_mwo q_mco q_mpo q_mky q_mla q_mcn q_mct k_mra k_mrA k_mrc k_mrk k_mpi k_mwc k_mwo k_mco k_mpo k_mky k_mla k_mcn k_mct mo_port mo_line mo_cycle mo_raised mo_idle mo_bad mo_glyph mo_fetched mo_rows mo_flags2_5 mo_enabled mo_a mo_x mo_y mo_s mo_flags_139 mo_p mo_jammed mo_code (0:Int32) mo_low mo_high mo_old mo_latest_5 mo_cycles mo_stolen mo_interrupts mo_accesses_5 f_mra f_mrA f_mrc f_mrk f_mpi f_mwc f_mwo f_mco f_mpo f_mky f_mla f_mcn f_mct)) hP hD hD1 [0, 1, 2, 3, 4, 5, 6, 7, 8, 9, 10, 11, 12, 13] [] rfl [q_mo, q_mra, q_mrA, q_mrc, q_mrk, q_mpi, q_mwc, q_mwo, q_mco, q_mpo, q_mky, q_mla, q_mcn, q_mct] rfl rfl ae_n rfl rfl hk1 hP1
                  rw [← hw] at hF
                  dsimp only at hF
                  refine va_put (D := (dC, dI)) (ci := 7) (v := .int r_139) (ty := .int) (C := RX7) (T := TX7) (N := 41) hx hb hts hiX7 tyX7 tyX7_ok nmX7 hown hK hP hD hS 0 rfl rfl 24 (by decide) (hts _ kFX7_136) (fun _ h9 => h9) rfl (by decide +kernel) rfl rfl (Nat.le_of_ble_eq_true rfl) dX7_plainStep_142 (fun H locs hP hD hS => ?_)
                  have hP : va_P (dC, dI) vwCl (wwX7 q_mo q_mra q_mrA q_mrc q_mrk q_mpi q_mwc q_mwo q_mco q_mpo q_mky q_mla q_mcn q_mct k_mra k_mrA k_mrc k_mrk k_mpi k_mwc k_mwo k_mco k_mpo k_mky k_mla k_mcn k_mct mo_port mo_line mo_cycle mo_raised mo_idle mo_bad mo_glyph mo_fetched mo_rows mo_flags2_5 mo_enabled r_139 mo_x mo_y mo_s mo_flags_139 mo_p mo_jammed mo_code (0:Int32) mo_low mo_high mo_old mo_latest_5 mo_cycles mo_stolen mo_interrupts mo_accesses_5 f_mra f_mrA f_mrc f_mrk f_mpi f_mwc f_mwo f_mco f_mpo f_mky f_mla f_mcn f_mct) H := hP
                  have hD : va_D A (wwX7 q_mo q_mra q_mrA q_mrc q_mrk q_mpi q_mwc q_mwo q_mco q_mpo q_mky q_mla q_mcn q_mct k_mra k_mrA k_mrc k_mrk k_mpi k_mwc k_mwo k_mco k_mpo k_mky k_mla k_mcn k_mct mo_port mo_line mo_cycle mo_raised mo_idle mo_bad mo_glyph mo_fetched mo_rows mo_flags2_5 mo_enabled r_139 mo_x mo_y mo_s mo_flags_139 mo_p mo_jammed mo_code (0:Int32) mo_low mo_high mo_old mo_latest_5 mo_cycles mo_stolen mo_interrupts mo_accesses_5 f_mra f_mrA f_mrc f_mrk f_mpi f_mwc f_mwo f_mco f_mpo f_mky f_mla f_mcn f_mct) := hD
                  refine lv_iload_n hx hb dX7_plainStep_145 rfl (lv_at hl 0 rfl) ?_
                  refine lv_sipush (v := 168) hx hb dX7_plainStep_146 (by decide) ?_
                  refine lv_icmp_ne (tgt := 164) hx hb dX7_plainStep_149 (by decide) (fun c_149 => ?_) (fun c_149 => by exact absurd c_149 (by rw [c_130]; decide))
                  refine lv_iload_n hx hb dX7_plainStep_164 rfl (lv_at hl 0 rfl) ?_
                  refine lv_sipush (v := 152) hx hb dX7_plainStep_165 (by decide) ?_
                  refine lv_icmp_ne (tgt := 183) hx hb dX7_plainStep_168 (by decide) (fun c_168 => ?_) (fun c_168 => by exact absurd c_168 (by rw [c_130]; decide))
                  refine lv_iload_n hx hb dX7_plainStep_183 rfl (lv_at hl 0 rfl) ?_
                  refine lv_sipush (v := 232) hx hb dX7_plainStep_184 (by decide) ?_
                  refine lv_icmp_ne (tgt := 208) hx hb dX7_plainStep_187 (by decide) (fun c_187 => ?_) (fun c_187 => by exact absurd c_187 (by rw [c_130]; decide))
                  refine lv_iload_n hx hb dX7_plainStep_208 rfl (lv_at hl 0 rfl) ?_
                  refine lv_sipush (v := 200) hx hb dX7_plainStep_209 (by decide) ?_
                  refine lv_icmp_ne (tgt := 233) hx hb dX7_plainStep_212 (by decide) (fun c_212 => ?_) (fun c_212 => by exact absurd c_212 (by rw [c_130]; decide))
                  refine lv_iload_n hx hb dX7_plainStep_233 rfl (lv_at hl 0 rfl) ?_
                  refine lv_sipush (v := 202) hx hb dX7_plainStep_234 (by decide) ?_
                  refine lv_icmp_ne (tgt := 260) hx hb dX7_plainStep_237 (by decide) (fun c_237 => ?_) (fun c_237 => by exact absurd c_237 (by rw [c_130]; decide))
                  refine lv_iload_n hx hb dX7_plainStep_260 rfl (lv_at hl 0 rfl) ?_
                  refine lv_sipush (v := 136) hx hb dX7_plainStep_261 (by decide) ?_
                  refine lv_icmp_ne (tgt := 287) hx hb dX7_plainStep_264 (by decide) (fun c_264 => ?_) (fun c_264 => by exact absurd c_264 (by rw [c_130]; decide))
                  refine lv_iload_n hx hb dX7_plainStep_287 rfl (lv_at hl 0 rfl) ?_
                  refine lv_bipush (v := 10) hx hb dX7_plainStep_288 (by decide) ?_
                  refine lv_icmp_ne (tgt := 310) hx hb dX7_plainStep_290 (by decide) (fun c_290 => ?_) (fun c_290 => by exact absurd c_290 (by rw [c_130]; decide))
                  refine lv_aload_n hx hb dX7_plainStep_310 rfl (lv_at hl 1 rfl) ?_
                  refine va_get (D := (dC, dI)) (ci := 7) (v := .int r_139) (C := RX7) (T := TX7) (N := 41) hx hb hts hiX7 hown hK hP 0 rfl rfl 24 (by decide) (hts _ kFX7_136) (fun _ h9 => h9) rfl dX7_plainStep_311 ?_
                  refine lv_iconst (v := 1) hx hb dX7_plainStep_314 (by decide) ?_
                  refine lv_iand hx hb dX7_plainStep_315 ?_
                  refine lv_iconst (v := 1) hx hb dX7_plainStep_316 (by decide) ?_
                  refine vj_join (j := 325) (rest := []) (Hyp := fun z H locs => z = (if (r_139 &&& (1:Int32)) = (1:Int32) then (1:Int32) else (0:Int32)) ∧ va_P (dC, dI) vwCl (wwX7 q_mo q_mra q_mrA q_mrc q_mrk q_mpi q_mwc q_mwo q_mco q_mpo q_mky q_mla q_mcn q_mct k_mra k_mrA k_mrc k_mrk k_mpi k_mwc k_mwo k_mco k_mpo k_mky k_mla k_mcn k_mct mo_port mo_line mo_cycle mo_raised mo_idle mo_bad mo_glyph mo_fetched mo_rows mo_flags2_5 mo_enabled r_139 mo_x mo_y mo_s mo_flags_139 mo_p mo_jammed mo_code (0:Int32) mo_low mo_high mo_old mo_latest_5 mo_cycles mo_stolen mo_interrupts mo_accesses_5 f_mra f_mrA f_mrc f_mrk f_mpi f_mwc f_mwo f_mco f_mpo f_mky f_mla f_mcn f_mct) H ∧ va_S A s.heap H locs) (fun z H locs hh => ?_) (fun J325 => ?_)
                  · obtain ⟨hz, hP, hS⟩ := hh
                    subst hz
                    refine lv_istore_n (lv' := [(2, .int (if (r_139 &&& (1:Int32)) = (1:Int32) then (1:Int32) else (0:Int32))), (1, .int mo_code), (0, .ref q_mo)]) hx hb dX7_plainStep_325 rfl hl (by decide) rfl (fun ls hl => ?_)
                    refine lv_iload_n hx hb dX7_plainStep_326 rfl (lv_at hl 1 rfl) ?_
                    refine lv_bipush (v := 10) hx hb dX7_plainStep_327 (by decide) ?_
                    refine lv_icmp_ne (tgt := 350) hx hb dX7_plainStep_329 (by decide) (fun c_329 => ?_) (fun c_329 => by exact absurd c_329 (by rw [c_130]; decide))
                    refine lv_iload_n hx hb dX7_plainStep_350 rfl (lv_at hl 1 rfl) ?_
                    refine lv_bipush (v := 74) hx hb dX7_plainStep_351 (by decide) ?_
                    refine lv_icmp_ne (tgt := 370) hx hb dX7_plainStep_353 (by decide) (fun c_353 => ?_) (fun c_353 => by exact absurd c_353 (by rw [c_130]; decide))
                    refine lv_iload_n hx hb dX7_plainStep_370 rfl (lv_at hl 1 rfl) ?_
                    refine lv_bipush (v := 10) hx hb dX7_plainStep_371 (by decide) ?_
                    refine lv_icmp_eq (tgt := 382) hx hb dX7_plainStep_373 (by decide) (fun c_373 => by exact absurd c_373 (by rw [c_130]; decide)) (fun c_373 => ?_)
                    refine lv_iload_n hx hb dX7_plainStep_376 rfl (lv_at hl 1 rfl) ?_
                    refine lv_bipush (v := 74) hx hb dX7_plainStep_377 (by decide) ?_
                    refine lv_icmp_ne (tgt := 388) hx hb dX7_plainStep_379 (by decide) (fun c_379 => ?_) (fun c_379 => by exact absurd c_379 (by rw [c_130]; decide))
                    exact W.vret hx hb hr (fun t ht hW => ⟨⟨(mo_flags2_5, r_139, mo_x, mo_y, mo_flags_139, (0:Int32), mo_latest_5, mo_accesses_5), rfl, hF.symm, by rw [ht]; exact hP, va_K.moved hW.alike hK, hD⟩, hS.F ht⟩) hS.2.2 dX7_plainStep_388
                  · refine lv_icmp_ne (tgt := 324) hx hb dX7_plainStep_317 (by decide) (fun c_317 => ?_) (fun c_317 => ?_)
                    · refine lv_iconst (v := 0) hx hb dX7_plainStep_324 (by decide) ?_
                      exact J325 _ _ _ ⟨by rw [if_neg c_317], hP, hS⟩
                    · refine lv_iconst (v := 1) hx hb dX7_plainStep_320 (by decide) ?_
                      refine lv_goto (tgt := 325) hx hb dX7_plainStep_321 (by decide) ?_
                      exact J325 _ _ _ ⟨by rw [if_pos c_317], hP, hS⟩
              · have hF := hF.trans (if_pos c_111)
                refine lv_aload_n hx hb dX7_plainStep_114 rfl (lv_at hl 1 rfl) ?_
                refine lv_aload_n hx hb dX7_plainStep_115 rfl (lv_at hl 1 rfl) ?_
                refine lv_aload_n hx hb dX7_plainStep_116 rfl (lv_at hl 1 rfl) ?_
                refine va_get (D := (dC, dI)) (ci := 7) (v := .int mo_a) (C := RX7) (T := TX7) (N := 41) hx hb hts hiX7 hown hK hP 0 rfl rfl 24 (by decide) (hts _ kFX7_136) (fun _ h9 => h9) rfl dX7_plainStep_117 ?_
                have hPc := hP.sub (ws' := (wwX7 q_mo q_mra q_mrA q_mrc q_mrk q_mpi q_mwc q_mwo q_mco q_mpo q_mky q_mla q_mcn q_mct k_mra k_mrA k_mrc k_mrk k_mpi k_mwc k_mwo k_mco k_mpo k_mky k_mla k_mcn k_mct mo_port mo_line mo_cycle mo_raised mo_idle mo_bad mo_glyph mo_fetched mo_rows mo_flags2_5 mo_enabled mo_a mo_x mo_y mo_s mo_flags mo_p mo_jammed mo_code (0:Int32) mo_low mo_high mo_old mo_latest_5 mo_cycles mo_stolen mo_interrupts mo_accesses_5 f_mra f_mrA f_mrc f_mrk f_mpi f_mwc f_mwo f_mco f_mpo f_mky f_mla f_mcn f_mct)) [0, 1, 2, 3, 4, 5, 6, 7, 8, 9, 10, 11, 12, 13] rfl
                have hDc := hD.sub (ws' := (wwX7 q_mo q_mra q_mrA q_mrc q_mrk q_mpi q_mwc q_mwo q_mco q_mpo q_mky q_mla q_mcn q_mct k_mra k_mrA k_mrc k_mrk k_mpi k_mwc k_mwo k_mco k_mpo k_mky k_mla k_mcn k_mct mo_port mo_line mo_cycle mo_raised mo_idle mo_bad mo_glyph mo_fetched mo_rows mo_flags2_5 mo_enabled mo_a mo_x mo_y mo_s mo_flags mo_p mo_jammed mo_code (0:Int32) mo_low mo_high mo_old mo_latest_5 mo_cycles mo_stolen mo_interrupts mo_accesses_5 f_mra f_mrA f_mrc f_mrk f_mpi f_mwc f_mwo f_mco f_mpo f_mky f_mla f_mcn f_mct)) [0, 1, 2, 3, 4, 5, 6, 7, 8, 9, 10, 11, 12, 13] (by decide) rfl
                have hKc := hK.sub (tys' := [(k_mra, .int), (k_mrA, .int), (k_mrc, .int), (k_mrk, .int), (k_mpi, .int), (k_mwc, .int), (k_mwo, .int), (k_mco, .int), (k_mpo, .int), (k_mky, .int), (k_mla, .int), (k_mcn, .int), (k_mct, .int)]) [0, 1, 2, 3, 4, 5, 6, 7, 8, 9, 10, 11, 12] rfl
                have hFc := va_free (wc := (wwX7 q_mo q_mra q_mrA q_mrc q_mrk q_mpi q_mwc q_mwo q_mco q_mpo q_mky q_mla q_mcn q_mct k_mra k_mrA k_mrc k_mrk k_mpi k_mwc k_mwo k_mco k_mpo k_mky k_mla k_mcn k_mct mo_port mo_line mo_cycle mo_raised mo_idle mo_bad mo_glyph mo_fetched mo_rows mo_flags2_5 mo_enabled mo_a mo_x mo_y mo_s mo_flags mo_p mo_jammed mo_code (0:Int32) mo_low mo_high mo_old mo_latest_5 mo_cycles mo_stolen mo_interrupts mo_accesses_5 f_mra f_mrA f_mrc f_mrk f_mpi f_mwc f_mwo f_mco f_mpo f_mky f_mla f_mcn f_mct)) hD hS hA [0, 1, 2, 3, 4, 5, 6, 7, 8, 9, 10, 11, 12, 13] rfl
                refine va_calli (va_runV (As := [.int mo_a]) (rest := [.ref q_mo]) ⟨hx, hb, hml, hown, hts⟩ (mX7_judged l dC dI q_mo q_mra q_mrA q_mrc q_mrk q_mpi q_mwc q_mwo q_mco q_mpo q_mky q_mla q_mcn q_mct k_mra k_mrA k_mrc k_mrk k_mpi k_mwc k_mwo k_mco k_mpo k_mky k_mla k_mcn k_mct H.size mo_port mo_line mo_cycle mo_raised mo_idle mo_bad mo_glyph mo_fetched mo_rows mo_flags2_5 mo_enabled mo_a mo_x mo_y mo_s mo_flags mo_p mo_jammed mo_code (0:Int32) mo_low mo_high mo_old mo_latest_5 mo_cycles mo_stolen mo_interrupts mo_accesses_5 f_mra f_mrA f_mrc f_mrk f_mpi f_mwc f_mwo f_mco f_mpo f_mky f_mla f_mcn f_mct mo_a) (cwV 1 hts (ub_V kMX7_173 kYX7_judged kSX7_judged kIX7 kBX7_judged) rfl rfl rfl (by decide +kernel) ⟨Nat.le_of_ble_eq_true rfl, Nat.le_of_ble_eq_true rfl⟩) ⟨fun a U g mk q => by obtain ⟨q0, q1, qP, qK, qD⟩ := q; exact ⟨q0, q1, qP, va_K.moved (u := U) (U := U.calling g mk a) (Vm.Alike.refl U.vm) qK, qD⟩, va_recv hKc hPc (ci := 7) (q0 := 0) rfl rfl, fun U hU hW => ⟨rfl, by rw [hU], by rw [hU]; exact hPc, va_K.moved hW.alike hKc, hDc.weaken (fun _ _ _ _ => trivial)⟩⟩ rfl rfl hl.1 rfl (lv_room (Nat.le_of_ble_eq_true rfl)) dX7_plainStep_120 ⟨(Nat.zero_le _), (Nat.zero_le _)⟩) hS (fun q _ h => hFc q h) hFc (fun r_120 u_120 t H locs ht hvm hw hB hz1 hk1 hS => ?_)
                obtain ⟨mo_flags_120, rfl⟩ : ∃ z, z = u_120 := ⟨_, rfl⟩
                obtain ⟨hP1, hK1, hD1⟩ := hB
                rw [ht] at hP1
                obtain ⟨hP, hD⟩ := vb_bk2 (wc := (wwX7 q_mo q_mra q_mrA q_mrc q_mrk q_mpi q_mwc q_mwo q_mco q_mpo q_mky q_mla q_mcn q_mct k_mra k_mrA k_mrc k_mrk k_mpi k_mwc k_mwo k_mco k_mpo k_mky k_mla k_mcn k_mct mo_port mo_line mo_cycle mo_raised mo_idle mo_bad mo_glyph mo_fetched mo_rows mo_flags2_5 mo_enabled mo_a mo_x mo_y mo_s mo_flags mo_p mo_jammed mo_code (0:Int32) mo_low mo_high mo_old mo_latest_5 mo_cycles mo_stolen mo_interrupts mo_accesses_5 f_mra f_mrA f_mrc f_mrk f_mpi f_mwc f_mwo f_mco f_mpo f_mky f_mla f_mcn f_mct)) (ws' := (wwX7 q_mo q_mra q_mrA q_mrc q_mrk q_mpi q_mwc q_mwo q_mco q_mpo q_mky q_mla q_mcn q_mct k_mra k_mrA k_mrc k_mrk k_mpi k_mwc k_mwo k_mco k_mpo k_mky k_mla k_mcn k_mct mo_port mo_line mo_cycle mo_raised mo_idle mo_bad mo_glyph mo_fetched mo_rows mo_flags2_5 mo_enabled mo_a mo_x mo_y mo_s mo_flags_120 mo_p mo_jammed mo_code (0:Int32) mo_low mo_high mo_old mo_latest_5 mo_cycles mo_stolen mo_interrupts mo_accesses_5 f_mra f_mrA f_mrc f_mrk f_mpi f_mwc f_mwo f_mco f_mpo f_mky f_mla f_mcn f_mct)) hP hD hD1 [0, 1, 2, 3, 4, 5, 6, 7, 8, 9, 10, 11, 12, 13] [] rfl [q_mo, q_mra, q_mrA, q_mrc, q_mrk, q_mpi, q_mwc, q_mwo, q_mco, q_mpo, q_mky, q_mla, q_mcn, q_mct] rfl rfl ae_n rfl rfl hk1 hP1
                rw [← hw] at hF
                dsimp only at hF
                refine va_put (D := (dC, dI)) (ci := 7) (v := .int r_120) (ty := .int) (C := RX7) (T := TX7) (N := 41) hx hb hts hiX7 tyX7 tyX7_ok nmX7 hown hK hP hD hS 0 rfl rfl 25 (by decide) (hts _ kFX7_139) (fun _ h9 => h9) rfl (by decide +kernel) rfl rfl (Nat.le_of_ble_eq_true rfl) dX7_plainStep_123 (fun H locs hP hD hS => ?_)
                have hP : va_P (dC, dI) vwCl (wwX7 q_mo q_mra q_mrA q_mrc q_mrk q_mpi q_mwc q_mwo q_mco q_mpo q_mky q_mla q_mcn q_mct k_mra k_mrA k_mrc k_mrk k_mpi k_mwc k_mwo k_mco k_mpo k_mky k_mla k_mcn k_mct mo_port mo_line mo_cycle mo_raised mo_idle mo_bad mo_glyph mo_fetched mo_rows mo_flags2_5 mo_enabled mo_a r_120 mo_y mo_s mo_flags_120 mo_p mo_jammed mo_code (0:Int32) mo_low mo_high mo_old mo_latest_5 mo_cycles mo_stolen mo_interrupts mo_accesses_5 f_mra f_mrA f_mrc f_mrk f_mpi f_mwc f_mwo f_mco f_mpo f_mky f_mla f_mcn f_mct) H := hP
                have hD : va_D A (wwX7 q_mo q_mra q_mrA q_mrc q_mrk q_mpi q_mwc q_mwo q_mco q_mpo q_mky q_mla q_mcn q_mct k_mra k_mrA k_mrc k_mrk k_mpi k_mwc k_mwo k_mco k_mpo k_mky k_mla k_mcn k_mct mo_port mo_line mo_cycle mo_raised mo_idle mo_bad mo_glyph mo_fetched mo_rows mo_flags2_5 mo_enabled mo_a r_120 mo_y mo_s mo_flags_120 mo_p mo_jammed mo_code (0:Int32) mo_low mo_high mo_old mo_latest_5 mo_cycles mo_stolen mo_interrupts mo_accesses_5 f_mra f_mrA f_mrc f_mrk f_mpi f_mwc f_mwo f_mco f_mpo f_mky f_mla f_mcn f_mct) := hD
                refine lv_iload_n hx hb dX7_plainStep_126 rfl (lv_at hl 0 rfl) ?_
                refine lv_sipush (v := 138) hx hb dX7_plainStep_127 (by decide) ?_
                refine lv_icmp_ne (tgt := 145) hx hb dX7_plainStep_130 (by decide) (fun c_130 => ?_) (fun c_130 => by exact absurd c_130 (by rw [c_111]; decide))
                refine lv_iload_n hx hb dX7_plainStep_145 rfl (lv_at hl 0 rfl) ?_
                refine lv_sipush (v := 168) hx hb dX7_plainStep_146 (by decide) ?_
                refine lv_icmp_ne (tgt := 164) hx hb dX7_plainStep_149 (by decide) (fun c_149 => ?_) (fun c_149 => by exact absurd c_149 (by rw [c_111]; decide))
                refine lv_iload_n hx hb dX7_plainStep_164 rfl (lv_at hl 0 rfl) ?_
                refine lv_sipush (v := 152) hx hb dX7_plainStep_165 (by decide) ?_
                refine lv_icmp_ne (tgt := 183) hx hb dX7_plainStep_168 (by decide) (fun c_168 => ?_) (fun c_168 => by exact absurd c_168 (by rw [c_111]; decide))
                refine lv_iload_n hx hb dX7_plainStep_183 rfl (lv_at hl 0 rfl) ?_
                refine lv_sipush (v := 232) hx hb dX7_plainStep_184 (by decide) ?_
                refine lv_icmp_ne (tgt := 208) hx hb dX7_plainStep_187 (by decide) (fun c_187 => ?_) (fun c_187 => by exact absurd c_187 (by rw [c_111]; decide))
                refine lv_iload_n hx hb dX7_plainStep_208 rfl (lv_at hl 0 rfl) ?_
                refine lv_sipush (v := 200) hx hb dX7_plainStep_209 (by decide) ?_
                refine lv_icmp_ne (tgt := 233) hx hb dX7_plainStep_212 (by decide) (fun c_212 => ?_) (fun c_212 => by exact absurd c_212 (by rw [c_111]; decide))
                refine lv_iload_n hx hb dX7_plainStep_233 rfl (lv_at hl 0 rfl) ?_
                refine lv_sipush (v := 202) hx hb dX7_plainStep_234 (by decide) ?_
                refine lv_icmp_ne (tgt := 260) hx hb dX7_plainStep_237 (by decide) (fun c_237 => ?_) (fun c_237 => by exact absurd c_237 (by rw [c_111]; decide))
                refine lv_iload_n hx hb dX7_plainStep_260 rfl (lv_at hl 0 rfl) ?_
                refine lv_sipush (v := 136) hx hb dX7_plainStep_261 (by decide) ?_
                refine lv_icmp_ne (tgt := 287) hx hb dX7_plainStep_264 (by decide) (fun c_264 => ?_) (fun c_264 => by exact absurd c_264 (by rw [c_111]; decide))
                refine lv_iload_n hx hb dX7_plainStep_287 rfl (lv_at hl 0 rfl) ?_
                refine lv_bipush (v := 10) hx hb dX7_plainStep_288 (by decide) ?_
                refine lv_icmp_ne (tgt := 310) hx hb dX7_plainStep_290 (by decide) (fun c_290 => ?_) (fun c_290 => by exact absurd c_290 (by rw [c_111]; decide))
                refine lv_aload_n hx hb dX7_plainStep_310 rfl (lv_at hl 1 rfl) ?_
                refine va_get (D := (dC, dI)) (ci := 7) (v := .int mo_a) (C := RX7) (T := TX7) (N := 41) hx hb hts hiX7 hown hK hP 0 rfl rfl 24 (by decide) (hts _ kFX7_136) (fun _ h9 => h9) rfl dX7_plainStep_311 ?_
                refine lv_iconst (v := 1) hx hb dX7_plainStep_314 (by decide) ?_
                refine lv_iand hx hb dX7_plainStep_315 ?_
                refine lv_iconst (v := 1) hx hb dX7_plainStep_316 (by decide) ?_
                refine vj_join (j := 325) (rest := []) (Hyp := fun z H locs => z = (if (mo_a &&& (1:Int32)) = (1:Int32) then (1:Int32) else (0:Int32)) ∧ va_P (dC, dI) vwCl (wwX7 q_mo q_mra q_mrA q_mrc q_mrk q_mpi q_mwc q_mwo q_mco q_mpo q_mky q_mla q_mcn q_mct k_mra k_mrA k_mrc k_mrk k_mpi k_mwc k_mwo k_mco k_mpo k_mky k_mla k_mcn k_mct mo_port mo_line mo_cycle mo_raised mo_idle mo_bad mo_glyph mo_fetched mo_rows mo_flags2_5 mo_enabled mo_a r_120 mo_y mo_s mo_flags_120 mo_p mo_jammed mo_code (0:Int32) mo_low mo_high mo_old mo_latest_5 mo_cycles mo_stolen mo_interrupts mo_accesses_5 f_mra f_mrA f_mrc f_mrk f_mpi f_mwc f_mwo f_mco f_mpo f_mky f_mla f_mcn f_mct) H ∧ va_S A s.heap H locs) (fun z H locs hh => ?_) (fun J325 => ?_)
                · obtain ⟨hz, hP, hS⟩ := hh
                  subst hz
                  refine lv_istore_n (lv' := [(2, .int (if (mo_a &&& (1:Int32)) = (1:Int32) then (1:Int32) else (0:Int32))), (1, .int mo_code), (0, .ref q_mo)]) hx hb dX7_plainStep_325 rfl hl (by decide) rfl (fun ls hl => ?_)
                  refine lv_iload_n hx hb dX7_plainStep_326 rfl (lv_at hl 1 rfl) ?_
                  refine lv_bipush (v := 10) hx hb dX7_plainStep_327 (by decide) ?_
                  refine lv_icmp_ne (tgt := 350) hx hb dX7_plainStep_329 (by decide) (fun c_329 => ?_) (fun c_329 => by exact absurd c_329 (by rw [c_111]; decide))
                  refine lv_iload_n hx hb dX7_plainStep_350 rfl (lv_at hl 1 rfl) ?_
                  refine lv_bipush (v := 74) hx hb dX7_plainStep_351 (by decide) ?_
                  refine lv_icmp_ne (tgt := 370) hx hb dX7_plainStep_353 (by decide) (fun c_353 => ?_) (fun c_353 => by exact absurd c_353 (by rw [c_111]; decide))
                  refine lv_iload_n hx hb dX7_plainStep_370 rfl (lv_at hl 1 rfl) ?_
                  refine lv_bipush (v := 10) hx hb dX7_plainStep_371 (by decide) ?_
                  refine lv_icmp_eq (tgt := 382) hx hb dX7_plainStep_373 (by decide) (fun c_373 => by exact absurd c_373 (by rw [c_111]; decide)) (fun c_373 => ?_)
                  refine lv_iload_n hx hb dX7_plainStep_376 rfl (lv_at hl 1 rfl) ?_
                  refine lv_bipush (v := 74) hx hb dX7_plainStep_377 (by decide) ?_
                  refine lv_icmp_ne (tgt := 388) hx hb dX7_plainStep_379 (by decide) (fun c_379 => ?_) (fun c_379 => by exact absurd c_379 (by rw [c_111]; decide))
                  exact W.vret hx hb hr (fun t ht hW => ⟨⟨(mo_flags2_5, mo_a, r_120, mo_y, mo_flags_120, (0:Int32), mo_latest_5, mo_accesses_5), rfl, hF.symm, by rw [ht]; exact hP, va_K.moved hW.alike hK, hD⟩, hS.F ht⟩) hS.2.2 dX7_plainStep_388
                · refine lv_icmp_ne (tgt := 324) hx hb dX7_plainStep_317 (by decide) (fun c_317 => ?_) (fun c_317 => ?_)
                  · refine lv_iconst (v := 0) hx hb dX7_plainStep_324 (by decide) ?_
                    exact J325 _ _ _ ⟨by rw [if_neg c_317], hP, hS⟩
                  · refine lv_iconst (v := 1) hx hb dX7_plainStep_320 (by decide) ?_
                    refine lv_goto (tgt := 325) hx hb dX7_plainStep_321 (by decide) ?_
                    exact J325 _ _ _ ⟨by rw [if_pos c_317], hP, hS⟩
            · have hF := hF.trans (if_pos c_86)
              refine lv_aload_n hx hb dX7_plainStep_89 rfl (lv_at hl 1 rfl) ?_
              refine lv_bipush (v := 8) hx hb dX7_plainStep_90 (by decide) ?_
              refine lv_iload_n hx hb dX7_plainStep_92 rfl (lv_at hl 0 rfl) ?_
              refine lv_sipush (v := 248) hx hb dX7_plainStep_93 (by decide) ?_
              refine lv_icmp_ne (tgt := 103) hx hb dX7_plainStep_96 (by decide) (fun c_96 => by exact absurd c_86 c_96) (fun c_96 => ?_)
              refine lv_iconst (v := 1) hx hb dX7_plainStep_99 (by decide) ?_
              refine lv_goto (tgt := 104) hx hb dX7_plainStep_100 (by decide) ?_
              have hPc := hP.sub (ws' := (wwX7 q_mo q_mra q_mrA q_mrc q_mrk q_mpi q_mwc q_mwo q_mco q_mpo q_mky q_mla q_mcn q_mct k_mra k_mrA k_mrc k_mrk k_mpi k_mwc k_mwo k_mco k_mpo k_mky k_mla k_mcn k_mct mo_port mo_line mo_cycle mo_raised mo_idle mo_bad mo_glyph mo_fetched mo_rows mo_flags2_5 mo_enabled mo_a mo_x mo_y mo_s mo_flags mo_p mo_jammed mo_code (0:Int32) mo_low mo_high mo_old mo_latest_5 mo_cycles mo_stolen mo_interrupts mo_accesses_5 f_mra f_mrA f_mrc f_mrk f_mpi f_mwc f_mwo f_mco f_mpo f_mky f_mla f_mcn f_mct)) [0, 1, 2, 3, 4, 5, 6, 7, 8, 9, 10, 11, 12, 13] rfl
              have hDc := hD.sub (ws' := (wwX7 q_mo q_mra q_mrA q_mrc q_mrk q_mpi q_mwc q_mwo q_mco q_mpo q_mky q_mla q_mcn q_mct k_mra k_mrA k_mrc k_mrk k_mpi k_mwc k_mwo k_mco k_mpo k_mky k_mla k_mcn k_mct mo_port mo_line mo_cycle mo_raised mo_idle mo_bad mo_glyph mo_fetched mo_rows mo_flags2_5 mo_enabled mo_a mo_x mo_y mo_s mo_flags mo_p mo_jammed mo_code (0:Int32) mo_low mo_high mo_old mo_latest_5 mo_cycles mo_stolen mo_interrupts mo_accesses_5 f_mra f_mrA f_mrc f_mrk f_mpi f_mwc f_mwo f_mco f_mpo f_mky f_mla f_mcn f_mct)) [0, 1, 2, 3, 4, 5, 6, 7, 8, 9, 10, 11, 12, 13] (by decide) rfl
              have hKc := hK.sub (tys' := [(k_mra, .int), (k_mrA, .int), (k_mrc, .int), (k_mrk, .int), (k_mpi, .int), (k_mwc, .int), (k_mwo, .int), (k_mco, .int), (k_mpo, .int), (k_mky, .int), (k_mla, .int), (k_mcn, .int), (k_mct, .int)]) [0, 1, 2, 3, 4, 5, 6, 7, 8, 9, 10, 11, 12] rfl
              have hFc := va_free (wc := (wwX7 q_mo q_mra q_mrA q_mrc q_mrk q_mpi q_mwc q_mwo q_mco q_mpo q_mky q_mla q_mcn q_mct k_mra k_mrA k_mrc k_mrk k_mpi k_mwc k_mwo k_mco k_mpo k_mky k_mla k_mcn k_mct mo_port mo_line mo_cycle mo_raised mo_idle mo_bad mo_glyph mo_fetched mo_rows mo_flags2_5 mo_enabled mo_a mo_x mo_y mo_s mo_flags mo_p mo_jammed mo_code (0:Int32) mo_low mo_high mo_old mo_latest_5 mo_cycles mo_stolen mo_interrupts mo_accesses_5 f_mra f_mrA f_mrc f_mrk f_mpi f_mwc f_mwo f_mco f_mpo f_mky f_mla f_mcn f_mct)) hD hS hA [0, 1, 2, 3, 4, 5, 6, 7, 8, 9, 10, 11, 12, 13] rfl
              refine va_callv (va_runV (As := [.int (8:Int32), .int (1:Int32)]) (rest := []) ⟨hx, hb, hml, hown, hts⟩ (mX7_put l dC dI q_mo q_mra q_mrA q_mrc q_mrk q_mpi q_mwc q_mwo q_mco q_mpo q_mky q_mla q_mcn q_mct k_mra k_mrA k_mrc k_mrk k_mpi k_mwc k_mwo k_mco k_mpo k_mky k_mla k_mcn k_mct H.size mo_port mo_line mo_cycle mo_raised mo_idle mo_bad mo_glyph mo_fetched mo_rows mo_flags2_5 mo_enabled mo_a mo_x mo_y mo_s mo_flags mo_p mo_jammed mo_code (0:Int32) mo_low mo_high mo_old mo_latest_5 mo_cycles mo_stolen mo_interrupts mo_accesses_5 f_mra f_mrA f_mrc f_mrk f_mpi f_mwc f_mwo f_mco f_mpo f_mky f_mla f_mcn f_mct (8:Int32) (1:Int32)) (cwV 2 hts (ub_V kMX7_157 kYX7_put kSX7_put kIX7 kBX7_put) rfl rfl rfl (by decide +kernel) ⟨Nat.le_of_ble_eq_true rfl, Nat.le_of_ble_eq_true rfl⟩) ⟨fun a U g mk q => by obtain ⟨q0, q1, qP, qK, qD⟩ := q; exact ⟨q0, q1, qP, va_K.moved (u := U) (U := U.calling g mk a) (Vm.Alike.refl U.vm) qK, qD⟩, va_recv hKc hPc (ci := 7) (q0 := 0) rfl rfl, fun U hU hW => ⟨rfl, by rw [hU], by rw [hU]; exact hPc, va_K.moved hW.alike hKc, hDc.weaken (fun _ _ _ _ => trivial)⟩⟩ rfl rfl hl.1 rfl (lv_room (Nat.le_of_ble_eq_true rfl)) dX7_plainStep_104 ⟨(Nat.zero_le _), (Nat.zero_le _)⟩) hS (fun q _ h => hFc q h) hFc (fun u_104 t H locs ht hvm hw hB hz1 hk1 hS => ?_)
              obtain ⟨hP1, hK1, hD1⟩ := hB
              rw [ht] at hP1
              subst hw
              obtain ⟨hP, hD⟩ := vb_bk2 (wc := (wwX7 q_mo q_mra q_mrA q_mrc q_mrk q_mpi q_mwc q_mwo q_mco q_mpo q_mky q_mla q_mcn q_mct k_mra k_mrA k_mrc k_mrk k_mpi k_mwc k_mwo k_mco k_mpo k_mky k_mla k_mcn k_mct mo_port mo_line mo_cycle mo_raised mo_idle mo_bad mo_glyph mo_fetched mo_rows mo_flags2_5 mo_enabled mo_a mo_x mo_y mo_s mo_flags mo_p mo_jammed mo_code (0:Int32) mo_low mo_high mo_old mo_latest_5 mo_cycles mo_stolen mo_interrupts mo_accesses_5 f_mra f_mrA f_mrc f_mrk f_mpi f_mwc f_mwo f_mco f_mpo f_mky f_mla f_mcn f_mct)) (ws' := (wwX7 q_mo q_mra q_mrA q_mrc q_mrk q_mpi q_mwc q_mwo q_mco q_mpo q_mky q_mla q_mcn q_mct k_mra k_mrA k_mrc k_mrk k_mpi k_mwc k_mwo k_mco k_mpo k_mky k_mla k_mcn k_mct mo_port mo_line mo_cycle mo_raised mo_idle mo_bad mo_glyph mo_fetched mo_rows mo_flags2_5 mo_enabled mo_a mo_x mo_y mo_s (fX7_put (8:Int32) (1:Int32) mo_flags) mo_p mo_jammed mo_code (0:Int32) mo_low mo_high mo_old mo_latest_5 mo_cycles mo_stolen mo_interrupts mo_accesses_5 f_mra f_mrA f_mrc f_mrk f_mpi f_mwc f_mwo f_mco f_mpo f_mky f_mla f_mcn f_mct)) hP hD hD1 [0, 1, 2, 3, 4, 5, 6, 7, 8, 9, 10, 11, 12, 13] [] rfl [q_mo, q_mra, q_mrA, q_mrc, q_mrk, q_mpi, q_mwc, q_mwo, q_mco, q_mpo, q_mky, q_mla, q_mcn, q_mct] rfl rfl ae_n rfl rfl hk1 hP1
              refine lv_iload_n hx hb dX7_plainStep_107 rfl (lv_at hl 0 rfl) ?_
              refine lv_sipush (v := 170) hx hb dX7_plainStep_108 (by decide) ?_
              refine lv_icmp_ne (tgt := 126) hx hb dX7_plainStep_111 (by decide) (fun c_111 => ?_) (fun c_111 => by exact absurd c_111 (by rw [c_86]; decide))
              refine lv_iload_n hx hb dX7_plainStep_126 rfl (lv_at hl 0 rfl) ?_
              refine lv_sipush (v := 138) hx hb dX7_plainStep_127 (by decide) ?_
              refine lv_icmp_ne (tgt := 145) hx hb dX7_plainStep_130 (by decide) (fun c_130 => ?_) (fun c_130 => by exact absurd c_130 (by rw [c_86]; decide))
              refine lv_iload_n hx hb dX7_plainStep_145 rfl (lv_at hl 0 rfl) ?_
              refine lv_sipush (v := 168) hx hb dX7_plainStep_146 (by decide) ?_
              refine lv_icmp_ne (tgt := 164) hx hb dX7_plainStep_149 (by decide) (fun c_149 => ?_) (fun c_149 => by exact absurd c_149 (by rw [c_86]; decide))
              refine lv_iload_n hx hb dX7_plainStep_164 rfl (lv_at hl 0 rfl) ?_
              refine lv_sipush (v := 152) hx hb dX7_plainStep_165 (by decide) ?_
              refine lv_icmp_ne (tgt := 183) hx hb dX7_plainStep_168 (by decide) (fun c_168 => ?_) (fun c_168 => by exact absurd c_168 (by rw [c_86]; decide))
              refine lv_iload_n hx hb dX7_plainStep_183 rfl (lv_at hl 0 rfl) ?_
              refine lv_sipush (v := 232) hx hb dX7_plainStep_184 (by decide) ?_
              refine lv_icmp_ne (tgt := 208) hx hb dX7_plainStep_187 (by decide) (fun c_187 => ?_) (fun c_187 => by exact absurd c_187 (by rw [c_86]; decide))
              refine lv_iload_n hx hb dX7_plainStep_208 rfl (lv_at hl 0 rfl) ?_
              refine lv_sipush (v := 200) hx hb dX7_plainStep_209 (by decide) ?_
              refine lv_icmp_ne (tgt := 233) hx hb dX7_plainStep_212 (by decide) (fun c_212 => ?_) (fun c_212 => by exact absurd c_212 (by rw [c_86]; decide))
              refine lv_iload_n hx hb dX7_plainStep_233 rfl (lv_at hl 0 rfl) ?_
              refine lv_sipush (v := 202) hx hb dX7_plainStep_234 (by decide) ?_
              refine lv_icmp_ne (tgt := 260) hx hb dX7_plainStep_237 (by decide) (fun c_237 => ?_) (fun c_237 => by exact absurd c_237 (by rw [c_86]; decide))
              refine lv_iload_n hx hb dX7_plainStep_260 rfl (lv_at hl 0 rfl) ?_
              refine lv_sipush (v := 136) hx hb dX7_plainStep_261 (by decide) ?_
              refine lv_icmp_ne (tgt := 287) hx hb dX7_plainStep_264 (by decide) (fun c_264 => ?_) (fun c_264 => by exact absurd c_264 (by rw [c_86]; decide))
              refine lv_iload_n hx hb dX7_plainStep_287 rfl (lv_at hl 0 rfl) ?_
              refine lv_bipush (v := 10) hx hb dX7_plainStep_288 (by decide) ?_
              refine lv_icmp_ne (tgt := 310) hx hb dX7_plainStep_290 (by decide) (fun c_290 => ?_) (fun c_290 => by exact absurd c_290 (by rw [c_86]; decide))
              refine lv_aload_n hx hb dX7_plainStep_310 rfl (lv_at hl 1 rfl) ?_
              refine va_get (D := (dC, dI)) (ci := 7) (v := .int mo_a) (C := RX7) (T := TX7) (N := 41) hx hb hts hiX7 hown hK hP 0 rfl rfl 24 (by decide) (hts _ kFX7_136) (fun _ h9 => h9) rfl dX7_plainStep_311 ?_
              refine lv_iconst (v := 1) hx hb dX7_plainStep_314 (by decide) ?_
              refine lv_iand hx hb dX7_plainStep_315 ?_
              refine lv_iconst (v := 1) hx hb dX7_plainStep_316 (by decide) ?_
              refine vj_join (j := 325) (rest := []) (Hyp := fun z H locs => z = (if (mo_a &&& (1:Int32)) = (1:Int32) then (1:Int32) else (0:Int32)) ∧ va_P (dC, dI) vwCl (wwX7 q_mo q_mra q_mrA q_mrc q_mrk q_mpi q_mwc q_mwo q_mco q_mpo q_mky q_mla q_mcn q_mct k_mra k_mrA k_mrc k_mrk k_mpi k_mwc k_mwo k_mco k_mpo k_mky k_mla k_mcn k_mct mo_port mo_line mo_cycle mo_raised mo_idle mo_bad mo_glyph mo_fetched mo_rows mo_flags2_5 mo_enabled mo_a mo_x mo_y mo_s (fX7_put (8:Int32) (1:Int32) mo_flags) mo_p mo_jammed mo_code (0:Int32) mo_low mo_high mo_old mo_latest_5 mo_cycles mo_stolen mo_interrupts mo_accesses_5 f_mra f_mrA f_mrc f_mrk f_mpi f_mwc f_mwo f_mco f_mpo f_mky f_mla f_mcn f_mct) H ∧ va_S A s.heap H locs) (fun z H locs hh => ?_) (fun J325 => ?_)
              · obtain ⟨hz, hP, hS⟩ := hh
                subst hz
                refine lv_istore_n (lv' := [(2, .int (if (mo_a &&& (1:Int32)) = (1:Int32) then (1:Int32) else (0:Int32))), (1, .int mo_code), (0, .ref q_mo)]) hx hb dX7_plainStep_325 rfl hl (by decide) rfl (fun ls hl => ?_)
                refine lv_iload_n hx hb dX7_plainStep_326 rfl (lv_at hl 1 rfl) ?_
                refine lv_bipush (v := 10) hx hb dX7_plainStep_327 (by decide) ?_
                refine lv_icmp_ne (tgt := 350) hx hb dX7_plainStep_329 (by decide) (fun c_329 => ?_) (fun c_329 => by exact absurd c_329 (by rw [c_86]; decide))
                refine lv_iload_n hx hb dX7_plainStep_350 rfl (lv_at hl 1 rfl) ?_
                refine lv_bipush (v := 74) hx hb dX7_plainStep_351 (by decide) ?_
                refine lv_icmp_ne (tgt := 370) hx hb dX7_plainStep_353 (by decide) (fun c_353 => ?_) (fun c_353 => by exact absurd c_353 (by rw [c_86]; decide))
                refine lv_iload_n hx hb dX7_plainStep_370 rfl (lv_at hl 1 rfl) ?_
                refine lv_bipush (v := 10) hx hb dX7_plainStep_371 (by decide) ?_
                refine lv_icmp_eq (tgt := 382) hx hb dX7_plainStep_373 (by decide) (fun c_373 => by exact absurd c_373 (by rw [c_86]; decide)) (fun c_373 => ?_)
                refine lv_iload_n hx hb dX7_plainStep_376 rfl (lv_at hl 1 rfl) ?_
                refine lv_bipush (v := 74) hx hb dX7_plainStep_377 (by decide) ?_
                refine lv_icmp_ne (tgt := 388) hx hb dX7_plainStep_379 (by decide) (fun c_379 => ?_) (fun c_379 => by exact absurd c_379 (by rw [c_86]; decide))
                exact W.vret hx hb hr (fun t ht hW => ⟨⟨(mo_flags2_5, mo_a, mo_x, mo_y, (fX7_put (8:Int32) (1:Int32) mo_flags), (0:Int32), mo_latest_5, mo_accesses_5), rfl, hF.symm, by rw [ht]; exact hP, va_K.moved hW.alike hK, hD⟩, hS.F ht⟩) hS.2.2 dX7_plainStep_388
              · refine lv_icmp_ne (tgt := 324) hx hb dX7_plainStep_317 (by decide) (fun c_317 => ?_) (fun c_317 => ?_)
                · refine lv_iconst (v := 0) hx hb dX7_plainStep_324 (by decide) ?_
                  exact J325 _ _ _ ⟨by rw [if_neg c_317], hP, hS⟩
                · refine lv_iconst (v := 1) hx hb dX7_plainStep_320 (by decide) ?_
                  refine lv_goto (tgt := 325) hx hb dX7_plainStep_321 (by decide) ?_
                  exact J325 _ _ _ ⟨by rw [if_pos c_317], hP, hS⟩
        · have hF := hF.trans (if_pos c_56)
          refine lv_aload_n hx hb dX7_plainStep_59 rfl (lv_at hl 1 rfl) ?_
          refine lv_iconst (v := 4) hx hb dX7_plainStep_60 (by decide) ?_
          refine lv_iload_n hx hb dX7_plainStep_61 rfl (lv_at hl 0 rfl) ?_
          refine lv_bipush (v := 120) hx hb dX7_plainStep_62 (by decide) ?_
          refine lv_icmp_ne (tgt := 71) hx hb dX7_plainStep_64 (by decide) (fun c_64 => by exact absurd c_56 c_64) (fun c_64 => ?_)
          refine lv_iconst (v := 1) hx hb dX7_plainStep_67 (by decide) ?_
          refine lv_goto (tgt := 72) hx hb dX7_plainStep_68 (by decide) ?_
          have hPc := hP.sub (ws' := (wwX7 q_mo q_mra q_mrA q_mrc q_mrk q_mpi q_mwc q_mwo q_mco q_mpo q_mky q_mla q_mcn q_mct k_mra k_mrA k_mrc k_mrk k_mpi k_mwc k_mwo k_mco k_mpo k_mky k_mla k_mcn k_mct mo_port mo_line mo_cycle mo_raised mo_idle mo_bad mo_glyph mo_fetched mo_rows mo_flags2_5 mo_enabled mo_a mo_x mo_y mo_s mo_flags mo_p mo_jammed mo_code (0:Int32) mo_low mo_high mo_old mo_latest_5 mo_cycles mo_stolen mo_interrupts mo_accesses_5 f_mra f_mrA f_mrc f_mrk f_mpi f_mwc f_mwo f_mco f_mpo f_mky f_mla f_mcn f_mct)) [0, 1, 2, 3, 4, 5, 6, 7, 8, 9, 10, 11, 12, 13] rfl
          have hDc := hD.sub (ws' := (wwX7 q_mo q_mra q_mrA q_mrc q_mrk q_mpi q_mwc q_mwo q_mco q_mpo q_mky q_mla q_mcn q_mct k_mra k_mrA k_mrc k_mrk k_mpi k_mwc k_mwo k_mco k_mpo k_mky k_mla k_mcn k_mct mo_port mo_line mo_cycle mo_raised mo_idle mo_bad mo_glyph mo_fetched mo_rows mo_flags2_5 mo_enabled mo_a mo_x mo_y mo_s mo_flags mo_p mo_jammed mo_code (0:Int32) mo_low mo_high mo_old mo_latest_5 mo_cycles mo_stolen mo_interrupts mo_accesses_5 f_mra f_mrA f_mrc f_mrk f_mpi f_mwc f_mwo f_mco f_mpo f_mky f_mla f_mcn f_mct)) [0, 1, 2, 3, 4, 5, 6, 7, 8, 9, 10, 11, 12, 13] (by decide) rfl
          have hKc := hK.sub (tys' := [(k_mra, .int), (k_mrA, .int), (k_mrc, .int), (k_mrk, .int), (k_mpi, .int), (k_mwc, .int), (k_mwo, .int), (k_mco, .int), (k_mpo, .int), (k_mky, .int), (k_mla, .int), (k_mcn, .int), (k_mct, .int)]) [0, 1, 2, 3, 4, 5, 6, 7, 8, 9, 10, 11, 12] rfl
          have hFc := va_free (wc := (wwX7 q_mo q_mra q_mrA q_mrc q_mrk q_mpi q_mwc q_mwo q_mco q_mpo q_mky q_mla q_mcn q_mct k_mra k_mrA k_mrc k_mrk k_mpi k_mwc k_mwo k_mco k_mpo k_mky k_mla k_mcn k_mct mo_port mo_line mo_cycle mo_raised mo_idle mo_bad mo_glyph mo_fetched mo_rows mo_flags2_5 mo_enabled mo_a mo_x mo_y mo_s mo_flags mo_p mo_jammed mo_code (0:Int32) mo_low mo_high mo_old mo_latest_5 mo_cycles mo_stolen mo_interrupts mo_accesses_5 f_mra f_mrA f_mrc f_mrk f_mpi f_mwc f_mwo f_mco f_mpo f_mky f_mla f_mcn f_mct)) hD hS hA [0, 1, 2, 3, 4, 5, 6, 7, 8, 9, 10, 11, 12, 13] rfl
          refine va_callv (va_runV (As := [.int (4:Int32), .int (1:Int32)]) (rest := []) ⟨hx, hb, hml, hown, hts⟩ (mX7_put l dC dI q_mo q_mra q_mrA q_mrc q_mrk q_mpi q_mwc q_mwo q_mco q_mpo q_mky q_mla q_mcn q_mct k_mra k_mrA k_mrc k_mrk k_mpi k_mwc k_mwo k_mco k_mpo k_mky k_mla k_mcn k_mct H.size mo_port mo_line mo_cycle mo_raised mo_idle mo_bad mo_glyph mo_fetched mo_rows mo_flags2_5 mo_enabled mo_a mo_x mo_y mo_s mo_flags mo_p mo_jammed mo_code (0:Int32) mo_low mo_high mo_old mo_latest_5 mo_cycles mo_stolen mo_interrupts mo_accesses_5 f_mra f_mrA f_mrc f_mrk f_mpi f_mwc f_mwo f_mco f_mpo f_mky f_mla f_mcn f_mct (4:Int32) (1:Int32)) (cwV 2 hts (ub_V kMX7_157 kYX7_put kSX7_put kIX7 kBX7_put) rfl rfl rfl (by decide +kernel) ⟨Nat.le_of_ble_eq_true rfl, Nat.le_of_ble_eq_true rfl⟩) ⟨fun a U g mk q => by obtain ⟨q0, q1, qP, qK, qD⟩ := q; exact ⟨q0, q1, qP, va_K.moved (u := U) (U := U.calling g mk a) (Vm.Alike.refl U.vm) qK, qD⟩, va_recv hKc hPc (ci := 7) (q0 := 0) rfl rfl, fun U hU hW => ⟨rfl, by rw [hU], by rw [hU]; exact hPc, va_K.moved hW.alike hKc, hDc.weaken (fun _ _ _ _ => trivial)⟩⟩ rfl rfl hl.1 rfl (lv_room (Nat.le_of_ble_eq_true rfl)) dX7_plainStep_72 ⟨(Nat.zero_le _), (Nat.zero_le _)⟩) hS (fun q _ h => hFc q h) hFc (fun u_72 t H locs ht hvm hw hB hz1 hk1 hS => ?_)
          obtain ⟨hP1, hK1, hD1⟩ := hB
          rw [ht] at hP1
          subst hw
          obtain ⟨hP, hD⟩ := vb_bk2 (wc := (wwX7 q_mo q_mra q_mrA q_mrc q_mrk q_mpi q_mwc q_mwo q_mco q_mpo q_mky q_mla q_mcn q_mct k_mra k_mrA k_mrc k_mrk k_mpi k_mwc k_mwo k_mco k_mpo k_mky k_mla k_mcn k_mct mo_port mo_line mo_cycle mo_raised mo_idle mo_bad mo_glyph mo_fetched mo_rows mo_flags2_5 mo_enabled mo_a mo_x mo_y mo_s mo_flags mo_p mo_jammed mo_code (0:Int32) mo_low mo_high mo_old mo_latest_5 mo_cycles mo_stolen mo_interrupts mo_accesses_5 f_mra f_mrA f_mrc f_mrk f_mpi f_mwc f_mwo f_mco f_mpo f_mky f_mla f_mcn f_mct)) (ws' := (wwX7 q_mo q_mra q_mrA q_mrc q_mrk q_mpi q_mwc q_mwo q_mco q_mpo q_mky q_mla q_mcn q_mct k_mra k_mrA k_mrc k_mrk k_mpi k_mwc k_mwo k_mco k_mpo k_mky k_mla k_mcn k_mct mo_port mo_line mo_cycle mo_raised mo_idle mo_bad mo_glyph mo_fetched mo_rows mo_flags2_5 mo_enabled mo_a mo_x mo_y mo_s (fX7_put (4:Int32) (1:Int32) mo_flags) mo_p mo_jammed mo_code (0:Int32) mo_low mo_high mo_old mo_latest_5 mo_cycles mo_stolen mo_interrupts mo_accesses_5 f_mra f_mrA f_mrc f_mrk f_mpi f_mwc f_mwo f_mco f_mpo f_mky f_mla f_mcn f_mct)) hP hD hD1 [0, 1, 2, 3, 4, 5, 6, 7, 8, 9, 10, 11, 12, 13] [] rfl [q_mo, q_mra, q_mrA, q_mrc, q_mrk, q_mpi, q_mwc, q_mwo, q_mco, q_mpo, q_mky, q_mla, q_mcn, q_mct] rfl rfl ae_n rfl rfl hk1 hP1
          refine lv_iload_n hx hb dX7_plainStep_75 rfl (lv_at hl 0 rfl) ?_
          refine lv_sipush (v := 216) hx hb dX7_plainStep_76 (by decide) ?_
          refine lv_icmp_eq (tgt := 89) hx hb dX7_plainStep_79 (by decide) (fun c_79 => by exact absurd c_79 (by rw [c_56]; decide)) (fun c_79 => ?_)
          refine lv_iload_n hx hb dX7_plainStep_82 rfl (lv_at hl 0 rfl) ?_
          refine lv_sipush (v := 248) hx hb dX7_plainStep_83 (by decide) ?_
          refine lv_icmp_ne (tgt := 107) hx hb dX7_plainStep_86 (by decide) (fun c_86 => ?_) (fun c_86 => by exact absurd c_86 (by rw [c_56]; decide))
          refine lv_iload_n hx hb dX7_plainStep_107 rfl (lv_at hl 0 rfl) ?_
          refine lv_sipush (v := 170) hx hb dX7_plainStep_108 (by decide) ?_
          refine lv_icmp_ne (tgt := 126) hx hb dX7_plainStep_111 (by decide) (fun c_111 => ?_) (fun c_111 => by exact absurd c_111 (by rw [c_56]; decide))
          refine lv_iload_n hx hb dX7_plainStep_126 rfl (lv_at hl 0 rfl) ?_
          refine lv_sipush (v := 138) hx hb dX7_plainStep_127 (by decide) ?_
          refine lv_icmp_ne (tgt := 145) hx hb dX7_plainStep_130 (by decide) (fun c_130 => ?_) (fun c_130 => by exact absurd c_130 (by rw [c_56]; decide))
          refine lv_iload_n hx hb dX7_plainStep_145 rfl (lv_at hl 0 rfl) ?_
          refine lv_sipush (v := 168) hx hb dX7_plainStep_146 (by decide) ?_
          refine lv_icmp_ne (tgt := 164) hx hb dX7_plainStep_149 (by decide) (fun c_149 => ?_) (fun c_149 => by exact absurd c_149 (by rw [c_56]; decide))
          refine lv_iload_n hx hb dX7_plainStep_164 rfl (lv_at hl 0 rfl) ?_
          refine lv_sipush (v := 152) hx hb dX7_plainStep_165 (by decide) ?_
          refine lv_icmp_ne (tgt := 183) hx hb dX7_plainStep_168 (by decide) (fun c_168 => ?_) (fun c_168 => by exact absurd c_168 (by rw [c_56]; decide))
          refine lv_iload_n hx hb dX7_plainStep_183 rfl (lv_at hl 0 rfl) ?_
          refine lv_sipush (v := 232) hx hb dX7_plainStep_184 (by decide) ?_
          refine lv_icmp_ne (tgt := 208) hx hb dX7_plainStep_187 (by decide) (fun c_187 => ?_) (fun c_187 => by exact absurd c_187 (by rw [c_56]; decide))
          refine lv_iload_n hx hb dX7_plainStep_208 rfl (lv_at hl 0 rfl) ?_
          refine lv_sipush (v := 200) hx hb dX7_plainStep_209 (by decide) ?_
          refine lv_icmp_ne (tgt := 233) hx hb dX7_plainStep_212 (by decide) (fun c_212 => ?_) (fun c_212 => by exact absurd c_212 (by rw [c_56]; decide))
          refine lv_iload_n hx hb dX7_plainStep_233 rfl (lv_at hl 0 rfl) ?_
          refine lv_sipush (v := 202) hx hb dX7_plainStep_234 (by decide) ?_
          refine lv_icmp_ne (tgt := 260) hx hb dX7_plainStep_237 (by decide) (fun c_237 => ?_) (fun c_237 => by exact absurd c_237 (by rw [c_56]; decide))
          refine lv_iload_n hx hb dX7_plainStep_260 rfl (lv_at hl 0 rfl) ?_
          refine lv_sipush (v := 136) hx hb dX7_plainStep_261 (by decide) ?_
          refine lv_icmp_ne (tgt := 287) hx hb dX7_plainStep_264 (by decide) (fun c_264 => ?_) (fun c_264 => by exact absurd c_264 (by rw [c_56]; decide))
          refine lv_iload_n hx hb dX7_plainStep_287 rfl (lv_at hl 0 rfl) ?_
          refine lv_bipush (v := 10) hx hb dX7_plainStep_288 (by decide) ?_
          refine lv_icmp_ne (tgt := 310) hx hb dX7_plainStep_290 (by decide) (fun c_290 => ?_) (fun c_290 => by exact absurd c_290 (by rw [c_56]; decide))
          refine lv_aload_n hx hb dX7_plainStep_310 rfl (lv_at hl 1 rfl) ?_
          refine va_get (D := (dC, dI)) (ci := 7) (v := .int mo_a) (C := RX7) (T := TX7) (N := 41) hx hb hts hiX7 hown hK hP 0 rfl rfl 24 (by decide) (hts _ kFX7_136) (fun _ h9 => h9) rfl dX7_plainStep_311 ?_
          refine lv_iconst (v := 1) hx hb dX7_plainStep_314 (by decide) ?_
          refine lv_iand hx hb dX7_plainStep_315 ?_
          refine lv_iconst (v := 1) hx hb dX7_plainStep_316 (by decide) ?_
          refine vj_join (j := 325) (rest := []) (Hyp := fun z H locs => z = (if (mo_a &&& (1:Int32)) = (1:Int32) then (1:Int32) else (0:Int32)) ∧ va_P (dC, dI) vwCl (wwX7 q_mo q_mra q_mrA q_mrc q_mrk q_mpi q_mwc q_mwo q_mco q_mpo q_mky q_mla q_mcn q_mct k_mra k_mrA k_mrc k_mrk k_mpi k_mwc k_mwo k_mco k_mpo k_mky k_mla k_mcn k_mct mo_port mo_line mo_cycle mo_raised mo_idle mo_bad mo_glyph mo_fetched mo_rows mo_flags2_5 mo_enabled mo_a mo_x mo_y mo_s (fX7_put (4:Int32) (1:Int32) mo_flags) mo_p mo_jammed mo_code (0:Int32) mo_low mo_high mo_old mo_latest_5 mo_cycles mo_stolen mo_interrupts mo_accesses_5 f_mra f_mrA f_mrc f_mrk f_mpi f_mwc f_mwo f_mco f_mpo f_mky f_mla f_mcn f_mct) H ∧ va_S A s.heap H locs) (fun z H locs hh => ?_) (fun J325 => ?_)
          · obtain ⟨hz, hP, hS⟩ := hh
            subst hz
            refine lv_istore_n (lv' := [(2, .int (if (mo_a &&& (1:Int32)) = (1:Int32) then (1:Int32) else (0:Int32))), (1, .int mo_code), (0, .ref q_mo)]) hx hb dX7_plainStep_325 rfl hl (by decide) rfl (fun ls hl => ?_)
            refine lv_iload_n hx hb dX7_plainStep_326 rfl (lv_at hl 1 rfl) ?_
            refine lv_bipush (v := 10) hx hb dX7_plainStep_327 (by decide) ?_
            refine lv_icmp_ne (tgt := 350) hx hb dX7_plainStep_329 (by decide) (fun c_329 => ?_) (fun c_329 => by exact absurd c_329 (by rw [c_56]; decide))
            refine lv_iload_n hx hb dX7_plainStep_350 rfl (lv_at hl 1 rfl) ?_
            refine lv_bipush (v := 74) hx hb dX7_plainStep_351 (by decide) ?_
            refine lv_icmp_ne (tgt := 370) hx hb dX7_plainStep_353 (by decide) (fun c_353 => ?_) (fun c_353 => by exact absurd c_353 (by rw [c_56]; decide))
            refine lv_iload_n hx hb dX7_plainStep_370 rfl (lv_at hl 1 rfl) ?_
            refine lv_bipush (v := 10) hx hb dX7_plainStep_371 (by decide) ?_
            refine lv_icmp_eq (tgt := 382) hx hb dX7_plainStep_373 (by decide) (fun c_373 => by exact absurd c_373 (by rw [c_56]; decide)) (fun c_373 => ?_)
            refine lv_iload_n hx hb dX7_plainStep_376 rfl (lv_at hl 1 rfl) ?_
            refine lv_bipush (v := 74) hx hb dX7_plainStep_377 (by decide) ?_
            refine lv_icmp_ne (tgt := 388) hx hb dX7_plainStep_379 (by decide) (fun c_379 => ?_) (fun c_379 => by exact absurd c_379 (by rw [c_56]; decide))
            exact W.vret hx hb hr (fun t ht hW => ⟨⟨(mo_flags2_5, mo_a, mo_x, mo_y, (fX7_put (4:Int32) (1:Int32) mo_flags), (0:Int32), mo_latest_5, mo_accesses_5), rfl, hF.symm, by rw [ht]; exact hP, va_K.moved hW.alike hK, hD⟩, hS.F ht⟩) hS.2.2 dX7_plainStep_388
          · refine lv_icmp_ne (tgt := 324) hx hb dX7_plainStep_317 (by decide) (fun c_317 => ?_) (fun c_317 => ?_)
            · refine lv_iconst (v := 0) hx hb dX7_plainStep_324 (by decide) ?_
              exact J325 _ _ _ ⟨by rw [if_neg c_317], hP, hS⟩
            · refine lv_iconst (v := 1) hx hb dX7_plainStep_320 (by decide) ?_
              refine lv_goto (tgt := 325) hx hb dX7_plainStep_321 (by decide) ?_
              exact J325 _ _ _ ⟨by rw [if_pos c_317], hP, hS⟩
    · have hF := hF.trans (if_pos c_28)
      refine lv_aload_n hx hb dX7_plainStep_31 rfl (lv_at hl 1 rfl) ?_
      refine lv_iconst (v := 1) hx hb dX7_plainStep_32 (by decide) ?_
      refine lv_iload_n hx hb dX7_plainStep_33 rfl (lv_at hl 0 rfl) ?_
      refine lv_bipush (v := 56) hx hb dX7_plainStep_34 (by decide) ?_
      refine lv_icmp_ne (tgt := 43) hx hb dX7_plainStep_36 (by decide) (fun c_36 => by exact absurd c_28 c_36) (fun c_36 => ?_)
      refine lv_iconst (v := 1) hx hb dX7_plainStep_39 (by decide) ?_
      refine lv_goto (tgt := 44) hx hb dX7_plainStep_40 (by decide) ?_
      have hPc := hP.sub (ws' := (wwX7 q_mo q_mra q_mrA q_mrc q_mrk q_mpi q_mwc q_mwo q_mco q_mpo q_mky q_mla q_mcn q_mct k_mra k_mrA k_mrc k_mrk k_mpi k_mwc k_mwo k_mco k_mpo k_mky k_mla k_mcn k_mct mo_port mo_line mo_cycle mo_raised mo_idle mo_bad mo_glyph mo_fetched mo_rows mo_flags2_5 mo_enabled mo_a mo_x mo_y mo_s mo_flags mo_p mo_jammed mo_code (0:Int32) mo_low mo_high mo_old mo_latest_5 mo_cycles mo_stolen mo_interrupts mo_accesses_5 f_mra f_mrA f_mrc f_mrk f_mpi f_mwc f_mwo f_mco f_mpo f_mky f_mla f_mcn f_mct)) [0, 1, 2, 3, 4, 5, 6, 7, 8, 9, 10, 11, 12, 13] rfl
      have hDc := hD.sub (ws' := (wwX7 q_mo q_mra q_mrA q_mrc q_mrk q_mpi q_mwc q_mwo q_mco q_mpo q_mky q_mla q_mcn q_mct k_mra k_mrA k_mrc k_mrk k_mpi k_mwc k_mwo k_mco k_mpo k_mky k_mla k_mcn k_mct mo_port mo_line mo_cycle mo_raised mo_idle mo_bad mo_glyph mo_fetched mo_rows mo_flags2_5 mo_enabled mo_a mo_x mo_y mo_s mo_flags mo_p mo_jammed mo_code (0:Int32) mo_low mo_high mo_old mo_latest_5 mo_cycles mo_stolen mo_interrupts mo_accesses_5 f_mra f_mrA f_mrc f_mrk f_mpi f_mwc f_mwo f_mco f_mpo f_mky f_mla f_mcn f_mct)) [0, 1, 2, 3, 4, 5, 6, 7, 8, 9, 10, 11, 12, 13] (by decide) rfl
      have hKc := hK.sub (tys' := [(k_mra, .int), (k_mrA, .int), (k_mrc, .int), (k_mrk, .int), (k_mpi, .int), (k_mwc, .int), (k_mwo, .int), (k_mco, .int), (k_mpo, .int), (k_mky, .int), (k_mla, .int), (k_mcn, .int), (k_mct, .int)]) [0, 1, 2, 3, 4, 5, 6, 7, 8, 9, 10, 11, 12] rfl
      have hFc := va_free (wc := (wwX7 q_mo q_mra q_mrA q_mrc q_mrk q_mpi q_mwc q_mwo q_mco q_mpo q_mky q_mla q_mcn q_mct k_mra k_mrA k_mrc k_mrk k_mpi k_mwc k_mwo k_mco k_mpo k_mky k_mla k_mcn k_mct mo_port mo_line mo_cycle mo_raised mo_idle mo_bad mo_glyph mo_fetched mo_rows mo_flags2_5 mo_enabled mo_a mo_x mo_y mo_s mo_flags mo_p mo_jammed mo_code (0:Int32) mo_low mo_high mo_old mo_latest_5 mo_cycles mo_stolen mo_interrupts mo_accesses_5 f_mra f_mrA f_mrc f_mrk f_mpi f_mwc f_mwo f_mco f_mpo f_mky f_mla f_mcn f_mct)) hD hS hA [0, 1, 2, 3, 4, 5, 6, 7, 8, 9, 10, 11, 12, 13] rfl
      refine va_callv (va_runV (As := [.int (1:Int32), .int (1:Int32)]) (rest := []) ⟨hx, hb, hml, hown, hts⟩ (mX7_put l dC dI q_mo q_mra q_mrA q_mrc q_mrk q_mpi q_mwc q_mwo q_mco q_mpo q_mky q_mla q_mcn q_mct k_mra k_mrA k_mrc k_mrk k_mpi k_mwc k_mwo k_mco k_mpo k_mky k_mla k_mcn k_mct H.size mo_port mo_line mo_cycle mo_raised mo_idle mo_bad mo_glyph mo_fetched mo_rows mo_flags2_5 mo_enabled mo_a mo_x mo_y mo_s mo_flags mo_p mo_jammed mo_code (0:Int32) mo_low mo_high mo_old mo_latest_5 mo_cycles mo_stolen mo_interrupts mo_accesses_5 f_mra f_mrA f_mrc f_mrk f_mpi f_mwc f_mwo f_mco f_mpo f_mky f_mla f_mcn f_mct (1:Int32) (1:Int32)) (cwV 2 hts (ub_V kMX7_157 kYX7_put kSX7_put kIX7 kBX7_put) rfl rfl rfl (by decide +kernel) ⟨Nat.le_of_ble_eq_true rfl, Nat.le_of_ble_eq_true rfl⟩) ⟨fun a U g mk q => by obtain ⟨q0, q1, qP, qK, qD⟩ := q; exact ⟨q0, q1, qP, va_K.moved (u := U) (U := U.calling g mk a) (Vm.Alike.refl U.vm) qK, qD⟩, va_recv hKc hPc (ci := 7) (q0 := 0) rfl rfl, fun U hU hW => ⟨rfl, by rw [hU], by rw [hU]; exact hPc, va_K.moved hW.alike hKc, hDc.weaken (fun _ _ _ _ => trivial)⟩⟩ rfl rfl hl.1 rfl (lv_room (Nat.le_of_ble_eq_true rfl)) dX7_plainStep_44 ⟨(Nat.zero_le _), (Nat.zero_le _)⟩) hS (fun q _ h => hFc q h) hFc (fun u_44 t H locs ht hvm hw hB hz1 hk1 hS => ?_)
      obtain ⟨hP1, hK1, hD1⟩ := hB
      rw [ht] at hP1
      subst hw
      obtain ⟨hP, hD⟩ := vb_bk2 (wc := (wwX7 q_mo q_mra q_mrA q_mrc q_mrk q_mpi q_mwc q_mwo q_mco q_mpo q_mky q_mla q_mcn q_mct k_mra k_mrA k_mrc k_mrk k_mpi k_mwc k_mwo k_mco k_mpo k_mky k_mla k_mcn k_mct mo_port mo_line mo_cycle mo_raised mo_idle mo_bad mo_glyph mo_fetched mo_rows mo_flags2_5 mo_enabled mo_a mo_x mo_y mo_s mo_flags mo_p mo_jammed mo_code (0:Int32) mo_low mo_high mo_old mo_latest_5 mo_cycles mo_stolen mo_interrupts mo_accesses_5 f_mra f_mrA f_mrc f_mrk f_mpi f_mwc f_mwo f_mco f_mpo f_mky f_mla f_mcn f_mct)) (ws' := (wwX7 q_mo q_mra q_mrA q_mrc q_mrk q_mpi q_mwc q_mwo q_mco q_mpo q_mky q_mla q_mcn q_mct k_mra k_mrA k_mrc k_mrk k_mpi k_mwc k_mwo k_mco k_mpo k_mky k_mla k_mcn k_mct mo_port mo_line mo_cycle mo_raised mo_idle mo_bad mo_glyph mo_fetched mo_rows mo_flags2_5 mo_enabled mo_a mo_x mo_y mo_s (fX7_put (1:Int32) (1:Int32) mo_flags) mo_p mo_jammed mo_code (0:Int32) mo_low mo_high mo_old mo_latest_5 mo_cycles mo_stolen mo_interrupts mo_accesses_5 f_mra f_mrA f_mrc f_mrk f_mpi f_mwc f_mwo f_mco f_mpo f_mky f_mla f_mcn f_mct)) hP hD hD1 [0, 1, 2, 3, 4, 5, 6, 7, 8, 9, 10, 11, 12, 13] [] rfl [q_mo, q_mra, q_mrA, q_mrc, q_mrk, q_mpi, q_mwc, q_mwo, q_mco, q_mpo, q_mky, q_mla, q_mcn, q_mct] rfl rfl ae_n rfl rfl hk1 hP1
      refine lv_iload_n hx hb dX7_plainStep_47 rfl (lv_at hl 0 rfl) ?_
      refine lv_bipush (v := 88) hx hb dX7_plainStep_48 (by decide) ?_
      refine lv_icmp_eq (tgt := 59) hx hb dX7_plainStep_50 (by decide) (fun c_50 => by exact absurd c_50 (by rw [c_28]; decide)) (fun c_50 => ?_)
      refine lv_iload_n hx hb dX7_plainStep_53 rfl (lv_at hl 0 rfl) ?_
      refine lv_bipush (v := 120) hx hb dX7_plainStep_54 (by decide) ?_
      refine lv_icmp_ne (tgt := 75) hx hb dX7_plainStep_56 (by decide) (fun c_56 => ?_) (fun c_56 => by exact absurd c_56 (by rw [c_28]; decide))
      refine lv_iload_n hx hb dX7_plainStep_75 rfl (lv_at hl 0 rfl) ?_
      refine lv_sipush (v := 216) hx hb dX7_plainStep_76 (by decide) ?_
      refine lv_icmp_eq (tgt := 89) hx hb dX7_plainStep_79 (by decide) (fun c_79 => by exact absurd c_79 (by rw [c_28]; decide)) (fun c_79 => ?_)
      refine lv_iload_n hx hb dX7_plainStep_82 rfl (lv_at hl 0 rfl) ?_
      refine lv_sipush (v := 248) hx hb dX7_plainStep_83 (by decide) ?_
      refine lv_icmp_ne (tgt := 107) hx hb dX7_plainStep_86 (by decide) (fun c_86 => ?_) (fun c_86 => by exact absurd c_86 (by rw [c_28]; decide))
      refine lv_iload_n hx hb dX7_plainStep_107 rfl (lv_at hl 0 rfl) ?_
      refine lv_sipush (v := 170) hx hb dX7_plainStep_108 (by decide) ?_
      refine lv_icmp_ne (tgt := 126) hx hb dX7_plainStep_111 (by decide) (fun c_111 => ?_) (fun c_111 => by exact absurd c_111 (by rw [c_28]; decide))
      refine lv_iload_n hx hb dX7_plainStep_126 rfl (lv_at hl 0 rfl) ?_
      refine lv_sipush (v := 138) hx hb dX7_plainStep_127 (by decide) ?_
      refine lv_icmp_ne (tgt := 145) hx hb dX7_plainStep_130 (by decide) (fun c_130 => ?_) (fun c_130 => by exact absurd c_130 (by rw [c_28]; decide))
      refine lv_iload_n hx hb dX7_plainStep_145 rfl (lv_at hl 0 rfl) ?_
      refine lv_sipush (v := 168) hx hb dX7_plainStep_146 (by decide) ?_
      refine lv_icmp_ne (tgt := 164) hx hb dX7_plainStep_149 (by decide) (fun c_149 => ?_) (fun c_149 => by exact absurd c_149 (by rw [c_28]; decide))
      refine lv_iload_n hx hb dX7_plainStep_164 rfl (lv_at hl 0 rfl) ?_
      refine lv_sipush (v := 152) hx hb dX7_plainStep_165 (by decide) ?_
      refine lv_icmp_ne (tgt := 183) hx hb dX7_plainStep_168 (by decide) (fun c_168 => ?_) (fun c_168 => by exact absurd c_168 (by rw [c_28]; decide))
      refine lv_iload_n hx hb dX7_plainStep_183 rfl (lv_at hl 0 rfl) ?_
      refine lv_sipush (v := 232) hx hb dX7_plainStep_184 (by decide) ?_
      refine lv_icmp_ne (tgt := 208) hx hb dX7_plainStep_187 (by decide) (fun c_187 => ?_) (fun c_187 => by exact absurd c_187 (by rw [c_28]; decide))
      refine lv_iload_n hx hb dX7_plainStep_208 rfl (lv_at hl 0 rfl) ?_
      refine lv_sipush (v := 200) hx hb dX7_plainStep_209 (by decide) ?_
      refine lv_icmp_ne (tgt := 233) hx hb dX7_plainStep_212 (by decide) (fun c_212 => ?_) (fun c_212 => by exact absurd c_212 (by rw [c_28]; decide))
      refine lv_iload_n hx hb dX7_plainStep_233 rfl (lv_at hl 0 rfl) ?_
      refine lv_sipush (v := 202) hx hb dX7_plainStep_234 (by decide) ?_
      refine lv_icmp_ne (tgt := 260) hx hb dX7_plainStep_237 (by decide) (fun c_237 => ?_) (fun c_237 => by exact absurd c_237 (by rw [c_28]; decide))
      refine lv_iload_n hx hb dX7_plainStep_260 rfl (lv_at hl 0 rfl) ?_
      refine lv_sipush (v := 136) hx hb dX7_plainStep_261 (by decide) ?_
      refine lv_icmp_ne (tgt := 287) hx hb dX7_plainStep_264 (by decide) (fun c_264 => ?_) (fun c_264 => by exact absurd c_264 (by rw [c_28]; decide))
      refine lv_iload_n hx hb dX7_plainStep_287 rfl (lv_at hl 0 rfl) ?_
      refine lv_bipush (v := 10) hx hb dX7_plainStep_288 (by decide) ?_
      refine lv_icmp_ne (tgt := 310) hx hb dX7_plainStep_290 (by decide) (fun c_290 => ?_) (fun c_290 => by exact absurd c_290 (by rw [c_28]; decide))
      refine lv_aload_n hx hb dX7_plainStep_310 rfl (lv_at hl 1 rfl) ?_
      refine va_get (D := (dC, dI)) (ci := 7) (v := .int mo_a) (C := RX7) (T := TX7) (N := 41) hx hb hts hiX7 hown hK hP 0 rfl rfl 24 (by decide) (hts _ kFX7_136) (fun _ h9 => h9) rfl dX7_plainStep_311 ?_
      refine lv_iconst (v := 1) hx hb dX7_plainStep_314 (by decide) ?_
      refine lv_iand hx hb dX7_plainStep_315 ?_
      refine lv_iconst (v := 1) hx hb dX7_plainStep_316 (by decide) ?_
      refine vj_join (j := 325) (rest := []) (Hyp := fun z H locs => z = (if (mo_a &&& (1:Int32)) = (1:Int32) then (1:Int32) else (0:Int32)) ∧ va_P (dC, dI) vwCl (wwX7 q_mo q_mra q_mrA q_mrc q_mrk q_mpi q_mwc q_mwo q_mco q_mpo q_mky q_mla q_mcn q_mct k_mra k_mrA k_mrc k_mrk k_mpi k_mwc k_mwo k_mco k_mpo k_mky k_mla k_mcn k_mct mo_port mo_line mo_cycle mo_raised mo_idle mo_bad mo_glyph mo_fetched mo_rows mo_flags2_5 mo_enabled mo_a mo_x mo_y mo_s (fX7_put (1:Int32) (1:Int32) mo_flags) mo_p mo_jammed mo_code (0:Int32) mo_low mo_high mo_old mo_latest_5 mo_cycles mo_stolen mo_interrupts mo_accesses_5 f_mra f_mrA f_mrc f_mrk f_mpi f_mwc f_mwo f_mco f_mpo f_mky f_mla f_mcn f_mct) H ∧ va_S A s.heap H locs) (fun z H locs hh => ?_) (fun J325 => ?_)
      · obtain ⟨hz, hP, hS⟩ := hh
        subst hz
        refine lv_istore_n (lv' := [(2, .int (if (mo_a &&& (1:Int32)) = (1:Int32) then (1:Int32) else (0:Int32))), (1, .int mo_code), (0, .ref q_mo)]) hx hb dX7_plainStep_325 rfl hl (by decide) rfl (fun ls hl => ?_)
        refine lv_iload_n hx hb dX7_plainStep_326 rfl (lv_at hl 1 rfl) ?_
        refine lv_bipush (v := 10) hx hb dX7_plainStep_327 (by decide) ?_
        refine lv_icmp_ne (tgt := 350) hx hb dX7_plainStep_329 (by decide) (fun c_329 => ?_) (fun c_329 => by exact absurd c_329 (by rw [c_28]; decide))
        refine lv_iload_n hx hb dX7_plainStep_350 rfl (lv_at hl 1 rfl) ?_
        refine lv_bipush (v := 74) hx hb dX7_plainStep_351 (by decide) ?_
        refine lv_icmp_ne (tgt := 370) hx hb dX7_plainStep_353 (by decide) (fun c_353 => ?_) (fun c_353 => by exact absurd c_353 (by rw [c_28]; decide))
        refine lv_iload_n hx hb dX7_plainStep_370 rfl (lv_at hl 1 rfl) ?_
        refine lv_bipush (v := 10) hx hb dX7_plainStep_371 (by decide) ?_
        refine lv_icmp_eq (tgt := 382) hx hb dX7_plainStep_373 (by decide) (fun c_373 => by exact absurd c_373 (by rw [c_28]; decide)) (fun c_373 => ?_)
        refine lv_iload_n hx hb dX7_plainStep_376 rfl (lv_at hl 1 rfl) ?_
        refine lv_bipush (v := 74) hx hb dX7_plainStep_377 (by decide) ?_
        refine lv_icmp_ne (tgt := 388) hx hb dX7_plainStep_379 (by decide) (fun c_379 => ?_) (fun c_379 => by exact absurd c_379 (by rw [c_28]; decide))
        exact W.vret hx hb hr (fun t ht hW => ⟨⟨(mo_flags2_5, mo_a, mo_x, mo_y, (fX7_put (1:Int32) (1:Int32) mo_flags), (0:Int32), mo_latest_5, mo_accesses_5), rfl, hF.symm, by rw [ht]; exact hP, va_K.moved hW.alike hK, hD⟩, hS.F ht⟩) hS.2.2 dX7_plainStep_388
      · refine lv_icmp_ne (tgt := 324) hx hb dX7_plainStep_317 (by decide) (fun c_317 => ?_) (fun c_317 => ?_)
        · refine lv_iconst (v := 0) hx hb dX7_plainStep_324 (by decide) ?_
          exact J325 _ _ _ ⟨by rw [if_neg c_317], hP, hS⟩
        · refine lv_iconst (v := 1) hx hb dX7_plainStep_320 (by decide) ?_
          refine lv_goto (tgt := 325) hx hb dX7_plainStep_321 (by decide) ?_
          exact J325 _ _ _ ⟨by rw [if_pos c_317], hP, hS⟩
