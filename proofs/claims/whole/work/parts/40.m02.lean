def fX7_set (p1 : Int32) (p2 : Int32) (mo_raised : Int32) (mo_rows : Int32) (mo_enabled : Int32) (f_mpi : Nat → Int32) (f_mco : Nat → Int32) (f_mla : Nat → Int32) (f_mcn : Nat → Int32) (f_mct : Nat → Int32) : Int32 × Int32 × Int32 × (Nat → Int32) × (Nat → Int32) × (Nat → Int32) × (Nat → Int32) × (Nat → Int32) :=
  if (64:Int32) ≤ p1 then
   if (128:Int32) ≤ p1 then
    if (152:Int32) ≤ p1 then
     (mo_raised, mo_rows, mo_enabled, f_mpi, f_mco, f_mla, f_mcn, f_mct)
    else
     (mo_raised, mo_rows, mo_enabled, f_mpi, (upd f_mco (p1 - (128:Int32)).toNatClampNeg (p2 &&& (15:Int32))), f_mla, f_mcn, f_mct)
   else
    if (p1 - p1 / (16:Int32) * (16:Int32)) = (0:Int32) then
     (mo_raised, p2, mo_enabled, f_mpi, f_mco, f_mla, f_mcn, f_mct)
    else
     if (p1 - p1 / (16:Int32) * (16:Int32)) = (4:Int32) then
      (mo_raised, mo_rows, mo_enabled, f_mpi, f_mco, (upd f_mla (if (p1 - p1 / (16:Int32) * (16:Int32)) < (14:Int32) then (((p1 - p1 / (16:Int32) * (16:Int32)) - (4:Int32)) / (2:Int32)) else ((p1 - p1 / (16:Int32) * (16:Int32)) - (14:Int32))).toNatClampNeg (((f_mla (if (p1 - p1 / (16:Int32) * (16:Int32)) < (14:Int32) then (((p1 - p1 / (16:Int32) * (16:Int32)) - (4:Int32)) / (2:Int32)) else ((p1 - p1 / (16:Int32) * (16:Int32)) - (14:Int32))).toNatClampNeg) &&& (65280:Int32)) + p2)), f_mcn, f_mct)
     else
      if (p1 - p1 / (16:Int32) * (16:Int32)) = (6:Int32) then
       (mo_raised, mo_rows, mo_enabled, f_mpi, f_mco, (upd f_mla (if (p1 - p1 / (16:Int32) * (16:Int32)) < (14:Int32) then (((p1 - p1 / (16:Int32) * (16:Int32)) - (4:Int32)) / (2:Int32)) else ((p1 - p1 / (16:Int32) * (16:Int32)) - (14:Int32))).toNatClampNeg (((f_mla (if (p1 - p1 / (16:Int32) * (16:Int32)) < (14:Int32) then (((p1 - p1 / (16:Int32) * (16:Int32)) - (4:Int32)) / (2:Int32)) else ((p1 - p1 / (16:Int32) * (16:Int32)) - (14:Int32))).toNatClampNeg) &&& (65280:Int32)) + p2)), f_mcn, f_mct)
      else
       if (p1 - p1 / (16:Int32) * (16:Int32)) = (5:Int32) then
        (mo_raised, mo_rows, mo_enabled, f_mpi, f_mco, (upd f_mla (if (p1 - p1 / (16:Int32) * (16:Int32)) < (14:Int32) then (((p1 - p1 / (16:Int32) * (16:Int32)) - (4:Int32)) / (2:Int32)) else ((p1 - p1 / (16:Int32) * (16:Int32)) - (14:Int32))).toNatClampNeg (((f_mla (if (p1 - p1 / (16:Int32) * (16:Int32)) < (14:Int32) then (((p1 - p1 / (16:Int32) * (16:Int32)) - (4:Int32)) / (2:Int32)) else ((p1 - p1 / (16:Int32) * (16:Int32)) - (14:Int32))).toNatClampNeg) &&& (255:Int32)) + ((256:Int32) * p2))), (upd f_mcn (if (p1 - p1 / (16:Int32) * (16:Int32)) < (14:Int32) then (((p1 - p1 / (16:Int32) * (16:Int32)) - (4:Int32)) / (2:Int32)) else ((p1 - p1 / (16:Int32) * (16:Int32)) - (14:Int32))).toNatClampNeg (if ((f_mct (if (p1 - p1 / (16:Int32) * (16:Int32)) < (14:Int32) then (((p1 - p1 / (16:Int32) * (16:Int32)) - (4:Int32)) / (2:Int32)) else ((p1 - p1 / (16:Int32) * (16:Int32)) - (14:Int32))).toNatClampNeg) &&& (1:Int32)) = (0:Int32) then ((upd f_mla (if (p1 - p1 / (16:Int32) * (16:Int32)) < (14:Int32) then (((p1 - p1 / (16:Int32) * (16:Int32)) - (4:Int32)) / (2:Int32)) else ((p1 - p1 / (16:Int32) * (16:Int32)) - (14:Int32))).toNatClampNeg (((f_mla (if (p1 - p1 / (16:Int32) * (16:Int32)) < (14:Int32) then (((p1 - p1 / (16:Int32) * (16:Int32)) - (4:Int32)) / (2:Int32)) else ((p1 - p1 / (16:Int32) * (16:Int32)) - (14:Int32))).toNatClampNeg) &&& (255:Int32)) + ((256:Int32) * p2))) (if (p1 - p1 / (16:Int32) * (16:Int32)) < (14:Int32) then (((p1 - p1 / (16:Int32) * (16:Int32)) - (4:Int32)) / (2:Int32)) else ((p1 - p1 / (16:Int32) * (16:Int32)) - (14:Int32))).toNatClampNeg) else (f_mcn (if (p1 - p1 / (16:Int32) * (16:Int32)) < (14:Int32) then (((p1 - p1 / (16:Int32) * (16:Int32)) - (4:Int32)) / (2:Int32)) else ((p1 - p1 / (16:Int32) * (16:Int32)) - (14:Int32))).toNatClampNeg))), f_mct)
       else
        if (p1 - p1 / (16:Int32) * (16:Int32)) = (7:Int32) then
         (mo_raised, mo_rows, mo_enabled, f_mpi, f_mco, (upd f_mla (if (p1 - p1 / (16:Int32) * (16:Int32)) < (14:Int32) then (((p1 - p1 / (16:Int32) * (16:Int32)) - (4:Int32)) / (2:Int32)) else ((p1 - p1 / (16:Int32) * (16:Int32)) - (14:Int32))).toNatClampNeg (((f_mla (if (p1 - p1 / (16:Int32) * (16:Int32)) < (14:Int32) then (((p1 - p1 / (16:Int32) * (16:Int32)) - (4:Int32)) / (2:Int32)) else ((p1 - p1 / (16:Int32) * (16:Int32)) - (14:Int32))).toNatClampNeg) &&& (255:Int32)) + ((256:Int32) * p2))), (upd f_mcn (if (p1 - p1 / (16:Int32) * (16:Int32)) < (14:Int32) then (((p1 - p1 / (16:Int32) * (16:Int32)) - (4:Int32)) / (2:Int32)) else ((p1 - p1 / (16:Int32) * (16:Int32)) - (14:Int32))).toNatClampNeg (if ((f_mct (if (p1 - p1 / (16:Int32) * (16:Int32)) < (14:Int32) then (((p1 - p1 / (16:Int32) * (16:Int32)) - (4:Int32)) / (2:Int32)) else ((p1 - p1 / (16:Int32) * (16:Int32)) - (14:Int32))).toNatClampNeg) &&& (1:Int32)) = (0:Int32) then ((upd f_mla (if (p1 - p1 / (16:Int32) * (16:Int32)) < (14:Int32) then (((p1 - p1 / (16:Int32) * (16:Int32)) - (4:Int32)) / (2:Int32)) else ((p1 - p1 / (16:Int32) * (16:Int32)) - (14:Int32))).toNatClampNeg (((f_mla (if (p1 - p1 / (16:Int32) * (16:Int32)) < (14:Int32) then (((p1 - p1 / (16:Int32) * (16:Int32)) - (4:Int32)) / (2:Int32)) else ((p1 - p1 / (16:Int32) * (16:Int32)) - (14:Int32))).toNatClampNeg) &&& (255:Int32)) + ((256:Int32) * p2))) (if (p1 - p1 / (16:Int32) * (16:Int32)) < (14:Int32) then (((p1 - p1 / (16:Int32) * (16:Int32)) - (4:Int32)) / (2:Int32)) else ((p1 - p1 / (16:Int32) * (16:Int32)) - (14:Int32))).toNatClampNeg) else (f_mcn (if (p1 - p1 / (16:Int32) * (16:Int32)) < (14:Int32) then (((p1 - p1 / (16:Int32) * (16:Int32)) - (4:Int32)) / (2:Int32)) else ((p1 - p1 / (16:Int32) * (16:Int32)) - (14:Int32))).toNatClampNeg))), f_mct)
        else
         if (p1 - p1 / (16:Int32) * (16:Int32)) = (13:Int32) then
          (mo_raised, mo_rows, (if p2 ≤ (127:Int32) then (mo_enabled &&& ((p2 &&& (3:Int32)) ^^^ (-1:Int32))) else (mo_enabled ||| (p2 &&& (3:Int32)))), f_mpi, f_mco, f_mla, f_mcn, f_mct)
         else
          if (p1 - p1 / (16:Int32) * (16:Int32)) < (14:Int32) then
           (mo_raised, mo_rows, mo_enabled, f_mpi, f_mco, f_mla, f_mcn, f_mct)
          else
           (mo_raised, mo_rows, mo_enabled, f_mpi, f_mco, f_mla, (upd f_mcn (if (p1 - p1 / (16:Int32) * (16:Int32)) < (14:Int32) then (((p1 - p1 / (16:Int32) * (16:Int32)) - (4:Int32)) / (2:Int32)) else ((p1 - p1 / (16:Int32) * (16:Int32)) - (14:Int32))).toNatClampNeg (if (p2 &&& (16:Int32)) = (0:Int32) then (f_mcn (if (p1 - p1 / (16:Int32) * (16:Int32)) < (14:Int32) then (((p1 - p1 / (16:Int32) * (16:Int32)) - (4:Int32)) / (2:Int32)) else ((p1 - p1 / (16:Int32) * (16:Int32)) - (14:Int32))).toNatClampNeg) else (f_mla (if (p1 - p1 / (16:Int32) * (16:Int32)) < (14:Int32) then (((p1 - p1 / (16:Int32) * (16:Int32)) - (4:Int32)) / (2:Int32)) else ((p1 - p1 / (16:Int32) * (16:Int32)) - (14:Int32))).toNatClampNeg))), (upd f_mct (if (p1 - p1 / (16:Int32) * (16:Int32)) < (14:Int32) then (((p1 - p1 / (16:Int32) * (16:Int32)) - (4:Int32)) / (2:Int32)) else ((p1 - p1 / (16:Int32) * (16:Int32)) - (14:Int32))).toNatClampNeg (p2 &&& (if (if (p1 - p1 / (16:Int32) * (16:Int32)) < (14:Int32) then (((p1 - p1 / (16:Int32) * (16:Int32)) - (4:Int32)) / (2:Int32)) else ((p1 - p1 / (16:Int32) * (16:Int32)) - (14:Int32))) = (0:Int32) then (9:Int32) else (73:Int32)))))
  else
   if (p1 - p1 / (16:Int32) * (16:Int32)) = (0:Int32) then
    (mo_raised, mo_rows, mo_enabled, (upd f_mpi (0:Int32).toNatClampNeg (p2 &&& (23:Int32))), f_mco, f_mla, f_mcn, f_mct)
   else
    if (p1 - p1 / (16:Int32) * (16:Int32)) = (1:Int32) then
     (mo_raised, mo_rows, mo_enabled, (upd f_mpi (1:Int32).toNatClampNeg p2), f_mco, f_mla, f_mcn, f_mct)
    else
     if (p1 - p1 / (16:Int32) * (16:Int32)) = (2:Int32) then
      (mo_raised, mo_rows, mo_enabled, (upd f_mpi (p1 - p1 / (16:Int32) * (16:Int32)).toNatClampNeg (p2 &&& (15:Int32))), f_mco, f_mla, f_mcn, f_mct)
     else
      if (p1 - p1 / (16:Int32) * (16:Int32)) = (3:Int32) then
       (mo_raised, mo_rows, mo_enabled, (upd f_mpi (p1 - p1 / (16:Int32) * (16:Int32)).toNatClampNeg (p2 &&& (15:Int32))), f_mco, f_mla, f_mcn, f_mct)
      else
       if (p1 - p1 / (16:Int32) * (16:Int32)) = (6:Int32) then
        (mo_raised, mo_rows, mo_enabled, (upd f_mpi (p1 - p1 / (16:Int32) * (16:Int32)).toNatClampNeg (p2 &&& (15:Int32))), f_mco, f_mla, f_mcn, f_mct)
       else
        if (p1 - p1 / (16:Int32) * (16:Int32)) = (4:Int32) then
         if (p2 &&& (1:Int32)) = (1:Int32) then
          ((0:Int32), mo_rows, mo_enabled, f_mpi, f_mco, f_mla, f_mcn, f_mct)
         else
          (mo_raised, mo_rows, mo_enabled, f_mpi, f_mco, f_mla, f_mcn, f_mct)
        else
         if (p1 - p1 / (16:Int32) * (16:Int32)) = (5:Int32) then
          (mo_raised, mo_rows, mo_enabled, (upd f_mpi (5:Int32).toNatClampNeg (p2 &&& (1:Int32))), f_mco, f_mla, f_mcn, f_mct)
         else
          (mo_raised, mo_rows, mo_enabled, f_mpi, f_mco, f_mla, f_mcn, f_mct)
set_option maxHeartbeats 4000000 in
set_option maxRecDepth 100000 in
theorem mX7_set (l : Launch) (dC : Nat → ClassId) (dI : Nat → Nat → Nat) (q_mo q_mra q_mrA q_mrc q_mrk q_mpi q_mwc q_mwo q_mco q_mpo q_mky q_mla q_mcn q_mct : Nat) (k_mra k_mrA k_mrc k_mrk k_mpi k_mwc k_mwo k_mco k_mpo k_mky k_mla k_mcn k_mct : ClassId) (sz : Nat) (mo_port mo_line mo_cycle mo_raised mo_idle mo_bad mo_glyph mo_fetched mo_rows mo_flags2 mo_enabled mo_a mo_x mo_y mo_s mo_flags mo_p mo_jammed mo_code mo_step mo_low mo_high mo_old mo_latest mo_cycles mo_stolen mo_interrupts mo_accesses : Int32) (f_mra f_mrA f_mrc f_mrk f_mpi f_mwc f_mwo f_mco f_mpo f_mky f_mla f_mcn f_mct : Nat → Int32) (p1 p2 : Int32) (ho : vp_in p1 512) : Met l yX7_set uX7_set ({ frames := 0, cells := 0, slots := 0, locals := 0 }) (va_Pc [.ref q_mo, .int p1, .int p2] (fun U => U.heap.size = sz ∧ va_P (dC, dI) vwCl (wwX7 q_mo q_mra q_mrA q_mrc q_mrk q_mpi q_mwc q_mwo q_mco q_mpo q_mky q_mla q_mcn q_mct k_mra k_mrA k_mrc k_mrk k_mpi k_mwc k_mwo k_mco k_mpo k_mky k_mla k_mcn k_mct mo_port mo_line mo_cycle mo_raised mo_idle mo_bad mo_glyph mo_fetched mo_rows mo_flags2 mo_enabled mo_a mo_x mo_y mo_s mo_flags mo_p mo_jammed mo_code mo_step mo_low mo_high mo_old mo_latest mo_cycles mo_stolen mo_interrupts mo_accesses f_mra f_mrA f_mrc f_mrk f_mpi f_mwc f_mwo f_mco f_mpo f_mky f_mla f_mcn f_mct) U.heap ∧ va_K (dC, dI) vwCl [(k_mra, .int), (k_mrA, .int), (k_mrc, .int), (k_mrk, .int), (k_mpi, .int), (k_mwc, .int), (k_mwo, .int), (k_mco, .int), (k_mpo, .int), (k_mky, .int), (k_mla, .int), (k_mcn, .int), (k_mct, .int)] U ∧ va_D (fun _ => True) (wwX7 q_mo q_mra q_mrA q_mrc q_mrk q_mpi q_mwc q_mwo q_mco q_mpo q_mky q_mla q_mcn q_mct k_mra k_mrA k_mrc k_mrk k_mpi k_mwc k_mwo k_mco k_mpo k_mky k_mla k_mcn k_mct mo_port mo_line mo_cycle mo_raised mo_idle mo_bad mo_glyph mo_fetched mo_rows mo_flags2 mo_enabled mo_a mo_x mo_y mo_s mo_flags mo_p mo_jammed mo_code mo_step mo_low mo_high mo_old mo_latest mo_cycles mo_stolen mo_interrupts mo_accesses f_mra f_mrA f_mrc f_mrk f_mpi f_mwc f_mwo f_mco f_mpo f_mky f_mla f_mcn f_mct))) (va_Qv (fun (u : Int32 × Int32 × Int32 × (Nat → Int32) × (Nat → Int32) × (Nat → Int32) × (Nat → Int32) × (Nat → Int32)) => u = fX7_set p1 p2 mo_raised mo_rows mo_enabled f_mpi f_mco f_mla f_mcn f_mct) (fun (u : Int32 × Int32 × Int32 × (Nat → Int32) × (Nat → Int32) × (Nat → Int32) × (Nat → Int32) × (Nat → Int32)) (t : State) => va_P (dC, dI) vwCl (wwX7 q_mo q_mra q_mrA q_mrc q_mrk q_mpi q_mwc q_mwo q_mco q_mpo q_mky q_mla q_mcn q_mct k_mra k_mrA k_mrc k_mrk k_mpi k_mwc k_mwo k_mco k_mpo k_mky k_mla k_mcn k_mct mo_port mo_line mo_cycle u.1 mo_idle mo_bad mo_glyph mo_fetched u.2.1 mo_flags2 u.2.2.1 mo_a mo_x mo_y mo_s mo_flags mo_p mo_jammed mo_code mo_step mo_low mo_high mo_old mo_latest mo_cycles mo_stolen mo_interrupts mo_accesses f_mra f_mrA f_mrc f_mrk u.2.2.2.1 f_mwc f_mwo u.2.2.2.2.1 f_mpo f_mky u.2.2.2.2.2.1 u.2.2.2.2.2.2.1 u.2.2.2.2.2.2.2) t.heap ∧ va_K (dC, dI) vwCl [(k_mra, .int), (k_mrA, .int), (k_mrc, .int), (k_mrk, .int), (k_mpi, .int), (k_mwc, .int), (k_mwo, .int), (k_mco, .int), (k_mpo, .int), (k_mky, .int), (k_mla, .int), (k_mcn, .int), (k_mct, .int)] t ∧ va_D (va_A (wwX7 q_mo q_mra q_mrA q_mrc q_mrk q_mpi q_mwc q_mwo q_mco q_mpo q_mky q_mla q_mcn q_mct k_mra k_mrA k_mrc k_mrk k_mpi k_mwc k_mwo k_mco k_mpo k_mky k_mla k_mcn k_mct mo_port mo_line mo_cycle mo_raised mo_idle mo_bad mo_glyph mo_fetched mo_rows mo_flags2 mo_enabled mo_a mo_x mo_y mo_s mo_flags mo_p mo_jammed mo_code mo_step mo_low mo_high mo_old mo_latest mo_cycles mo_stolen mo_interrupts mo_accesses f_mra f_mrA f_mrc f_mrk f_mpi f_mwc f_mwo f_mco f_mpo f_mky f_mla f_mcn f_mct) sz) (wwX7 q_mo q_mra q_mrA q_mrc q_mrk q_mpi q_mwc q_mwo q_mco q_mpo q_mky q_mla q_mcn q_mct k_mra k_mrA k_mrc k_mrk k_mpi k_mwc k_mwo k_mco k_mpo k_mky k_mla k_mcn k_mct mo_port mo_line mo_cycle u.1 mo_idle mo_bad mo_glyph mo_fetched u.2.1 mo_flags2 u.2.2.1 mo_a mo_x mo_y mo_s mo_flags mo_p mo_jammed mo_code mo_step mo_low mo_high mo_old mo_latest mo_cycles mo_stolen mo_interrupts mo_accesses f_mra f_mrA f_mrc f_mrk u.2.2.2.1 f_mwc f_mwo u.2.2.2.2.1 f_mpo f_mky u.2.2.2.2.2.1 u.2.2.2.2.2.2.1 u.2.2.2.2.2.2.2)) (va_A (wwX7 q_mo q_mra q_mrA q_mrc q_mrk q_mpi q_mwc q_mwo q_mco q_mpo q_mky q_mla q_mcn q_mct k_mra k_mrA k_mrc k_mrk k_mpi k_mwc k_mwo k_mco k_mpo k_mky k_mla k_mcn k_mct mo_port mo_line mo_cycle mo_raised mo_idle mo_bad mo_glyph mo_fetched mo_rows mo_flags2 mo_enabled mo_a mo_x mo_y mo_s mo_flags mo_p mo_jammed mo_code mo_step mo_low mo_high mo_old mo_latest mo_cycles mo_stolen mo_interrupts mo_accesses f_mra f_mrA f_mrc f_mrk f_mpi f_mwc f_mwo f_mco f_mpo f_mky f_mla f_mcn f_mct) sz)) 0 0 (va_A (wwX7 q_mo q_mra q_mrA q_mrc q_mrk q_mpi q_mwc q_mwo q_mco q_mpo q_mky q_mla q_mcn q_mct k_mra k_mrA k_mrc k_mrk k_mpi k_mwc k_mwo k_mco k_mpo k_mky k_mla k_mcn k_mct mo_port mo_line mo_cycle mo_raised mo_idle mo_bad mo_glyph mo_fetched mo_rows mo_flags2 mo_enabled mo_a mo_x mo_y mo_s mo_flags mo_p mo_jammed mo_code mo_step mo_low mo_high mo_old mo_latest mo_cycles mo_stolen mo_interrupts mo_accesses f_mra f_mrA f_mrc f_mrk f_mpi f_mwc f_mwo f_mco f_mpo f_mky f_mla f_mcn f_mct) sz) := by
  refine Met.ofW (cc := cX7_set) (maxL := 5) (ret := none) (by decide) rfl ?_
  intro p e s m args below meth c s₁ B hml hv
  obtain ⟨rfl, hsz, hP, hK, hD0⟩ := hv
  have hx := B.exec
  have hb := B.bytes
  have hr := B.returns
  have hts : ∀ w ∈ ub, w.before _ s = true := fun w h => atoms_spec (ws := uX7_set) B.pre w (List.mem_cons_of_mem _ h)
  have hown : s.vm.findClass RX7 = some m.cls := findClass_of_methodNamed B.named
  have hlocks := B.notSynchronized
  subst hsz
  have hD := hD0.self (sz := s.heap.size)
  generalize hAe : va_A (wwX7 q_mo q_mra q_mrA q_mrc q_mrk q_mpi q_mwc q_mwo q_mco q_mpo q_mky q_mla q_mcn q_mct k_mra k_mrA k_mrc k_mrk k_mpi k_mwc k_mwo k_mco k_mpo k_mky k_mla k_mcn k_mct mo_port mo_line mo_cycle mo_raised mo_idle mo_bad mo_glyph mo_fetched mo_rows mo_flags2 mo_enabled mo_a mo_x mo_y mo_s mo_flags mo_p mo_jammed mo_code mo_step mo_low mo_high mo_old mo_latest mo_cycles mo_stolen mo_interrupts mo_accesses f_mra f_mrA f_mrc f_mrk f_mpi f_mwc f_mwo f_mco f_mpo f_mky f_mla f_mcn f_mct) s.heap.size = A at hD ⊢
  have hA : ∀ q : Nat, s.heap.size ≤ q → A q := fun q h => by rw [← hAe]; exact Or.inr h
  have hS : va_S A s.heap s.heap [] := va_S.rf
  have hl := lv_entry ([.ref q_mo, .int p1, .int p2]) (n := 5) (Nat.le_of_ble_eq_true rfl)
  rw [lg_entry_eq]
  generalize (lg_sl ([.ref q_mo, .int p1, .int p2]) ++ List.replicate (5 - (lg_sl ([.ref q_mo, .int p1, .int p2])).length) Slot.unset).toArray = ls at hl ⊢
  have hl : lv_has ls 5 [(0, .ref q_mo), (1, .int p1), (2, .int p2)] := hl
  have hF := fX7_set.eq_1 p1 p2 mo_raised mo_rows mo_enabled f_mpi f_mco f_mla f_mcn f_mct
  refine lv_iload_n hx hb dX7_set_0 rfl (lv_at hl 1 rfl) ?_
  refine lv_bipush (v := 16) hx hb dX7_set_1 (by decide) ?_
  refine lv_irem hx hb dX7_set_3 (by decide) ?_
  refine lv_istore_n (lv' := [(3, .int (p1 - p1 / (16:Int32) * (16:Int32))), (0, .ref q_mo), (1, .int p1), (2, .int p2)]) hx hb dX7_set_4 rfl hl (by decide) rfl (fun ls hl => ?_)
  refine lv_iload_n hx hb dX7_set_5 rfl (lv_at hl 2 rfl) ?_
  refine lv_bipush (v := 64) hx hb dX7_set_6 (by decide) ?_
  refine lv_icmp_ge (tgt := 97) hx hb dX7_set_8 (by decide) (fun c_8 => ?_) (fun c_8 => ?_)
  · have hF := hF.trans (if_pos c_8)
    refine lv_iload_n hx hb dX7_set_97 rfl (lv_at hl 2 rfl) ?_
    refine lv_sipush (v := 128) hx hb dX7_set_98 (by decide) ?_
    refine lv_icmp_ge (tgt := 332) hx hb dX7_set_101 (by decide) (fun c_101 => ?_) (fun c_101 => ?_)
    · have hF := hF.trans (if_pos c_101)
      refine lv_iload_n hx hb dX7_set_332 rfl (lv_at hl 2 rfl) ?_
      refine lv_sipush (v := 152) hx hb dX7_set_333 (by decide) ?_
      refine lv_icmp_ge (tgt := 353) hx hb dX7_set_336 (by decide) (fun c_336 => ?_) (fun c_336 => ?_)
      · have hF := hF.trans (if_pos c_336)
        exact W.vret hx hb hr (fun t ht hW => ⟨⟨(mo_raised, mo_rows, mo_enabled, f_mpi, f_mco, f_mla, f_mcn, f_mct), rfl, hF.symm, by rw [ht]; exact hP, va_K.moved hW.alike hK, hD⟩, hS.F ht⟩) hS.2.2 dX7_set_353
      · have hF := hF.trans (if_neg c_336)
        refine lv_aload_n hx hb dX7_set_339 rfl (lv_at hl 1 rfl) ?_
        refine va_get (D := (dC, dI)) (ci := 7) (v := .ref q_mco) (C := RX7) (T := TX7) (N := 41) hx hb hts hiX7 hown hK hP 0 rfl rfl 15 (by decide) (hts _ kFX7_39) (fun _ h9 => h9) rfl dX7_set_340 ?_
        refine lv_iload_n hx hb dX7_set_343 rfl (lv_at hl 2 rfl) ?_
        refine lv_sipush (v := 128) hx hb dX7_set_344 (by decide) ?_
        refine lv_isub hx hb dX7_set_347 ?_
        refine lv_iload_n hx hb dX7_set_348 rfl (lv_at hl 3 rfl) ?_
        refine lv_bipush (v := 15) hx hb dX7_set_349 (by decide) ?_
        refine lv_iand hx hb dX7_set_351 ?_
        refine va_iast hx hb hK hP hD hS 8 7 rfl rfl (rg_offn 128 24 (Int32.not_lt.mpr c_101) c_336 (by decide)) dX7_set_352 (fun H locs hP hD hS => ?_)
        have hP : va_P (dC, dI) vwCl (wwX7 q_mo q_mra q_mrA q_mrc q_mrk q_mpi q_mwc q_mwo q_mco q_mpo q_mky q_mla q_mcn q_mct k_mra k_mrA k_mrc k_mrk k_mpi k_mwc k_mwo k_mco k_mpo k_mky k_mla k_mcn k_mct mo_port mo_line mo_cycle mo_raised mo_idle mo_bad mo_glyph mo_fetched mo_rows mo_flags2 mo_enabled mo_a mo_x mo_y mo_s mo_flags mo_p mo_jammed mo_code mo_step mo_low mo_high mo_old mo_latest mo_cycles mo_stolen mo_interrupts mo_accesses f_mra f_mrA f_mrc f_mrk f_mpi f_mwc f_mwo (upd f_mco (p1 - (128:Int32)).toNatClampNeg (p2 &&& (15:Int32))) f_mpo f_mky f_mla f_mcn f_mct) H := hP
        have hD : va_D A (wwX7 q_mo q_mra q_mrA q_mrc q_mrk q_mpi q_mwc q_mwo q_mco q_mpo q_mky q_mla q_mcn q_mct k_mra k_mrA k_mrc k_mrk k_mpi k_mwc k_mwo k_mco k_mpo k_mky k_mla k_mcn k_mct mo_port mo_line mo_cycle mo_raised mo_idle mo_bad mo_glyph mo_fetched mo_rows mo_flags2 mo_enabled mo_a mo_x mo_y mo_s mo_flags mo_p mo_jammed mo_code mo_step mo_low mo_high mo_old mo_latest mo_cycles mo_stolen mo_interrupts mo_accesses f_mra f_mrA f_mrc f_mrk f_mpi f_mwc f_mwo (upd f_mco (p1 - (128:Int32)).toNatClampNeg (p2 &&& (15:Int32))) f_mpo f_mky f_mla f_mcn f_mct) := hD
        exact W.vret hx hb hr (fun t ht hW => ⟨⟨(mo_raised, mo_rows, mo_enabled, f_mpi, (upd f_mco (p1 - (128:Int32)).toNatClampNeg (p2 &&& (15:Int32))), f_mla, f_mcn, f_mct), rfl, hF.symm, by rw [ht]; exact hP, va_K.moved hW.alike hK, hD⟩, hS.F ht⟩) hS.2.2 dX7_set_353
    · have hF := hF.trans (if_neg c_101)
      refine lv_iload_n hx hb dX7_set_104 rfl (lv_at hl 0 rfl) ?_
      refine lv_bipush (v := 14) hx hb dX7_set_105 (by decide) ?_
      refine vj_join (j := 122) (rest := []) (Hyp := fun z H locs => z = (if (p1 - p1 / (16:Int32) * (16:Int32)) < (14:Int32) then (((p1 - p1 / (16:Int32) * (16:Int32)) - (4:Int32)) / (2:Int32)) else ((p1 - p1 / (16:Int32) * (16:Int32)) - (14:Int32))) ∧ va_P (dC, dI) vwCl (wwX7 q_mo q_mra q_mrA q_mrc q_mrk q_mpi q_mwc q_mwo q_mco q_mpo q_mky q_mla q_mcn q_mct k_mra k_mrA k_mrc k_mrk k_mpi k_mwc k_mwo k_mco k_mpo k_mky k_mla k_mcn k_mct mo_port mo_line mo_cycle mo_raised mo_idle mo_bad mo_glyph mo_fetched mo_rows mo_flags2 mo_enabled mo_a mo_x mo_y mo_s mo_flags mo_p mo_jammed mo_code mo_step mo_low mo_high mo_old mo_latest mo_cycles mo_stolen mo_interrupts mo_accesses f_mra f_mrA f_mrc f_mrk f_mpi f_mwc f_mwo f_mco f_mpo f_mky f_mla f_mcn f_mct) H ∧ va_S A s.heap H locs) (fun z H locs hh => ?_) (fun J122 => ?_)
      · obtain ⟨hz, hP, hS⟩ := hh
        subst hz
        refine lv_istore (lv' := [(4, .int (if (p1 - p1 / (16:Int32) * (16:Int32)) < (14:Int32) then (((p1 - p1 / (16:Int32) * (16:Int32)) - (4:Int32)) / (2:Int32)) else ((p1 - p1 / (16:Int32) * (16:Int32)) - (14:Int32)))), (3, .int (p1 - p1 / (16:Int32) * (16:Int32))), (0, .ref q_mo), (1, .int p1), (2, .int p2)]) hx hb dX7_set_122 hl (by decide) rfl (fun ls hl => ?_)
        refine lv_iload_n hx hb dX7_set_124 rfl (lv_at hl 1 rfl) ?_
        refine lv_if_ne (tgt := 133) hx hb dX7_set_125 (by decide) (fun c_125 => ?_) (fun c_125 => ?_)
        · have hF := hF.trans (if_neg c_125)
          refine lv_iload_n hx hb dX7_set_133 rfl (lv_at hl 1 rfl) ?_
          refine lv_iconst (v := 4) hx hb dX7_set_134 (by decide) ?_
          refine lv_icmp_eq (tgt := 144) hx hb dX7_set_135 (by decide) (fun c_135 => ?_) (fun c_135 => ?_)
          · have hF := hF.trans (if_pos c_135)
            refine lv_aload_n hx hb dX7_set_144 rfl (lv_at hl 2 rfl) ?_
            refine va_get (D := (dC, dI)) (ci := 7) (v := .ref q_mla) (C := RX7) (T := TX7) (N := 41) hx hb hts hiX7 hown hK hP 0 rfl rfl 19 (by decide) (hts _ kFX7_48) (fun _ h9 => h9) rfl dX7_set_145 ?_
            refine lv_iload hx hb dX7_set_148 (lv_at hl 0 rfl) ?_
            refine lv_aload_n hx hb dX7_set_150 rfl (lv_at hl 2 rfl) ?_
            refine va_get (D := (dC, dI)) (ci := 7) (v := .ref q_mla) (C := RX7) (T := TX7) (N := 41) hx hb hts hiX7 hown hK hP 0 rfl rfl 19 (by decide) (hts _ kFX7_48) (fun _ h9 => h9) rfl dX7_set_151 ?_
            refine lv_iload hx hb dX7_set_154 (lv_at hl 0 rfl) ?_
            refine va_iald hx hb hK hP 11 10 rfl rfl (by rw [c_135]; unfold vp_in; decide) dX7_set_156 ?_
            refine lv_ldc (v := 65280) hx hb hown (hts _ kKX7_101) dX7_set_157 ?_
            refine lv_iand hx hb dX7_set_159 ?_
            refine lv_iload_n hx hb dX7_set_160 rfl (lv_at hl 4 rfl) ?_
            refine lv_iadd hx hb dX7_set_161 ?_
            refine va_iast hx hb hK hP hD hS 11 10 rfl rfl (by rw [c_135]; unfold vp_in; decide) dX7_set_162 (fun H locs hP hD hS => ?_)
            have hP : va_P (dC, dI) vwCl (wwX7 q_mo q_mra q_mrA q_mrc q_mrk q_mpi q_mwc q_mwo q_mco q_mpo q_mky q_mla q_mcn q_mct k_mra k_mrA k_mrc k_mrk k_mpi k_mwc k_mwo k_mco k_mpo k_mky k_mla k_mcn k_mct mo_port mo_line mo_cycle mo_raised mo_idle mo_bad mo_glyph mo_fetched mo_rows mo_flags2 mo_enabled mo_a mo_x mo_y mo_s mo_flags mo_p mo_jammed mo_code mo_step mo_low mo_high mo_old mo_latest mo_cycles mo_stolen mo_interrupts mo_accesses f_mra f_mrA f_mrc f_mrk f_mpi f_mwc f_mwo f_mco f_mpo f_mky (upd f_mla (if (p1 - p1 / (16:Int32) * (16:Int32)) < (14:Int32) then (((p1 - p1 / (16:Int32) * (16:Int32)) - (4:Int32)) / (2:Int32)) else ((p1 - p1 / (16:Int32) * (16:Int32)) - (14:Int32))).toNatClampNeg (((f_mla (if (p1 - p1 / (16:Int32) * (16:Int32)) < (14:Int32) then (((p1 - p1 / (16:Int32) * (16:Int32)) - (4:Int32)) / (2:Int32)) else ((p1 - p1 / (16:Int32) * (16:Int32)) - (14:Int32))).toNatClampNeg) &&& (65280:Int32)) + p2)) f_mcn f_mct) H := hP
            have hD : va_D A (wwX7 q_mo q_mra q_mrA q_mrc q_mrk q_mpi q_mwc q_mwo q_mco q_mpo q_mky q_mla q_mcn q_mct k_mra k_mrA k_mrc k_mrk k_mpi k_mwc k_mwo k_mco k_mpo k_mky k_mla k_mcn k_mct mo_port mo_line mo_cycle mo_raised mo_idle mo_bad mo_glyph mo_fetched mo_rows mo_flags2 mo_enabled mo_a mo_x mo_y mo_s mo_flags mo_p mo_jammed mo_code mo_step mo_low mo_high mo_old mo_latest mo_cycles mo_stolen mo_interrupts mo_accesses f_mra f_mrA f_mrc f_mrk f_mpi f_mwc f_mwo f_mco f_mpo f_mky (upd f_mla (if (p1 - p1 / (16:Int32) * (16:Int32)) < (14:Int32) then (((p1 - p1 / (16:Int32) * (16:Int32)) - (4:Int32)) / (2:Int32)) else ((p1 - p1 / (16:Int32) * (16:Int32)) - (14:Int32))).toNatClampNeg (((f_mla (if (p1 - p1 / (16:Int32) * (16:Int32)) < (14:Int32) then (((p1 - p1 / (16:Int32) * (16:Int32)) - (4:Int32)) / (2:Int32)) else ((p1 - p1 / (16:Int32) * (16:Int32)) - (14:Int32))).toNatClampNeg) &&& (65280:Int32)) + p2)) f_mcn f_mct) := hD
            refine lv_iload_n hx hb dX7_set_163 rfl (lv_at hl 1 rfl) ?_
            refine lv_iconst (v := 5) hx hb dX7_set_164 (by decide) ?_
            refine lv_icmp_eq (tgt := 174) hx hb dX7_set_165 (by decide) (fun c_165 => by exact absurd c_165 (by rw [c_135]; decide)) (fun c_165 => ?_)
            refine lv_iload_n hx hb dX7_set_168 rfl (lv_at hl 1 rfl) ?_
            refine lv_bipush (v := 7) hx hb dX7_set_169 (by decide) ?_
            refine lv_icmp_ne (tgt := 234) hx hb dX7_set_171 (by decide) (fun c_171 => ?_) (fun c_171 => by exact absurd c_171 (by rw [c_135]; decide))
            refine lv_iload_n hx hb dX7_set_234 rfl (lv_at hl 1 rfl) ?_
            refine lv_bipush (v := 13) hx hb dX7_set_235 (by decide) ?_
            refine lv_icmp_ne (tgt := 271) hx hb dX7_set_237 (by decide) (fun c_237 => ?_) (fun c_237 => by exact absurd c_237 (by rw [c_135]; decide))
            refine lv_iload_n hx hb dX7_set_271 rfl (lv_at hl 1 rfl) ?_
            refine lv_bipush (v := 14) hx hb dX7_set_272 (by decide) ?_
            refine lv_icmp_lt (tgt := 329) hx hb dX7_set_274 (by decide) (fun c_274 => ?_) (fun c_274 => by exact absurd (by rw [c_135]; decide) c_274)
            refine lv_goto (tgt := 353) hx hb dX7_set_329 (by decide) ?_
            exact W.vret hx hb hr (fun t ht hW => ⟨⟨(mo_raised, mo_rows, mo_enabled, f_mpi, f_mco, (upd f_mla (if (p1 - p1 / (16:Int32) * (16:Int32)) < (14:Int32) then (((p1 - p1 / (16:Int32) * (16:Int32)) - (4:Int32)) / (2:Int32)) else ((p1 - p1 / (16:Int32) * (16:Int32)) - (14:Int32))).toNatClampNeg (((f_mla (if (p1 - p1 / (16:Int32) * (16:Int32)) < (14:Int32) then (((p1 - p1 / (16:Int32) * (16:Int32)) - (4:Int32)) / (2:Int32)) else ((p1 - p1 / (16:Int32) * (16:Int32)) - (14:Int32))).toNatClampNeg) &&& (65280:Int32)) + p2)), f_mcn, f_mct), rfl, hF.symm, by rw [ht]; exact hP, va_K.moved hW.alike hK, hD⟩, hS.F ht⟩) hS.2.2 dX7_set_353
          · have hF := hF.trans (if_neg c_135)
            refine lv_iload_n hx hb dX7_set_138 rfl (lv_at hl 1 rfl) ?_
            refine lv_bipush (v := 6) hx hb dX7_set_139 (by decide) ?_
            refine lv_icmp_ne (tgt := 163) hx hb dX7_set_141 (by decide) (fun c_141 => ?_) (fun c_141 => ?_)
            · have hF := hF.trans (if_neg c_141)
              refine lv_iload_n hx hb dX7_set_163 rfl (lv_at hl 1 rfl) ?_
              refine lv_iconst (v := 5) hx hb dX7_set_164 (by decide) ?_
              refine lv_icmp_eq (tgt := 174) hx hb dX7_set_165 (by decide) (fun c_165 => ?_) (fun c_165 => ?_)
              · have hF := hF.trans (if_pos c_165)
                refine lv_aload_n hx hb dX7_set_174 rfl (lv_at hl 2 rfl) ?_
                refine va_get (D := (dC, dI)) (ci := 7) (v := .ref q_mla) (C := RX7) (T := TX7) (N := 41) hx hb hts hiX7 hown hK hP 0 rfl rfl 19 (by decide) (hts _ kFX7_48) (fun _ h9 => h9) rfl dX7_set_175 ?_
                refine lv_iload hx hb dX7_set_178 (lv_at hl 0 rfl) ?_
                refine lv_aload_n hx hb dX7_set_180 rfl (lv_at hl 2 rfl) ?_
                refine va_get (D := (dC, dI)) (ci := 7) (v := .ref q_mla) (C := RX7) (T := TX7) (N := 41) hx hb hts hiX7 hown hK hP 0 rfl rfl 19 (by decide) (hts _ kFX7_48) (fun _ h9 => h9) rfl dX7_set_181 ?_
                refine lv_iload hx hb dX7_set_184 (lv_at hl 0 rfl) ?_
                refine va_iald hx hb hK hP 11 10 rfl rfl (by rw [c_165]; unfold vp_in; decide) dX7_set_186 ?_
                refine lv_sipush (v := 255) hx hb dX7_set_187 (by decide) ?_
                refine lv_iand hx hb dX7_set_190 ?_
                refine lv_sipush (v := 256) hx hb dX7_set_191 (by decide) ?_
                refine lv_iload_n hx hb dX7_set_194 rfl (lv_at hl 4 rfl) ?_
                refine lv_imul hx hb dX7_set_195 ?_
                refine lv_iadd hx hb dX7_set_196 ?_
                refine va_iast hx hb hK hP hD hS 11 10 rfl rfl (by rw [c_165]; unfold vp_in; decide) dX7_set_197 (fun H locs hP hD hS => ?_)
                have hP : va_P (dC, dI) vwCl (wwX7 q_mo q_mra q_mrA q_mrc q_mrk q_mpi q_mwc q_mwo q_mco q_mpo q_mky q_mla q_mcn q_mct k_mra k_mrA k_mrc k_mrk k_mpi k_mwc k_mwo k_mco k_mpo k_mky k_mla k_mcn k_mct mo_port mo_line mo_cycle mo_raised mo_idle mo_bad mo_glyph mo_fetched mo_rows mo_flags2 mo_enabled mo_a mo_x mo_y mo_s mo_flags mo_p mo_jammed mo_code mo_step mo_low mo_high mo_old mo_latest mo_cycles mo_stolen mo_interrupts mo_accesses f_mra f_mrA f_mrc f_mrk f_mpi f_mwc f_mwo f_mco f_mpo f_mky (upd f_mla (if (p1 - p1 / (16:Int32) * (16:Int32)) < (14:Int32) then (((p1 - p1 / (16:Int32) * (16:Int32)) - (4:Int32)) / (2:Int32)) else ((p1 - p1 / (16:Int32) * (16:Int32)) - (14:Int32))).toNatClampNeg (((f_mla (if (p1 - p1 / (16:Int32) * (16:Int32)) < (14:Int32) then (((p1 - p1 / (16:Int32) * (16:Int32)) - (4:Int32)) / (2:Int32)) else ((p1 - p1 / (16:Int32) * (16:Int32)) - (14:Int32))).toNatClampNeg) &&& (255:Int32)) + ((256:Int32) * p2))) f_mcn f_mct) H := hP
                have hD : va_D A (wwX7 q_mo q_mra q_mrA q_mrc q_mrk q_mpi q_mwc q_mwo q_mco q_mpo q_mky q_mla q_mcn q_mct k_mra k_mrA k_mrc k_mrk k_mpi k_mwc k_mwo k_mco k_mpo k_mky k_mla k_mcn k_mct mo_port mo_line mo_cycle mo_raised mo_idle mo_bad mo_glyph mo_fetched mo_rows mo_flags2 mo_enabled mo_a mo_x mo_y mo_s mo_flags mo_p mo_jammed mo_code mo_step mo_low mo_high mo_old mo_latest mo_cycles mo_stolen mo_interrupts mo_accesses f_mra f_mrA f_mrc f_mrk f_mpi f_mwc f_mwo f_mco f_mpo f_mky (upd f_mla (if (p1 - p1 / (16:Int32) * (16:Int32)) < (14:Int32) then (((p1 - p1 / (16:Int32) * (16:Int32)) - (4:Int32)) / (2:Int32)) else ((p1 - p1 / (16:Int32) * (16:Int32)) - (14:Int32))).toNatClampNeg (((f_mla (if (p1 - p1 / (16:Int32) * (16:Int32)) < (14:Int32) then (((p1 - p1 / (16:Int32) * (16:Int32)) - (4:Int32)) / (2:Int32)) else ((p1 - p1 / (16:Int32) * (16:Int32)) - (14:Int32))).toNatClampNeg) &&& (255:Int32)) + ((256:Int32) * p2))) f_mcn f_mct) := hD
                refine lv_aload_n hx hb dX7_set_198 rfl (lv_at hl 2 rfl) ?_
                refine va_get (D := (dC, dI)) (ci := 7) (v := .ref q_mcn) (C := RX7) (T := TX7) (N := 41) hx hb hts hiX7 hown hK hP 0 rfl rfl 20 (by decide) (hts _ kFX7_51) (fun _ h9 => h9) rfl dX7_set_199 ?_
                refine lv_iload hx hb dX7_set_202 (lv_at hl 0 rfl) ?_
                refine lv_aload_n hx hb dX7_set_204 rfl (lv_at hl 2 rfl) ?_
                refine va_get (D := (dC, dI)) (ci := 7) (v := .ref q_mct) (C := RX7) (T := TX7) (N := 41) hx hb hts hiX7 hown hK hP 0 rfl rfl 21 (by decide) (hts _ kFX7_54) (fun _ h9 => h9) rfl dX7_set_205 ?_
                refine lv_iload hx hb dX7_set_208 (lv_at hl 0 rfl) ?_
                refine va_iald hx hb hK hP 13 12 rfl rfl (by rw [c_165]; unfold vp_in; decide) dX7_set_210 ?_
                refine lv_iconst (v := 1) hx hb dX7_set_211 (by decide) ?_
                refine lv_iand hx hb dX7_set_212 ?_
                refine vj_join (j := 233) (rest := [.int (if (p1 - p1 / (16:Int32) * (16:Int32)) < (14:Int32) then (((p1 - p1 / (16:Int32) * (16:Int32)) - (4:Int32)) / (2:Int32)) else ((p1 - p1 / (16:Int32) * (16:Int32)) - (14:Int32))), .ref q_mcn]) (Hyp := fun z H locs => z = (if ((f_mct (if (p1 - p1 / (16:Int32) * (16:Int32)) < (14:Int32) then (((p1 - p1 / (16:Int32) * (16:Int32)) - (4:Int32)) / (2:Int32)) else ((p1 - p1 / (16:Int32) * (16:Int32)) - (14:Int32))).toNatClampNeg) &&& (1:Int32)) = (0:Int32) then ((upd f_mla (if (p1 - p1 / (16:Int32) * (16:Int32)) < (14:Int32) then (((p1 - p1 / (16:Int32) * (16:Int32)) - (4:Int32)) / (2:Int32)) else ((p1 - p1 / (16:Int32) * (16:Int32)) - (14:Int32))).toNatClampNeg (((f_mla (if (p1 - p1 / (16:Int32) * (16:Int32)) < (14:Int32) then (((p1 - p1 / (16:Int32) * (16:Int32)) - (4:Int32)) / (2:Int32)) else ((p1 - p1 / (16:Int32) * (16:Int32)) - (14:Int32))).toNatClampNeg) &&& (255:Int32)) + ((256:Int32) * p2))) (if (p1 - p1 / (16:Int32) * (16:Int32)) < (14:Int32) then (((p1 - p1 / (16:Int32) * (16:Int32)) - (4:Int32)) / (2:Int32)) else ((p1 - p1 / (16:Int32) * (16:Int32)) - (14:Int32))).toNatClampNeg) else (f_mcn (if (p1 - p1 / (16:Int32) * (16:Int32)) < (14:Int32) then (((p1 - p1 / (16:Int32) * (16:Int32)) - (4:Int32)) / (2:Int32)) else ((p1 - p1 / (16:Int32) * (16:Int32)) - (14:Int32))).toNatClampNeg)) ∧ va_P (dC, dI) vwCl (wwX7 q_mo q_mra q_mrA q_mrc q_mrk q_mpi q_mwc q_mwo q_mco q_mpo q_mky q_mla q_mcn q_mct k_mra k_mrA k_mrc k_mrk k_mpi k_mwc k_mwo k_mco k_mpo k_mky k_mla k_mcn k_mct mo_port mo_line mo_cycle mo_raised mo_idle mo_bad mo_glyph mo_fetched mo_rows mo_flags2 mo_enabled mo_a mo_x mo_y mo_s mo_flags mo_p mo_jammed mo_code mo_step mo_low mo_high mo_old mo_latest mo_cycles mo_stolen mo_interrupts mo_accesses f_mra f_mrA f_mrc f_mrk f_mpi f_mwc f_mwo f_mco f_mpo f_mky (upd f_mla (if (p1 - p1 / (16:Int32) * (16:Int32)) < (14:Int32) then (((p1 - p1 / (16:Int32) * (16:Int32)) - (4:Int32)) / (2:Int32)) else ((p1 - p1 / (16:Int32) * (16:Int32)) - (14:Int32))).toNatClampNeg (((f_mla (if (p1 - p1 / (16:Int32) * (16:Int32)) < (14:Int32) then (((p1 - p1 / (16:Int32) * (16:Int32)) - (4:Int32)) / (2:Int32)) else ((p1 - p1 / (16:Int32) * (16:Int32)) - (14:Int32))).toNatClampNeg) &&& (255:Int32)) + ((256:Int32) * p2))) f_mcn f_mct) H ∧ va_S A s.heap H locs) (fun z H locs hh => ?_) (fun J233 => ?_)
                · obtain ⟨hz, hP, hS⟩ := hh
                  subst hz
                  refine va_iast hx hb hK hP hD hS 12 11 rfl rfl (by rw [c_165]; unfold vp_in; decide) dX7_set_233 (fun H locs hP hD hS => ?_)
                  have hP : va_P (dC, dI) vwCl (wwX7 q_mo q_mra q_mrA q_mrc q_mrk q_mpi q_mwc q_mwo q_mco q_mpo q_mky q_mla q_mcn q_mct k_mra k_mrA k_mrc k_mrk k_mpi k_mwc k_mwo k_mco k_mpo k_mky k_mla k_mcn k_mct mo_port mo_line mo_cycle mo_raised mo_idle mo_bad mo_glyph mo_fetched mo_rows mo_flags2 mo_enabled mo_a mo_x mo_y mo_s mo_flags mo_p mo_jammed mo_code mo_step mo_low mo_high mo_old mo_latest mo_cycles mo_stolen mo_interrupts mo_accesses f_mra f_mrA f_mrc f_mrk f_mpi f_mwc f_mwo f_mco f_mpo f_mky (upd f_mla (if (p1 - p1 / (16:Int32) * (16:Int32)) < (14:Int32) then (((p1 - p1 / (16:Int32) * (16:Int32)) - (4:Int32)) / (2:Int32)) else ((p1 - p1 / (16:Int32) * (16:Int32)) - (14:Int32))).toNatClampNeg (((f_mla (if (p1 - p1 / (16:Int32) * (16:Int32)) < (14:Int32) then (((p1 - p1 / (16:Int32) * (16:Int32)) - (4:Int32)) / (2:Int32)) else ((p1 - p1 / (16:Int32) * (16:Int32)) - (14:Int32))).toNatClampNeg) &&& (255:Int32)) + ((256:Int32) * p2))) (upd f_mcn (if (p1 - p1 / (16:Int32) * (16:Int32)) < (14:Int32) then (((p1 - p1 / (16:Int32) * (16:Int32)) - (4:Int32)) / (2:Int32)) else ((p1 - p1 / (16:Int32) * (16:Int32)) - (14:Int32))).toNatClampNeg (if ((f_mct (if (p1 - p1 / (16:Int32) * (16:Int32)) < (14:Int32) then (((p1 - p1 / (16:Int32) * (16:Int32)) - (4:Int32)) / (2:Int32)) else ((p1 - p1 / (16:Int32) * (16:Int32)) - (14:Int32))).toNatClampNeg) &&& (1:Int32)) = (0:Int32) then ((upd f_mla (if (p1 - p1 / (16:Int32) * (16:Int32)) < (14:Int32) then (((p1 - p1 / (16:Int32) * (16:Int32)) - (4:Int32)) / (2:Int32)) else ((p1 - p1 / (16:Int32) * (16:Int32)) - (14:Int32))).toNatClampNeg (((f_mla (if (p1 - p1 / (16:Int32) * (16:Int32)) < (14:Int32) then (((p1 - p1 / (16:Int32) * (16:Int32)) - (4:Int32)) / (2:Int32)) else ((p1 - p1 / (16:Int32) * (16:Int32)) - (14:Int32))).toNatClampNeg) &&& (255:Int32)) + ((256:Int32) * p2))) (if (p1 - p1 / (16:Int32) * (16:Int32)) < (14:Int32) then (((p1 - p1 / (16:Int32) * (16:Int32)) - (4:Int32)) / (2:Int32)) else ((p1 - p1 / (16:Int32) * (16:Int32)) - (14:Int32))).toNatClampNeg) else (f_mcn (if (p1 - p1 / (16:Int32) * (16:Int32)) < (14:Int32) then (((p1 - p1 / (16:Int32) * (16:Int32)) - (4:Int32)) / (2:Int32)) else ((p1 - p1 / (16:Int32) * (16:Int32)) - (14:Int32))).toNatClampNeg))) f_mct) H := hP
                  have hD : va_D A (wwX7 q_mo q_mra q_mrA q_mrc q_mrk q_mpi q_mwc q_mwo q_mco q_mpo q_mky q_mla q_mcn q_mct k_mra k_mrA k_mrc k_mrk k_mpi k_mwc k_mwo k_mco k_mpo k_mky k_mla k_mcn k_mct mo_port mo_line mo_cycle mo_raised mo_idle mo_bad mo_glyph mo_fetched mo_rows mo_flags2 mo_enabled mo_a mo_x mo_y mo_s mo_flags mo_p mo_jammed mo_code mo_step mo_low mo_high mo_old mo_latest mo_cycles mo_stolen mo_interrupts mo_accesses f_mra f_mrA f_mrc f_mrk f_mpi f_mwc f_mwo f_mco f_mpo f_mky (upd f_mla (if (p1 - p1 / (16:Int32) * (16:Int32)) < (14:Int32) then (((p1 - p1 / (16:Int32) * (16:Int32)) - (4:Int32)) / (2:Int32)) else ((p1 - p1 / (16:Int32) * (16:Int32)) - (14:Int32))).toNatClampNeg (((f_mla (if (p1 - p1 / (16:Int32) * (16:Int32)) < (14:Int32) then (((p1 - p1 / (16:Int32) * (16:Int32)) - (4:Int32)) / (2:Int32)) else ((p1 - p1 / (16:Int32) * (16:Int32)) - (14:Int32))).toNatClampNeg) &&& (255:Int32)) + ((256:Int32) * p2))) (upd f_mcn (if (p1 - p1 / (16:Int32) * (16:Int32)) < (14:Int32) then (((p1 - p1 / (16:Int32) * (16:Int32)) - (4:Int32)) / (2:Int32)) else ((p1 - p1 / (16:Int32) * (16:Int32)) - (14:Int32))).toNatClampNeg (if ((f_mct (if (p1 - p1 / (16:Int32) * (16:Int32)) < (14:Int32) then (((p1 - p1 / (16:Int32) * (16:Int32)) - (4:Int32)) / (2:Int32)) else ((p1 - p1 / (16:Int32) * (16:Int32)) - (14:Int32))).toNatClampNeg) &&& (1:Int32)) = (0:Int32) then ((upd f_mla (if (p1 - p1 / (16:Int32) * (16:Int32)) < (14:Int32) then (((p1 - p1 / (16:Int32) * (16:Int32)) - (4:Int32)) / (2:Int32)) else ((p1 - p1 / (16:Int32) * (16:Int32)) - (14:Int32))).toNatClampNeg (((f_mla (if (p1 - p1 / (16:Int32) * (16:Int32)) < (14:Int32) then (((p1 - p1 / (16:Int32) * (16:Int32)) - (4:Int32)) / (2:Int32)) else ((p1 - p1 / (16:Int32) * (16:Int32)) - (14:Int32))).toNatClampNeg) &&& (255:Int32)) + ((256:Int32) * p2))) (if (p1 - p1 / (16:Int32) * (16:Int32)) < (14:Int32) then (((p1 - p1 / (16:Int32) * (16:Int32)) - (4:Int32)) / (2:Int32)) else ((p1 - p1 / (16:Int32) * (16:Int32)) - (14:Int32))).toNatClampNeg) else (f_mcn (if (p1 - p1 / (16:Int32) * (16:Int32)) < (14:Int32) then (((p1 - p1 / (16:Int32) * (16:Int32)) - (4:Int32)) / (2:Int32)) else ((p1 - p1 / (16:Int32) * (16:Int32)) - (14:Int32))).toNatClampNeg))) f_mct) := hD
                  refine lv_iload_n hx hb dX7_set_234 rfl (lv_at hl 1 rfl) ?_
                  refine lv_bipush (v := 13) hx hb dX7_set_235 (by decide) ?_
                  refine lv_icmp_ne (tgt := 271) hx hb dX7_set_237 (by decide) (fun c_237 => ?_) (fun c_237 => by exact absurd c_237 (by rw [c_165]; decide))
                  refine lv_iload_n hx hb dX7_set_271 rfl (lv_at hl 1 rfl) ?_
                  refine lv_bipush (v := 14) hx hb dX7_set_272 (by decide) ?_
                  refine lv_icmp_lt (tgt := 329) hx hb dX7_set_274 (by decide) (fun c_274 => ?_) (fun c_274 => by exact absurd (by rw [c_165]; decide) c_274)
                  refine lv_goto (tgt := 353) hx hb dX7_set_329 (by decide) ?_
                  exact W.vret hx hb hr (fun t ht hW => ⟨⟨(mo_raised, mo_rows, mo_enabled, f_mpi, f_mco, (upd f_mla (if (p1 - p1 / (16:Int32) * (16:Int32)) < (14:Int32) then (((p1 - p1 / (16:Int32) * (16:Int32)) - (4:Int32)) / (2:Int32)) else ((p1 - p1 / (16:Int32) * (16:Int32)) - (14:Int32))).toNatClampNeg (((f_mla (if (p1 - p1 / (16:Int32) * (16:Int32)) < (14:Int32) then (((p1 - p1 / (16:Int32) * (16:Int32)) - (4:Int32)) / (2:Int32)) else ((p1 - p1 / (16:Int32) * (16:Int32)) - (14:Int32))).toNatClampNeg) &&& (255:Int32)) + ((256:Int32) * p2))), (upd f_mcn (if (p1 - p1 / (16:Int32) * (16:Int32)) < (14:Int32) then (((p1 - p1 / (16:Int32) * (16:Int32)) - (4:Int32)) / (2:Int32)) else ((p1 - p1 / (16:Int32) * (16:Int32)) - (14:Int32))).toNatClampNeg (if ((f_mct (if (p1 - p1 / (16:Int32) * (16:Int32)) < (14:Int32) then (((p1 - p1 / (16:Int32) * (16:Int32)) - (4:Int32)) / (2:Int32)) else ((p1 - p1 / (16:Int32) * (16:Int32)) - (14:Int32))).toNatClampNeg) &&& (1:Int32)) = (0:Int32) then ((upd f_mla (if (p1 - p1 / (16:Int32) * (16:Int32)) < (14:Int32) then (((p1 - p1 / (16:Int32) * (16:Int32)) - (4:Int32)) / (2:Int32)) else ((p1 - p1 / (16:Int32) * (16:Int32)) - (14:Int32))).toNatClampNeg (((f_mla (if (p1 - p1 / (16:Int32) * (16:Int32)) < (14:Int32) then (((p1 - p1 / (16:Int32) * (16:Int32)) - (4:Int32)) / (2:Int32)) else ((p1 - p1 / (16:Int32) * (16:Int32)) - (14:Int32))).toNatClampNeg) &&& (255:Int32)) + ((256:Int32) * p2))) (if (p1 - p1 / (16:Int32) * (16:Int32)) < (14:Int32) then (((p1 - p1 / (16:Int32) * (16:Int32)) - (4:Int32)) / (2:Int32)) else ((p1 - p1 / (16:Int32) * (16:Int32)) - (14:Int32))).toNatClampNeg) else (f_mcn (if (p1 - p1 / (16:Int32) * (16:Int32)) < (14:Int32) then (((p1 - p1 / (16:Int32) * (16:Int32)) - (4:Int32)) / (2:Int32)) else ((p1 - p1 / (16:Int32) * (16:Int32)) - (14:Int32))).toNatClampNeg))), f_mct), rfl, hF.symm, by rw [ht]; exact hP, va_K.moved hW.alike hK, hD⟩, hS.F ht⟩) hS.2.2 dX7_set_353
                · refine lv_if_ne (tgt := 226) hx hb dX7_set_213 (by decide) (fun c_213 => ?_) (fun c_213 => ?_)
                  · refine lv_aload_n hx hb dX7_set_226 rfl (lv_at hl 2 rfl) ?_
                    refine va_get (D := (dC, dI)) (ci := 7) (v := .ref q_mcn) (C := RX7) (T := TX7) (N := 41) hx hb hts hiX7 hown hK hP 0 rfl rfl 20 (by decide) (hts _ kFX7_51) (fun _ h9 => h9) rfl dX7_set_227 ?_
                    refine lv_iload hx hb dX7_set_230 (lv_at hl 0 rfl) ?_
                    refine va_iald hx hb hK hP 12 11 rfl rfl (by rw [c_165]; unfold vp_in; decide) dX7_set_232 ?_
                    exact J233 _ _ _ ⟨by rw [if_neg c_213], hP, hS⟩
                  · refine lv_aload_n hx hb dX7_set_216 rfl (lv_at hl 2 rfl) ?_
                    refine va_get (D := (dC, dI)) (ci := 7) (v := .ref q_mla) (C := RX7) (T := TX7) (N := 41) hx hb hts hiX7 hown hK hP 0 rfl rfl 19 (by decide) (hts _ kFX7_48) (fun _ h9 => h9) rfl dX7_set_217 ?_
                    refine lv_iload hx hb dX7_set_220 (lv_at hl 0 rfl) ?_
                    refine va_iald hx hb hK hP 11 10 rfl rfl (by rw [c_165]; unfold vp_in; decide) dX7_set_222 ?_
                    refine lv_goto (tgt := 233) hx hb dX7_set_223 (by decide) ?_
                    exact J233 _ _ _ ⟨by rw [if_pos c_213], hP, hS⟩
              · have hF := hF.trans (if_neg c_165)
                refine lv_iload_n hx hb dX7_set_168 rfl (lv_at hl 1 rfl) ?_
                refine lv_bipush (v := 7) hx hb dX7_set_169 (by decide) ?_
                refine lv_icmp_ne (tgt := 234) hx hb dX7_set_171 (by decide) (fun c_171 => ?_) (fun c_171 => ?_)
                · have hF := hF.trans (if_neg c_171)
                  refine lv_iload_n hx hb dX7_set_234 rfl (lv_at hl 1 rfl) ?_
                  refine lv_bipush (v := 13) hx hb dX7_set_235 (by decide) ?_
                  refine lv_icmp_ne (tgt := 271) hx hb dX7_set_237 (by decide) (fun c_237 => ?_) (fun c_237 => ?_)
                  · have hF := hF.trans (if_neg c_237)
                    refine lv_iload_n hx hb dX7_set_271 rfl (lv_at hl 1 rfl) ?_
                    refine lv_bipush (v := 14) hx hb dX7_set_272 (by decide) ?_
                    refine lv_icmp_lt (tgt := 329) hx hb dX7_set_274 (by decide) (fun c_274 => ?_) (fun c_274 => ?_)
                    · have hF := hF.trans (if_pos c_274)
                      refine lv_goto (tgt := 353) hx hb dX7_set_329 (by decide) ?_
                      exact W.vret hx hb hr (fun t ht hW => ⟨⟨(mo_raised, mo_rows, mo_enabled, f_mpi, f_mco, f_mla, f_mcn, f_mct), rfl, hF.symm, by rw [ht]; exact hP, va_K.moved hW.alike hK, hD⟩, hS.F ht⟩) hS.2.2 dX7_set_353
                    · have hF := hF.trans (if_neg c_274)
                      refine lv_aload_n hx hb dX7_set_277 rfl (lv_at hl 2 rfl) ?_
                      refine va_get (D := (dC, dI)) (ci := 7) (v := .ref q_mct) (C := RX7) (T := TX7) (N := 41) hx hb hts hiX7 hown hK hP 0 rfl rfl 21 (by decide) (hts _ kFX7_54) (fun _ h9 => h9) rfl dX7_set_278 ?_
                      refine lv_iload hx hb dX7_set_281 (lv_at hl 0 rfl) ?_
                      refine lv_iload_n hx hb dX7_set_283 rfl (lv_at hl 4 rfl) ?_
                      refine lv_iload hx hb dX7_set_284 (lv_at hl 0 rfl) ?_
                      refine vj_join (j := 296) (rest := [.int p2, .int (if (p1 - p1 / (16:Int32) * (16:Int32)) < (14:Int32) then (((p1 - p1 / (16:Int32) * (16:Int32)) - (4:Int32)) / (2:Int32)) else ((p1 - p1 / (16:Int32) * (16:Int32)) - (14:Int32))), .ref q_mct]) (Hyp := fun z H locs => z = (if (if (p1 - p1 / (16:Int32) * (16:Int32)) < (14:Int32) then (((p1 - p1 / (16:Int32) * (16:Int32)) - (4:Int32)) / (2:Int32)) else ((p1 - p1 / (16:Int32) * (16:Int32)) - (14:Int32))) = (0:Int32) then (9:Int32) else (73:Int32)) ∧ va_P (dC, dI) vwCl (wwX7 q_mo q_mra q_mrA q_mrc q_mrk q_mpi q_mwc q_mwo q_mco q_mpo q_mky q_mla q_mcn q_mct k_mra k_mrA k_mrc k_mrk k_mpi k_mwc k_mwo k_mco k_mpo k_mky k_mla k_mcn k_mct mo_port mo_line mo_cycle mo_raised mo_idle mo_bad mo_glyph mo_fetched mo_rows mo_flags2 mo_enabled mo_a mo_x mo_y mo_s mo_flags mo_p mo_jammed mo_code mo_step mo_low mo_high mo_old mo_latest mo_cycles mo_stolen mo_interrupts mo_accesses f_mra f_mrA f_mrc f_mrk f_mpi f_mwc f_mwo f_mco f_mpo f_mky f_mla f_mcn f_mct) H ∧ va_S A s.heap H locs) (fun z H locs hh => ?_) (fun J296 => ?_)
                      · obtain ⟨hz, hP, hS⟩ := hh
                        subst hz
                        refine lv_iand hx hb dX7_set_296 ?_
                        refine va_iast hx hb hK hP hD hS 13 12 rfl rfl (by rw [if_neg c_274]; exact rg_r14 ho c_274) dX7_set_297 (fun H locs hP hD hS => ?_)
                        have hP : va_P (dC, dI) vwCl (wwX7 q_mo q_mra q_mrA q_mrc q_mrk q_mpi q_mwc q_mwo q_mco q_mpo q_mky q_mla q_mcn q_mct k_mra k_mrA k_mrc k_mrk k_mpi k_mwc k_mwo k_mco k_mpo k_mky k_mla k_mcn k_mct mo_port mo_line mo_cycle mo_raised mo_idle mo_bad mo_glyph mo_fetched mo_rows mo_flags2 mo_enabled mo_a mo_x mo_y mo_s mo_flags mo_p mo_jammed mo_code mo_step mo_low mo_high mo_old mo_latest mo_cycles mo_stolen mo_interrupts mo_accesses f_mra f_mrA f_mrc f_mrk f_mpi f_mwc f_mwo f_mco f_mpo f_mky f_mla f_mcn (upd f_mct (if (p1 - p1 / (16:Int32) * (16:Int32)) < (14:Int32) then (((p1 - p1 / (16:Int32) * (16:Int32)) - (4:Int32)) / (2:Int32)) else ((p1 - p1 / (16:Int32) * (16:Int32)) - (14:Int32))).toNatClampNeg (p2 &&& (if (if (p1 - p1 / (16:Int32) * (16:Int32)) < (14:Int32) then (((p1 - p1 / (16:Int32) * (16:Int32)) - (4:Int32)) / (2:Int32)) else ((p1 - p1 / (16:Int32) * (16:Int32)) - (14:Int32))) = (0:Int32) then (9:Int32) else (73:Int32))))) H := hP
                        have hD : va_D A (wwX7 q_mo q_mra q_mrA q_mrc q_mrk q_mpi q_mwc q_mwo q_mco q_mpo q_mky q_mla q_mcn q_mct k_mra k_mrA k_mrc k_mrk k_mpi k_mwc k_mwo k_mco k_mpo k_mky k_mla k_mcn k_mct mo_port mo_line mo_cycle mo_raised mo_idle mo_bad mo_glyph mo_fetched mo_rows mo_flags2 mo_enabled mo_a mo_x mo_y mo_s mo_flags mo_p mo_jammed mo_code mo_step mo_low mo_high mo_old mo_latest mo_cycles mo_stolen mo_interrupts mo_accesses f_mra f_mrA f_mrc f_mrk f_mpi f_mwc f_mwo f_mco f_mpo f_mky f_mla f_mcn (upd f_mct (if (p1 - p1 / (16:Int32) * (16:Int32)) < (14:Int32) then (((p1 - p1 / (16:Int32) * (16:Int32)) - (4:Int32)) / (2:Int32)) else ((p1 - p1 / (16:Int32) * (16:Int32)) - (14:Int32))).toNatClampNeg (p2 &&& (if (if (p1 - p1 / (16:Int32) * (16:Int32)) < (14:Int32) then (((p1 - p1 / (16:Int32) * (16:Int32)) - (4:Int32)) / (2:Int32)) else ((p1 - p1 / (16:Int32) * (16:Int32)) - (14:Int32))) = (0:Int32) then (9:Int32) else (73:Int32))))) := hD
                        refine lv_aload_n hx hb dX7_set_298 rfl (lv_at hl 2 rfl) ?_
                        refine va_get (D := (dC, dI)) (ci := 7) (v := .ref q_mcn) (C := RX7) (T := TX7) (N := 41) hx hb hts hiX7 hown hK hP 0 rfl rfl 20 (by decide) (hts _ kFX7_51) (fun _ h9 => h9) rfl dX7_set_299 ?_
                        refine lv_iload hx hb dX7_set_302 (lv_at hl 0 rfl) ?_
                        refine lv_iload_n hx hb dX7_set_304 rfl (lv_at hl 4 rfl) ?_
                        refine lv_bipush (v := 16) hx hb dX7_set_305 (by decide) ?_
                        refine lv_iand hx hb dX7_set_307 ?_
                        refine vj_join (j := 328) (rest := [.int (if (p1 - p1 / (16:Int32) * (16:Int32)) < (14:Int32) then (((p1 - p1 / (16:Int32) * (16:Int32)) - (4:Int32)) / (2:Int32)) else ((p1 - p1 / (16:Int32) * (16:Int32)) - (14:Int32))), .ref q_mcn]) (Hyp := fun z H locs => z = (if (p2 &&& (16:Int32)) = (0:Int32) then (f_mcn (if (p1 - p1 / (16:Int32) * (16:Int32)) < (14:Int32) then (((p1 - p1 / (16:Int32) * (16:Int32)) - (4:Int32)) / (2:Int32)) else ((p1 - p1 / (16:Int32) * (16:Int32)) - (14:Int32))).toNatClampNeg) else (f_mla (if (p1 - p1 / (16:Int32) * (16:Int32)) < (14:Int32) then (((p1 - p1 / (16:Int32) * (16:Int32)) - (4:Int32)) / (2:Int32)) else ((p1 - p1 / (16:Int32) * (16:Int32)) - (14:Int32))).toNatClampNeg)) ∧ va_P (dC, dI) vwCl (wwX7 q_mo q_mra q_mrA q_mrc q_mrk q_mpi q_mwc q_mwo q_mco q_mpo q_mky q_mla q_mcn q_mct k_mra k_mrA k_mrc k_mrk k_mpi k_mwc k_mwo k_mco k_mpo k_mky k_mla k_mcn k_mct mo_port mo_line mo_cycle mo_raised mo_idle mo_bad mo_glyph mo_fetched mo_rows mo_flags2 mo_enabled mo_a mo_x mo_y mo_s mo_flags mo_p mo_jammed mo_code mo_step mo_low mo_high mo_old mo_latest mo_cycles mo_stolen mo_interrupts mo_accesses f_mra f_mrA f_mrc f_mrk f_mpi f_mwc f_mwo f_mco f_mpo f_mky f_mla f_mcn (upd f_mct (if (p1 - p1 / (16:Int32) * (16:Int32)) < (14:Int32) then (((p1 - p1 / (16:Int32) * (16:Int32)) - (4:Int32)) / (2:Int32)) else ((p1 - p1 / (16:Int32) * (16:Int32)) - (14:Int32))).toNatClampNeg (p2 &&& (if (if (p1 - p1 / (16:Int32) * (16:Int32)) < (14:Int32) then (((p1 - p1 / (16:Int32) * (16:Int32)) - (4:Int32)) / (2:Int32)) else ((p1 - p1 / (16:Int32) * (16:Int32)) - (14:Int32))) = (0:Int32) then (9:Int32) else (73:Int32))))) H ∧ va_S A s.heap H locs) (fun z H locs hh => ?_) (fun J328 => ?_)
                        · obtain ⟨hz, hP, hS⟩ := hh
                          subst hz
                          refine va_iast hx hb hK hP hD hS 12 11 rfl rfl (by rw [if_neg c_274]; exact rg_r14 ho c_274) dX7_set_328 (fun H locs hP hD hS => ?_)
                          have hP : va_P (dC, dI) vwCl (wwX7 q_mo q_mra q_mrA q_mrc q_mrk q_mpi q_mwc q_mwo q_mco q_mpo q_mky q_mla q_mcn q_mct k_mra k_mrA k_mrc k_mrk k_mpi k_mwc k_mwo k_mco k_mpo k_mky k_mla k_mcn k_mct mo_port mo_line mo_cycle mo_raised mo_idle mo_bad mo_glyph mo_fetched mo_rows mo_flags2 mo_enabled mo_a mo_x mo_y mo_s mo_flags mo_p mo_jammed mo_code mo_step mo_low mo_high mo_old mo_latest mo_cycles mo_stolen mo_interrupts mo_accesses f_mra f_mrA f_mrc f_mrk f_mpi f_mwc f_mwo f_mco f_mpo f_mky f_mla (upd f_mcn (if (p1 - p1 / (16:Int32) * (16:Int32)) < (14:Int32) then (((p1 - p1 / (16:Int32) * (16:Int32)) - (4:Int32)) / (2:Int32)) else ((p1 - p1 / (16:Int32) * (16:Int32)) - (14:Int32))).toNatClampNeg (if (p2 &&& (16:Int32)) = (0:Int32) then (f_mcn (if (p1 - p1 / (16:Int32) * (16:Int32)) < (14:Int32) then (((p1 - p1 / (16:Int32) * (16:Int32)) - (4:Int32)) / (2:Int32)) else ((p1 - p1 / (16:Int32) * (16:Int32)) - (14:Int32))).toNatClampNeg) else (f_mla (if (p1 - p1 / (16:Int32) * (16:Int32)) < (14:Int32) then (((p1 - p1 / (16:Int32) * (16:Int32)) - (4:Int32)) / (2:Int32)) else ((p1 - p1 / (16:Int32) * (16:Int32)) - (14:Int32))).toNatClampNeg))) (upd f_mct (if (p1 - p1 / (16:Int32) * (16:Int32)) < (14:Int32) then (((p1 - p1 / (16:Int32) * (16:Int32)) - (4:Int32)) / (2:Int32)) else ((p1 - p1 / (16:Int32) * (16:Int32)) - (14:Int32))).toNatClampNeg (p2 &&& (if (if (p1 - p1 / (16:Int32) * (16:Int32)) < (14:Int32) then (((p1 - p1 / (16:Int32) * (16:Int32)) - (4:Int32)) / (2:Int32)) else ((p1 - p1 / (16:Int32) * (16:Int32)) - (14:Int32))) = (0:Int32) then (9:Int32) else (73:Int32))))) H := hP
                          have hD : va_D A (wwX7 q_mo q_mra q_mrA q_mrc q_mrk q_mpi q_mwc q_mwo q_mco q_mpo q_mky q_mla q_mcn q_mct k_mra k_mrA k_mrc k_mrk k_mpi k_mwc k_mwo k_mco k_mpo k_mky k_mla k_mcn k_mct mo_port mo_line mo_cycle mo_raised mo_idle mo_bad mo_glyph mo_fetched mo_rows mo_flags2 mo_enabled mo_a mo_x mo_y mo_s mo_flags mo_p mo_jammed mo_code mo_step mo_low mo_high mo_old mo_latest mo_cycles mo_stolen mo_interrupts mo_accesses f_mra f_mrA f_mrc f_mrk f_mpi f_mwc f_mwo f_mco f_mpo f_mky f_mla (upd f_mcn (if (p1 - p1 / (16:Int32) * (16:Int32)) < (14:Int32) then (((p1 - p1 / (16:Int32) * (16:Int32)) - (4:Int32)) / (2:Int32)) else ((p1 - p1 / (16:Int32) * (16:Int32)) - (14:Int32))).toNatClampNeg (if (p2 &&& (16:Int32)) = (0:Int32) then (f_mcn (if (p1 - p1 / (16:Int32) * (16:Int32)) < (14:Int32) then (((p1 - p1 / (16:Int32) * (16:Int32)) - (4:Int32)) / (2:Int32)) else ((p1 - p1 / (16:Int32) * (16:Int32)) - (14:Int32))).toNatClampNeg) else (f_mla (if (p1 - p1 / (16:Int32) * (16:Int32)) < (14:Int32) then (((p1 - p1 / (16:Int32) * (16:Int32)) - (4:Int32)) / (2:Int32)) else ((p1 - p1 / (16:Int32) * (16:Int32)) - (14:Int32))).toNatClampNeg))) (upd f_mct (if (p1 - p1 / (16:Int32) * (16:Int32)) < (14:Int32) then (((p1 - p1 / (16:Int32) * (16:Int32)) - (4:Int32)) / (2:Int32)) else ((p1 - p1 / (16:Int32) * (16:Int32)) - (14:Int32))).toNatClampNeg (p2 &&& (if (if (p1 - p1 / (16:Int32) * (16:Int32)) < (14:Int32) then (((p1 - p1 / (16:Int32) * (16:Int32)) - (4:Int32)) / (2:Int32)) else ((p1 - p1 / (16:Int32) * (16:Int32)) - (14:Int32))) = (0:Int32) then (9:Int32) else (73:Int32))))) := hD
                          refine lv_goto (tgt := 353) hx hb dX7_set_329 (by decide) ?_
                          exact W.vret hx hb hr (fun t ht hW => ⟨⟨(mo_raised, mo_rows, mo_enabled, f_mpi, f_mco, f_mla, (upd f_mcn (if (p1 - p1 / (16:Int32) * (16:Int32)) < (14:Int32) then (((p1 - p1 / (16:Int32) * (16:Int32)) - (4:Int32)) / (2:Int32)) else ((p1 - p1 / (16:Int32) * (16:Int32)) - (14:Int32))).toNatClampNeg (if (p2 &&& (16:Int32)) = (0:Int32) then (f_mcn (if (p1 - p1 / (16:Int32) * (16:Int32)) < (14:Int32) then (((p1 - p1 / (16:Int32) * (16:Int32)) - (4:Int32)) / (2:Int32)) else ((p1 - p1 / (16:Int32) * (16:Int32)) - (14:Int32))).toNatClampNeg) else (f_mla (if (p1 - p1 / (16:Int32) * (16:Int32)) < (14:Int32) then (((p1 - p1 / (16:Int32) * (16:Int32)) - (4:Int32)) / (2:Int32)) else ((p1 - p1 / (16:Int32) * (16:Int32)) - (14:Int32))).toNatClampNeg))), (upd f_mct (if (p1 - p1 / (16:Int32) * (16:Int32)) < (14:Int32) then (((p1 - p1 / (16:Int32) * (16:Int32)) - (4:Int32)) / (2:Int32)) else ((p1 - p1 / (16:Int32) * (16:Int32)) - (14:Int32))).toNatClampNeg (p2 &&& (if (if (p1 - p1 / (16:Int32) * (16:Int32)) < (14:Int32) then (((p1 - p1 / (16:Int32) * (16:Int32)) - (4:Int32)) / (2:Int32)) else ((p1 - p1 / (16:Int32) * (16:Int32)) - (14:Int32))) = (0:Int32) then (9:Int32) else (73:Int32))))), rfl, hF.symm, by rw [ht]; exact hP, va_K.moved hW.alike hK, hD⟩, hS.F ht⟩) hS.2.2 dX7_set_353
                        · refine lv_if_eq (tgt := 321) hx hb dX7_set_308 (by decide) (fun c_308 => ?_) (fun c_308 => ?_)
                          · refine lv_aload_n hx hb dX7_set_321 rfl (lv_at hl 2 rfl) ?_
                            refine va_get (D := (dC, dI)) (ci := 7) (v := .ref q_mcn) (C := RX7) (T := TX7) (N := 41) hx hb hts hiX7 hown hK hP 0 rfl rfl 20 (by decide) (hts _ kFX7_51) (fun _ h9 => h9) rfl dX7_set_322 ?_
                            refine lv_iload hx hb dX7_set_325 (lv_at hl 0 rfl) ?_
                            refine va_iald hx hb hK hP 12 11 rfl rfl (by rw [if_neg c_274]; exact rg_r14 ho c_274) dX7_set_327 ?_
                            exact J328 _ _ _ ⟨by rw [if_pos c_308], hP, hS⟩
                          · refine lv_aload_n hx hb dX7_set_311 rfl (lv_at hl 2 rfl) ?_
                            refine va_get (D := (dC, dI)) (ci := 7) (v := .ref q_mla) (C := RX7) (T := TX7) (N := 41) hx hb hts hiX7 hown hK hP 0 rfl rfl 19 (by decide) (hts _ kFX7_48) (fun _ h9 => h9) rfl dX7_set_312 ?_
                            refine lv_iload hx hb dX7_set_315 (lv_at hl 0 rfl) ?_
                            refine va_iald hx hb hK hP 11 10 rfl rfl (by rw [if_neg c_274]; exact rg_r14 ho c_274) dX7_set_317 ?_
                            refine lv_goto (tgt := 328) hx hb dX7_set_318 (by decide) ?_
                            exact J328 _ _ _ ⟨by rw [if_neg c_308], hP, hS⟩
                      · refine lv_if_ne (tgt := 294) hx hb dX7_set_286 (by decide) (fun c_286 => ?_) (fun c_286 => ?_)
                        · refine lv_bipush (v := 73) hx hb dX7_set_294 (by decide) ?_
                          exact J296 _ _ _ ⟨by rw [if_neg c_286], hP, hS⟩
                        · refine lv_bipush (v := 9) hx hb dX7_set_289 (by decide) ?_
                          refine lv_goto (tgt := 296) hx hb dX7_set_291 (by decide) ?_
                          exact J296 _ _ _ ⟨by rw [if_pos c_286], hP, hS⟩
                  · have hF := hF.trans (if_pos c_237)
                    refine lv_aload_n hx hb dX7_set_240 rfl (lv_at hl 2 rfl) ?_
                    refine lv_iload_n hx hb dX7_set_241 rfl (lv_at hl 4 rfl) ?_
                    refine lv_bipush (v := 127) hx hb dX7_set_242 (by decide) ?_
                    refine vj_join (j := 268) (rest := [.ref q_mo]) (Hyp := fun z H locs => z = (if p2 ≤ (127:Int32) then (mo_enabled &&& ((p2 &&& (3:Int32)) ^^^ (-1:Int32))) else (mo_enabled ||| (p2 &&& (3:Int32)))) ∧ va_P (dC, dI) vwCl (wwX7 q_mo q_mra q_mrA q_mrc q_mrk q_mpi q_mwc q_mwo q_mco q_mpo q_mky q_mla q_mcn q_mct k_mra k_mrA k_mrc k_mrk k_mpi k_mwc k_mwo k_mco k_mpo k_mky k_mla k_mcn k_mct mo_port mo_line mo_cycle mo_raised mo_idle mo_bad mo_glyph mo_fetched mo_rows mo_flags2 mo_enabled mo_a mo_x mo_y mo_s mo_flags mo_p mo_jammed mo_code mo_step mo_low mo_high mo_old mo_latest mo_cycles mo_stolen mo_interrupts mo_accesses f_mra f_mrA f_mrc f_mrk f_mpi f_mwc f_mwo f_mco f_mpo f_mky f_mla f_mcn f_mct) H ∧ va_S A s.heap H locs) (fun z H locs hh => ?_) (fun J268 => ?_)
                    · obtain ⟨hz, hP, hS⟩ := hh
                      subst hz
                      refine va_put (D := (dC, dI)) (ci := 7) (v := .int (if p2 ≤ (127:Int32) then (mo_enabled &&& ((p2 &&& (3:Int32)) ^^^ (-1:Int32))) else (mo_enabled ||| (p2 &&& (3:Int32))))) (ty := .int) (C := RX7) (T := TX7) (N := 41) hx hb hts hiX7 tyX7 tyX7_ok nmX7 hown hK hP hD hS 0 rfl rfl 23 (by decide) (hts _ kFX7_98) (fun _ h9 => h9) rfl (by decide +kernel) rfl rfl (Nat.le_of_ble_eq_true rfl) dX7_set_268 (fun H locs hP hD hS => ?_)
                      have hP : va_P (dC, dI) vwCl (wwX7 q_mo q_mra q_mrA q_mrc q_mrk q_mpi q_mwc q_mwo q_mco q_mpo q_mky q_mla q_mcn q_mct k_mra k_mrA k_mrc k_mrk k_mpi k_mwc k_mwo k_mco k_mpo k_mky k_mla k_mcn k_mct mo_port mo_line mo_cycle mo_raised mo_idle mo_bad mo_glyph mo_fetched mo_rows mo_flags2 (if p2 ≤ (127:Int32) then (mo_enabled &&& ((p2 &&& (3:Int32)) ^^^ (-1:Int32))) else (mo_enabled ||| (p2 &&& (3:Int32)))) mo_a mo_x mo_y mo_s mo_flags mo_p mo_jammed mo_code mo_step mo_low mo_high mo_old mo_latest mo_cycles mo_stolen mo_interrupts mo_accesses f_mra f_mrA f_mrc f_mrk f_mpi f_mwc f_mwo f_mco f_mpo f_mky f_mla f_mcn f_mct) H := hP
                      have hD : va_D A (wwX7 q_mo q_mra q_mrA q_mrc q_mrk q_mpi q_mwc q_mwo q_mco q_mpo q_mky q_mla q_mcn q_mct k_mra k_mrA k_mrc k_mrk k_mpi k_mwc k_mwo k_mco k_mpo k_mky k_mla k_mcn k_mct mo_port mo_line mo_cycle mo_raised mo_idle mo_bad mo_glyph mo_fetched mo_rows mo_flags2 (if p2 ≤ (127:Int32) then (mo_enabled &&& ((p2 &&& (3:Int32)) ^^^ (-1:Int32))) else (mo_enabled ||| (p2 &&& (3:Int32)))) mo_a mo_x mo_y mo_s mo_flags mo_p mo_jammed mo_code mo_step mo_low mo_high mo_old mo_latest mo_cycles mo_stolen mo_interrupts mo_accesses f_mra f_mrA f_mrc f_mrk f_mpi f_mwc f_mwo f_mco f_mpo f_mky f_mla f_mcn f_mct) := hD
                      refine lv_iload_n hx hb dX7_set_271 rfl (lv_at hl 1 rfl) ?_
                      refine lv_bipush (v := 14) hx hb dX7_set_272 (by decide) ?_
                      refine lv_icmp_lt (tgt := 329) hx hb dX7_set_274 (by decide) (fun c_274 => ?_) (fun c_274 => by exact absurd (by rw [c_237]; decide) c_274)
                      refine lv_goto (tgt := 353) hx hb dX7_set_329 (by decide) ?_
                      exact W.vret hx hb hr (fun t ht hW => ⟨⟨(mo_raised, mo_rows, (if p2 ≤ (127:Int32) then (mo_enabled &&& ((p2 &&& (3:Int32)) ^^^ (-1:Int32))) else (mo_enabled ||| (p2 &&& (3:Int32)))), f_mpi, f_mco, f_mla, f_mcn, f_mct), rfl, hF.symm, by rw [ht]; exact hP, va_K.moved hW.alike hK, hD⟩, hS.F ht⟩) hS.2.2 dX7_set_353
                    · refine lv_icmp_le (tgt := 258) hx hb dX7_set_244 (by decide) (fun c_244 => ?_) (fun c_244 => ?_)
                      · refine lv_aload_n hx hb dX7_set_258 rfl (lv_at hl 2 rfl) ?_
                        refine va_get (D := (dC, dI)) (ci := 7) (v := .int mo_enabled) (C := RX7) (T := TX7) (N := 41) hx hb hts hiX7 hown hK hP 0 rfl rfl 23 (by decide) (hts _ kFX7_98) (fun _ h9 => h9) rfl dX7_set_259 ?_
                        refine lv_iload_n hx hb dX7_set_262 rfl (lv_at hl 4 rfl) ?_
                        refine lv_iconst (v := 3) hx hb dX7_set_263 (by decide) ?_
                        refine lv_iand hx hb dX7_set_264 ?_
                        refine lv_iconst (v := -1) hx hb dX7_set_265 (by decide) ?_
                        refine lv_ixor hx hb dX7_set_266 ?_
                        refine lv_iand hx hb dX7_set_267 ?_
                        exact J268 _ _ _ ⟨by rw [if_pos c_244], hP, hS⟩
                      · refine lv_aload_n hx hb dX7_set_247 rfl (lv_at hl 2 rfl) ?_
                        refine va_get (D := (dC, dI)) (ci := 7) (v := .int mo_enabled) (C := RX7) (T := TX7) (N := 41) hx hb hts hiX7 hown hK hP 0 rfl rfl 23 (by decide) (hts _ kFX7_98) (fun _ h9 => h9) rfl dX7_set_248 ?_
                        refine lv_iload_n hx hb dX7_set_251 rfl (lv_at hl 4 rfl) ?_
                        refine lv_iconst (v := 3) hx hb dX7_set_252 (by decide) ?_
                        refine lv_iand hx hb dX7_set_253 ?_
                        refine lv_ior hx hb dX7_set_254 ?_
                        refine lv_goto (tgt := 268) hx hb dX7_set_255 (by decide) ?_
                        exact J268 _ _ _ ⟨by rw [if_neg c_244], hP, hS⟩
                · have hF := hF.trans (if_pos c_171)
                  refine lv_aload_n hx hb dX7_set_174 rfl (lv_at hl 2 rfl) ?_
                  refine va_get (D := (dC, dI)) (ci := 7) (v := .ref q_mla) (C := RX7) (T := TX7) (N := 41) hx hb hts hiX7 hown hK hP 0 rfl rfl 19 (by decide) (hts _ kFX7_48) (fun _ h9 => h9) rfl dX7_set_175 ?_
                  refine lv_iload hx hb dX7_set_178 (lv_at hl 0 rfl) ?_
                  refine lv_aload_n hx hb dX7_set_180 rfl (lv_at hl 2 rfl) ?_
                  refine va_get (D := (dC, dI)) (ci := 7) (v := .ref q_mla) (C := RX7) (T := TX7) (N := 41) hx hb hts hiX7 hown hK hP 0 rfl rfl 19 (by decide) (hts _ kFX7_48) (fun _ h9 => h9) rfl dX7_set_181 ?_
                  refine lv_iload hx hb dX7_set_184 (lv_at hl 0 rfl) ?_
                  refine va_iald hx hb hK hP 11 10 rfl rfl (by rw [c_171]; unfold vp_in; decide) dX7_set_186 ?_
                  refine lv_sipush (v := 255) hx hb dX7_set_187 (by decide) ?_
                  refine lv_iand hx hb dX7_set_190 ?_
                  refine lv_sipush (v := 256) hx hb dX7_set_191 (by decide) ?_
                  refine lv_iload_n hx hb dX7_set_194 rfl (lv_at hl 4 rfl) ?_
                  refine lv_imul hx hb dX7_set_195 ?_
                  refine lv_iadd hx hb dX7_set_196 ?_
                  refine va_iast hx hb hK hP hD hS 11 10 rfl rfl (by rw [c_171]; unfold vp_in; decide) dX7_set_197 (fun H locs hP hD hS => ?_)
                  have hP : va_P (dC, dI) vwCl (wwX7 q_mo q_mra q_mrA q_mrc q_mrk q_mpi q_mwc q_mwo q_mco q_mpo q_mky q_mla q_mcn q_mct k_mra k_mrA k_mrc k_mrk k_mpi k_mwc k_mwo k_mco k_mpo k_mky k_mla k_mcn k_mct mo_port mo_line mo_cycle mo_raised mo_idle mo_bad mo_glyph mo_fetched mo_rows mo_flags2 mo_enabled mo_a mo_x mo_y mo_s mo_flags mo_p mo_jammed mo_code mo_step mo_low mo_high mo_old mo_latest mo_cycles mo_stolen mo_interrupts mo_accesses f_mra f_mrA f_mrc f_mrk f_mpi f_mwc f_mwo f_mco f_mpo f_mky (upd f_mla (if (p1 - p1 / (16:Int32) * (16:Int32)) < (14:Int32) then (((p1 - p1 / (16:Int32) * (16:Int32)) - (4:Int32)) / (2:Int32)) else ((p1 - p1 / (16:Int32) * (16:Int32)) - (14:Int32))).toNatClampNeg (((f_mla (if (p1 - p1 / (16:Int32) * (16:Int32)) < (14:Int32) then (((p1 - p1 / (16:Int32) * (16:Int32)) - (4:Int32)) / (2:Int32)) else ((p1 - p1 / (16:Int32) * (16:Int32)) - (14:Int32))).toNatClampNeg) &&& (255:Int32)) + ((256:Int32) * p2))) f_mcn f_mct) H := hP
                  have hD : va_D A (wwX7 q_mo q_mra q_mrA q_mrc q_mrk q_mpi q_mwc q_mwo q_mco q_mpo q_mky q_mla q_mcn q_mct k_mra k_mrA k_mrc k_mrk k_mpi k_mwc k_mwo k_mco k_mpo k_mky k_mla k_mcn k_mct mo_port mo_line mo_cycle mo_raised mo_idle mo_bad mo_glyph mo_fetched mo_rows mo_flags2 mo_enabled mo_a mo_x mo_y mo_s mo_flags mo_p mo_jammed mo_code mo_step mo_low mo_high mo_old mo_latest mo_cycles mo_stolen mo_interrupts mo_accesses f_mra f_mrA f_mrc f_mrk f_mpi f_mwc f_mwo f_mco f_mpo f_mky (upd f_mla (if (p1 - p1 / (16:Int32) * (16:Int32)) < (14:Int32) then (((p1 - p1 / (16:Int32) * (16:Int32)) - (4:Int32)) / (2:Int32)) else ((p1 - p1 / (16:Int32) * (16:Int32)) - (14:Int32))).toNatClampNeg (((f_mla (if (p1 - p1 / (16:Int32) * (16:Int32)) < (14:Int32) then (((p1 - p1 / (16:Int32) * (16:Int32)) - (4:Int32)) / (2:Int32)) else ((p1 - p1 / (16:Int32) * (16:Int32)) - (14:Int32))).toNatClampNeg) &&& (255:Int32)) + ((256:Int32) * p2))) f_mcn f_mct) := hD
                  refine lv_aload_n hx hb dX7_set_198 rfl (lv_at hl 2 rfl) ?_
                  refine va_get (D := (dC, dI)) (ci := 7) (v := .ref q_mcn) (C := RX7) (T := TX7) (N := 41) hx hb hts hiX7 hown hK hP 0 rfl rfl 20 (by decide) (hts _ kFX7_51) (fun _ h9 => h9) rfl dX7_set_199 ?_
                  refine lv_iload hx hb dX7_set_202 (lv_at hl 0 rfl) ?_
                  refine lv_aload_n hx hb dX7_set_204 rfl (lv_at hl 2 rfl) ?_
                  refine va_get (D := (dC, dI)) (ci := 7) (v := .ref q_mct) (C := RX7) (T := TX7) (N := 41) hx hb hts hiX7 hown hK hP 0 rfl rfl 21 (by decide) (hts _ kFX7_54) (fun _ h9 => h9) rfl dX7_set_205 ?_
                  refine lv_iload hx hb dX7_set_208 (lv_at hl 0 rfl) ?_
                  refine va_iald hx hb hK hP 13 12 rfl rfl (by rw [c_171]; unfold vp_in; decide) dX7_set_210 ?_
                  refine lv_iconst (v := 1) hx hb dX7_set_211 (by decide) ?_
                  refine lv_iand hx hb dX7_set_212 ?_
                  refine vj_join (j := 233) (rest := [.int (if (p1 - p1 / (16:Int32) * (16:Int32)) < (14:Int32) then (((p1 - p1 / (16:Int32) * (16:Int32)) - (4:Int32)) / (2:Int32)) else ((p1 - p1 / (16:Int32) * (16:Int32)) - (14:Int32))), .ref q_mcn]) (Hyp := fun z H locs => z = (if ((f_mct (if (p1 - p1 / (16:Int32) * (16:Int32)) < (14:Int32) then (((p1 - p1 / (16:Int32) * (16:Int32)) - (4:Int32)) / (2:Int32)) else ((p1 - p1 / (16:Int32) * (16:Int32)) - (14:Int32))).toNatClampNeg) &&& (1:Int32)) = (0:Int32) then ((upd f_mla (if (p1 - p1 / (16:Int32) * (16:Int32)) < (14:Int32) then (((p1 - p1 / (16:Int32) * (16:Int32)) - (4:Int32)) / (2:Int32)) else ((p1 - p1 / (16:Int32) * (16:Int32)) - (14:Int32))).toNatClampNeg (((f_mla (if (p1 - p1 / (16:Int32) * (16:Int32)) < (14:Int32) then (((p1 - p1 / (16:Int32) * (16:Int32)) - (4:Int32)) / (2:Int32)) else ((p1 - p1 / (16:Int32) * (16:Int32)) - (14:Int32))).toNatClampNeg) &&& (255:Int32)) + ((256:Int32) * p2))) (if (p1 - p1 / (16:Int32) * (16:Int32)) < (14:Int32) then (((p1 - p1 / (16:Int32) * (16:Int32)) - (4:Int32)) / (2:Int32)) else ((p1 - p1 / (16:Int32) * (16:Int32)) - (14:Int32))).toNatClampNeg) else (f_mcn (if (p1 - p1 / (16:Int32) * (16:Int32)) < (14:Int32) then (((p1 - p1 / (16:Int32) * (16:Int32)) - (4:Int32)) / (2:Int32)) else ((p1 - p1 / (16:Int32) * (16:Int32)) - (14:Int32))).toNatClampNeg)) ∧ va_P (dC, dI) vwCl (wwX7 q_mo q_mra q_mrA q_mrc q_mrk q_mpi q_mwc q_mwo q_mco q_mpo q_mky q_mla q_mcn q_mct k_mra k_mrA k_mrc k_mrk k_mpi k_mwc k_mwo k_mco k_mpo k_mky k_mla k_mcn k_mct mo_port mo_line mo_cycle mo_raised mo_idle mo_bad mo_glyph mo_fetched mo_rows mo_flags2 mo_enabled mo_a mo_x mo_y mo_s mo_flags mo_p mo_jammed mo_code mo_step mo_low mo_high mo_old mo_latest mo_cycles mo_stolen mo_interrupts mo_accesses f_mra f_mrA f_mrc f_mrk f_mpi f_mwc f_mwo f_mco f_mpo f_mky (upd f_mla (if (p1 - p1 / (16:Int32) * (16:Int32)) < (14:Int32) then (((p1 - p1 / (16:Int32) * (16:Int32)) - (4:Int32)) / (2:Int32)) else ((p1 - p1 / (16:Int32) * (16:Int32)) - (14:Int32))).toNatClampNeg (((f_mla (if (p1 - p1 / (16:Int32) * (16:Int32)) < (14:Int32) then (((p1 - p1 / (16:Int32) * (16:Int32)) - (4:Int32)) / (2:Int32)) else ((p1 - p1 / (16:Int32) * (16:Int32)) - (14:Int32))).toNatClampNeg) &&& (255:Int32)) + ((256:Int32) * p2))) f_mcn f_mct) H ∧ va_S A s.heap H locs) (fun z H locs hh => ?_) (fun J233 => ?_)
                  · obtain ⟨hz, hP, hS⟩ := hh
                    subst hz
                    refine va_iast hx hb hK hP hD hS 12 11 rfl rfl (by rw [c_171]; unfold vp_in; decide) dX7_set_233 (fun H locs hP hD hS => ?_)
                    have hP : va_P (dC, dI) vwCl (wwX7 q_mo q_mra q_mrA q_mrc q_mrk q_mpi q_mwc q_mwo q_mco q_mpo q_mky q_mla q_mcn q_mct k_mra k_mrA k_mrc k_mrk k_mpi k_mwc k_mwo k_mco k_mpo k_mky k_mla k_mcn k_mct mo_port mo_line mo_cycle mo_raised mo_idle mo_bad mo_glyph mo_fetched mo_rows mo_flags2 mo_enabled mo_a mo_x mo_y mo_s mo_flags mo_p mo_jammed mo_code mo_step mo_low mo_high mo_old mo_latest mo_cycles mo_stolen mo_interrupts mo_accesses f_mra f_mrA f_mrc f_mrk f_mpi f_mwc f_mwo f_mco f_mpo f_mky (upd f_mla (if (p1 - p1 / (16:Int32) * (16:Int32)) < (14:Int32) then (((p1 - p1 / (16:Int32) * (16:Int32)) - (4:Int32)) / (2:Int32)) else ((p1 - p1 / (16:Int32) * (16:Int32)) - (14:Int32))).toNatClampNeg (((f_mla (if (p1 - p1 / (16:Int32) * (16:Int32)) < (14:Int32) then (((p1 - p1 / (16:Int32) * (16:Int32)) - (4:Int32)) / (2:Int32)) else ((p1 - p1 / (16:Int32) * (16:Int32)) - (14:Int32))).toNatClampNeg) &&& (255:Int32)) + ((256:Int32) * p2))) (upd f_mcn (if (p1 - p1 / (16:Int32) * (16:Int32)) < (14:Int32) then (((p1 - p1 / (16:Int32) * (16:Int32)) - (4:Int32)) / (2:Int32)) else ((p1 - p1 / (16:Int32) * (16:Int32)) - (14:Int32))).toNatClampNeg (if ((f_mct (if (p1 - p1 / (16:Int32) * (16:Int32)) < (14:Int32) then (((p1 - p1 / (16:Int32) * (16:Int32)) - (4:Int32)) / (2:Int32)) else ((p1 - p1 / (16:Int32) * (16:Int32)) - (14:Int32))).toNatClampNeg) &&& (1:Int32)) = (0:Int32) then ((upd f_mla (if (p1 - p1 / (16:Int32) * (16:Int32)) < (14:Int32) then (((p1 - p1 / (16:Int32) * (16:Int32)) - (4:Int32)) / (2:Int32)) else ((p1 - p1 / (16:Int32) * (16:Int32)) - (14:Int32))).toNatClampNeg (((f_mla (if (p1 - p1 / (16:Int32) * (16:Int32)) < (14:Int32) then (((p1 - p1 / (16:Int32) * (16:Int32)) - (4:Int32)) / (2:Int32)) else ((p1 - p1 / (16:Int32) * (16:Int32)) - (14:Int32))).toNatClampNeg) &&& (255:Int32)) + ((256:Int32) * p2))) (if (p1 - p1 / (16:Int32) * (16:Int32)) < (14:Int32) then (((p1 - p1 / (16:Int32) * (16:Int32)) - (4:Int32)) / (2:Int32)) else ((p1 - p1 / (16:Int32) * (16:Int32)) - (14:Int32))).toNatClampNeg) else (f_mcn (if (p1 - p1 / (16:Int32) * (16:Int32)) < (14:Int32) then (((p1 - p1 / (16:Int32) * (16:Int32)) - (4:Int32)) / (2:Int32)) else ((p1 - p1 / (16:Int32) * (16:Int32)) - (14:Int32))).toNatClampNeg))) f_mct) H := hP
                    have hD : va_D A (wwX7 q_mo q_mra q_mrA q_mrc q_mrk q_mpi q_mwc q_mwo q_mco q_mpo q_mky q_mla q_mcn q_mct k_mra k_mrA k_mrc k_mrk k_mpi k_mwc k_mwo k_mco k_mpo k_mky k_mla k_mcn k_mct mo_port mo_line mo_cycle mo_raised mo_idle mo_bad mo_glyph mo_fetched mo_rows mo_flags2 mo_enabled mo_a mo_x mo_y mo_s mo_flags mo_p mo_jammed mo_code mo_step mo_low mo_high mo_old mo_latest mo_cycles mo_stolen mo_interrupts mo_accesses f_mra f_mrA f_mrc f_mrk f_mpi f_mwc f_mwo f_mco f_mpo f_mky (upd f_mla (if (p1 - p1 / (16:Int32) * (16:Int32)) < (14:Int32) then (((p1 - p1 / (16:Int32) * (16:Int32)) - (4:Int32)) / (2:Int32)) else ((p1 - p1 / (16:Int32) * (16:Int32)) - (14:Int32))).toNatClampNeg (((f_mla (if (p1 - p1 / (16:Int32) * (16:Int32)) < (14:Int32) then (((p1 - p1 / (16:Int32) * (16:Int32)) - (4:Int32)) / (2:Int32)) else ((p1 - p1 / (16:Int32) * (16:Int32)) - (14:Int32))).toNatClampNeg) &&& (255:Int32)) + ((256:Int32) * p2))) (upd f_mcn (if (p1 - p1 / (16:Int32) * (16:Int32)) < (14:Int32) then (((p1 - p1 / (16:Int32) * (16:Int32)) - (4:Int32)) / (2:Int32)) else ((p1 - p1 / (16:Int32) * (16:Int32)) - (14:Int32))).toNatClampNeg (if ((f_mct (if (p1 - p1 / (16:Int32) * (16:Int32)) < (14:Int32) then (((p1 - p1 / (16:Int32) * (16:Int32)) - (4:Int32)) / (2:Int32)) else ((p1 - p1 / (16:Int32) * (16:Int32)) - (14:Int32))).toNatClampNeg) &&& (1:Int32)) = (0:Int32) then ((upd f_mla (if (p1 - p1 / (16:Int32) * (16:Int32)) < (14:Int32) then (((p1 - p1 / (16:Int32) * (16:Int32)) - (4:Int32)) / (2:Int32)) else ((p1 - p1 / (16:Int32) * (16:Int32)) - (14:Int32))).toNatClampNeg (((f_mla (if (p1 - p1 / (16:Int32) * (16:Int32)) < (14:Int32) then (((p1 - p1 / (16:Int32) * (16:Int32)) - (4:Int32)) / (2:Int32)) else ((p1 - p1 / (16:Int32) * (16:Int32)) - (14:Int32))).toNatClampNeg) &&& (255:Int32)) + ((256:Int32) * p2))) (if (p1 - p1 / (16:Int32) * (16:Int32)) < (14:Int32) then (((p1 - p1 / (16:Int32) * (16:Int32)) - (4:Int32)) / (2:Int32)) else ((p1 - p1 / (16:Int32) * (16:Int32)) - (14:Int32))).toNatClampNeg) else (f_mcn (if (p1 - p1 / (16:Int32) * (16:Int32)) < (14:Int32) then (((p1 - p1 / (16:Int32) * (16:Int32)) - (4:Int32)) / (2:Int32)) else ((p1 - p1 / (16:Int32) * (16:Int32)) - (14:Int32))).toNatClampNeg))) f_mct) := hD
                    refine lv_iload_n hx hb dX7_set_234 rfl (lv_at hl 1 rfl) ?_
                    refine lv_bipush (v := 13) hx hb dX7_set_235 (by decide) ?_
                    refine lv_icmp_ne (tgt := 271) hx hb dX7_set_237 (by decide) (fun c_237 => ?_) (fun c_237 => by exact absurd c_237 (by rw [c_171]; decide))
                    refine lv_iload_n hx hb dX7_set_271 rfl (lv_at hl 1 rfl) ?_
                    refine lv_bipush (v := 14) hx hb dX7_set_272 (by decide) ?_
                    refine lv_icmp_lt (tgt := 329) hx hb dX7_set_274 (by decide) (fun c_274 => ?_) (fun c_274 => by exact absurd (by rw [c_171]; decide) c_274)
                    refine lv_goto (tgt := 353) hx hb dX7_set_329 (by decide) ?_
                    exact W.vret hx hb hr (fun t ht hW => ⟨⟨(mo_raised, mo_rows, mo_enabled, f_mpi, f_mco, (upd f_mla (if (p1 - p1 / (16:Int32) * (16:Int32)) < (14:Int32) then (((p1 - p1 / (16:Int32) * (16:Int32)) - (4:Int32)) / (2:Int32)) else ((p1 - p1 / (16:Int32) * (16:Int32)) - (14:Int32))).toNatClampNeg (((f_mla (if (p1 - p1 / (16:Int32) * (16:Int32)) < (14:Int32) then (((p1 - p1 / (16:Int32) * (16:Int32)) - (4:Int32)) / (2:Int32)) else ((p1 - p1 / (16:Int32) * (16:Int32)) - (14:Int32))).toNatClampNeg) &&& (255:Int32)) + ((256:Int32) * p2))), (upd f_mcn (if (p1 - p1 / (16:Int32) * (16:Int32)) < (14:Int32) then (((p1 - p1 / (16:Int32) * (16:Int32)) - (4:Int32)) / (2:Int32)) else ((p1 - p1 / (16:Int32) * (16:Int32)) - (14:Int32))).toNatClampNeg (if ((f_mct (if (p1 - p1 / (16:Int32) * (16:Int32)) < (14:Int32) then (((p1 - p1 / (16:Int32) * (16:Int32)) - (4:Int32)) / (2:Int32)) else ((p1 - p1 / (16:Int32) * (16:Int32)) - (14:Int32))).toNatClampNeg) &&& (1:Int32)) = (0:Int32) then ((upd f_mla (if (p1 - p1 / (16:Int32) * (16:Int32)) < (14:Int32) then (((p1 - p1 / (16:Int32) * (16:Int32)) - (4:Int32)) / (2:Int32)) else ((p1 - p1 / (16:Int32) * (16:Int32)) - (14:Int32))).toNatClampNeg (((f_mla (if (p1 - p1 / (16:Int32) * (16:Int32)) < (14:Int32) then (((p1 - p1 / (16:Int32) * (16:Int32)) - (4:Int32)) / (2:Int32)) else ((p1 - p1 / (16:Int32) * (16:Int32)) - (14:Int32))).toNatClampNeg) &&& (255:Int32)) + ((256:Int32) * p2))) (if (p1 - p1 / (16:Int32) * (16:Int32)) < (14:Int32) then (((p1 - p1 / (16:Int32) * (16:Int32)) - (4:Int32)) / (2:Int32)) else ((p1 - p1 / (16:Int32) * (16:Int32)) - (14:Int32))).toNatClampNeg) else (f_mcn (if (p1 - p1 / (16:Int32) * (16:Int32)) < (14:Int32) then (((p1 - p1 / (16:Int32) * (16:Int32)) - (4:Int32)) / (2:Int32)) else ((p1 - p1 / (16:Int32) * (16:Int32)) - (14:Int32))).toNatClampNeg))), f_mct), rfl, hF.symm, by rw [ht]; exact hP, va_K.moved hW.alike hK, hD⟩, hS.F ht⟩) hS.2.2 dX7_set_353
                  · refine lv_if_ne (tgt := 226) hx hb dX7_set_213 (by decide) (fun c_213 => ?_) (fun c_213 => ?_)
                    · refine lv_aload_n hx hb dX7_set_226 rfl (lv_at hl 2 rfl) ?_
                      refine va_get (D := (dC, dI)) (ci := 7) (v := .ref q_mcn) (C := RX7) (T := TX7) (N := 41) hx hb hts hiX7 hown hK hP 0 rfl rfl 20 (by decide) (hts _ kFX7_51) (fun _ h9 => h9) rfl dX7_set_227 ?_
                      refine lv_iload hx hb dX7_set_230 (lv_at hl 0 rfl) ?_
                      refine va_iald hx hb hK hP 12 11 rfl rfl (by rw [c_171]; unfold vp_in; decide) dX7_set_232 ?_
                      exact J233 _ _ _ ⟨by rw [if_neg c_213], hP, hS⟩
                    · refine lv_aload_n hx hb dX7_set_216 rfl (lv_at hl 2 rfl) ?_
                      refine va_get (D := (dC, dI)) (ci := 7) (v := .ref q_mla) (C := RX7) (T := TX7) (N := 41) hx hb hts hiX7 hown hK hP 0 rfl rfl 19 (by decide) (hts _ kFX7_48) (fun _ h9 => h9) rfl dX7_set_217 ?_
                      refine lv_iload hx hb dX7_set_220 (lv_at hl 0 rfl) ?_
                      refine va_iald hx hb hK hP 11 10 rfl rfl (by rw [c_171]; unfold vp_in; decide) dX7_set_222 ?_
                      refine lv_goto (tgt := 233) hx hb dX7_set_223 (by decide) ?_
                      exact J233 _ _ _ ⟨by rw [if_pos c_213], hP, hS⟩
            · have hF := hF.trans (if_pos c_141)
              refine lv_aload_n hx hb dX7_set_144 rfl (lv_at hl 2 rfl) ?_
              refine va_get (D := (dC, dI)) (ci := 7) (v := .ref q_mla) (C := RX7) (T := TX7) (N := 41) hx hb hts hiX7 hown hK hP 0 rfl rfl 19 (by decide) (hts _ kFX7_48) (fun _ h9 => h9) rfl dX7_set_145 ?_
              refine lv_iload hx hb dX7_set_148 (lv_at hl 0 rfl) ?_
              refine lv_aload_n hx hb dX7_set_150 rfl (lv_at hl 2 rfl) ?_
              refine va_get (D := (dC, dI)) (ci := 7) (v := .ref q_mla) (C := RX7) (T := TX7) (N := 41) hx hb hts hiX7 hown hK hP 0 rfl rfl 19 (by decide) (hts _ kFX7_48) (fun _ h9 => h9) rfl dX7_set_151 ?_
              refine lv_iload hx hb dX7_set_154 (lv_at hl 0 rfl) ?_
              refine va_iald hx hb hK hP 11 10 rfl rfl (by rw [c_141]; unfold vp_in; decide) dX7_set_156 ?_
              refine lv_ldc (v := 65280) hx hb hown (hts _ kKX7_101) dX7_set_157 ?_
              refine lv_iand hx hb dX7_set_159 ?_
              refine lv_iload_n hx hb dX7_set_160 rfl (lv_at hl 4 rfl) ?_
              refine lv_iadd hx hb dX7_set_161 ?_
              refine va_iast hx hb hK hP hD hS 11 10 rfl rfl (by rw [c_141]; unfold vp_in; decide) dX7_set_162 (fun H locs hP hD hS => ?_)
              have hP : va_P (dC, dI) vwCl (wwX7 q_mo q_mra q_mrA q_mrc q_mrk q_mpi q_mwc q_mwo q_mco q_mpo q_mky q_mla q_mcn q_mct k_mra k_mrA k_mrc k_mrk k_mpi k_mwc k_mwo k_mco k_mpo k_mky k_mla k_mcn k_mct mo_port mo_line mo_cycle mo_raised mo_idle mo_bad mo_glyph mo_fetched mo_rows mo_flags2 mo_enabled mo_a mo_x mo_y mo_s mo_flags mo_p mo_jammed mo_code mo_step mo_low mo_high mo_old mo_latest mo_cycles mo_stolen mo_interrupts mo_accesses f_mra f_mrA f_mrc f_mrk f_mpi f_mwc f_mwo f_mco f_mpo f_mky (upd f_mla (if (p1 - p1 / (16:Int32) * (16:Int32)) < (14:Int32) then (((p1 - p1 / (16:Int32) * (16:Int32)) - (4:Int32)) / (2:Int32)) else ((p1 - p1 / (16:Int32) * (16:Int32)) - (14:Int32))).toNatClampNeg (((f_mla (if (p1 - p1 / (16:Int32) * (16:Int32)) < (14:Int32) then (((p1 - p1 / (16:Int32) * (16:Int32)) - (4:Int32)) / (2:Int32)) else ((p1 - p1 / (16:Int32) * (16:Int32)) - (14:Int32))).toNatClampNeg) &&& (65280:Int32)) + p2)) f_mcn f_mct) H := hP
              have hD : va_D A (wwX7 q_mo q_mra q_mrA q_mrc q_mrk q_mpi q_mwc q_mwo q_mco q_mpo q_mky q_mla q_mcn q_mct k_mra k_mrA k_mrc k_mrk k_mpi k_mwc k_mwo k_mco k_mpo k_mky k_mla k_mcn k_mct mo_port mo_line mo_cycle mo_raised mo_idle mo_bad mo_glyph mo_fetched mo_rows mo_flags2 mo_enabled mo_a mo_x mo_y mo_s mo_flags mo_p mo_jammed mo_code mo_step mo_low mo_high mo_old mo_latest mo_cycles mo_stolen mo_interrupts mo_accesses f_mra f_mrA f_mrc f_mrk f_mpi f_mwc f_mwo f_mco f_mpo f_mky (upd f_mla (if (p1 - p1 / (16:Int32) * (16:Int32)) < (14:Int32) then (((p1 - p1 / (16:Int32) * (16:Int32)) - (4:Int32)) / (2:Int32)) else ((p1 - p1 / (16:Int32) * (16:Int32)) - (14:Int32))).toNatClampNeg (((f_mla (if (p1 - p1 / (16:Int32) * (16:Int32)) < (14:Int32) then (((p1 - p1 / (16:Int32) * (16:Int32)) - (4:Int32)) / (2:Int32)) else ((p1 - p1 / (16:Int32) * (16:Int32)) - (14:Int32))).toNatClampNeg) &&& (65280:Int32)) + p2)) f_mcn f_mct) := hD
              refine lv_iload_n hx hb dX7_set_163 rfl (lv_at hl 1 rfl) ?_
              refine lv_iconst (v := 5) hx hb dX7_set_164 (by decide) ?_
              refine lv_icmp_eq (tgt := 174) hx hb dX7_set_165 (by decide) (fun c_165 => by exact absurd c_165 (by rw [c_141]; decide)) (fun c_165 => ?_)
              refine lv_iload_n hx hb dX7_set_168 rfl (lv_at hl 1 rfl) ?_
              refine lv_bipush (v := 7) hx hb dX7_set_169 (by decide) ?_
              refine lv_icmp_ne (tgt := 234) hx hb dX7_set_171 (by decide) (fun c_171 => ?_) (fun c_171 => by exact absurd c_171 (by rw [c_141]; decide))
              refine lv_iload_n hx hb dX7_set_234 rfl (lv_at hl 1 rfl) ?_
              refine lv_bipush (v := 13) hx hb dX7_set_235 (by decide) ?_
              refine lv_icmp_ne (tgt := 271) hx hb dX7_set_237 (by decide) (fun c_237 => ?_) (fun c_237 => by exact absurd c_237 (by rw [c_141]; decide))
              refine lv_iload_n hx hb dX7_set_271 rfl (lv_at hl 1 rfl) ?_
              refine lv_bipush (v := 14) hx hb dX7_set_272 (by decide) ?_
              refine lv_icmp_lt (tgt := 329) hx hb dX7_set_274 (by decide) (fun c_274 => ?_) (fun c_274 => by exact absurd (by rw [c_141]; decide) c_274)
              refine lv_goto (tgt := 353) hx hb dX7_set_329 (by decide) ?_
              exact W.vret hx hb hr (fun t ht hW => ⟨⟨(mo_raised, mo_rows, mo_enabled, f_mpi, f_mco, (upd f_mla (if (p1 - p1 / (16:Int32) * (16:Int32)) < (14:Int32) then (((p1 - p1 / (16:Int32) * (16:Int32)) - (4:Int32)) / (2:Int32)) else ((p1 - p1 / (16:Int32) * (16:Int32)) - (14:Int32))).toNatClampNeg (((f_mla (if (p1 - p1 / (16:Int32) * (16:Int32)) < (14:Int32) then (((p1 - p1 / (16:Int32) * (16:Int32)) - (4:Int32)) / (2:Int32)) else ((p1 - p1 / (16:Int32) * (16:Int32)) - (14:Int32))).toNatClampNeg) &&& (65280:Int32)) + p2)), f_mcn, f_mct), rfl, hF.symm, by rw [ht]; exact hP, va_K.moved hW.alike hK, hD⟩, hS.F ht⟩) hS.2.2 dX7_set_353
        · have hF := hF.trans (if_pos c_125)
          refine lv_aload_n hx hb dX7_set_128 rfl (lv_at hl 2 rfl) ?_
          refine lv_iload_n hx hb dX7_set_129 rfl (lv_at hl 4 rfl) ?_
          refine va_put (D := (dC, dI)) (ci := 7) (v := .int p2) (ty := .int) (C := RX7) (T := TX7) (N := 41) hx hb hts hiX7 tyX7 tyX7_ok nmX7 hown hK hP hD hS 0 rfl rfl 17 (by decide) (hts _ kFX7_82) (fun _ h9 => h9) rfl (by decide +kernel) rfl rfl (Nat.le_of_ble_eq_true rfl) dX7_set_130 (fun H locs hP hD hS => ?_)
          have hP : va_P (dC, dI) vwCl (wwX7 q_mo q_mra q_mrA q_mrc q_mrk q_mpi q_mwc q_mwo q_mco q_mpo q_mky q_mla q_mcn q_mct k_mra k_mrA k_mrc k_mrk k_mpi k_mwc k_mwo k_mco k_mpo k_mky k_mla k_mcn k_mct mo_port mo_line mo_cycle mo_raised mo_idle mo_bad mo_glyph mo_fetched p2 mo_flags2 mo_enabled mo_a mo_x mo_y mo_s mo_flags mo_p mo_jammed mo_code mo_step mo_low mo_high mo_old mo_latest mo_cycles mo_stolen mo_interrupts mo_accesses f_mra f_mrA f_mrc f_mrk f_mpi f_mwc f_mwo f_mco f_mpo f_mky f_mla f_mcn f_mct) H := hP
          have hD : va_D A (wwX7 q_mo q_mra q_mrA q_mrc q_mrk q_mpi q_mwc q_mwo q_mco q_mpo q_mky q_mla q_mcn q_mct k_mra k_mrA k_mrc k_mrk k_mpi k_mwc k_mwo k_mco k_mpo k_mky k_mla k_mcn k_mct mo_port mo_line mo_cycle mo_raised mo_idle mo_bad mo_glyph mo_fetched p2 mo_flags2 mo_enabled mo_a mo_x mo_y mo_s mo_flags mo_p mo_jammed mo_code mo_step mo_low mo_high mo_old mo_latest mo_cycles mo_stolen mo_interrupts mo_accesses f_mra f_mrA f_mrc f_mrk f_mpi f_mwc f_mwo f_mco f_mpo f_mky f_mla f_mcn f_mct) := hD
          refine lv_iload_n hx hb dX7_set_133 rfl (lv_at hl 1 rfl) ?_
          refine lv_iconst (v := 4) hx hb dX7_set_134 (by decide) ?_
          refine lv_icmp_eq (tgt := 144) hx hb dX7_set_135 (by decide) (fun c_135 => by exact absurd c_135 (by rw [c_125]; decide)) (fun c_135 => ?_)
          refine lv_iload_n hx hb dX7_set_138 rfl (lv_at hl 1 rfl) ?_
          refine lv_bipush (v := 6) hx hb dX7_set_139 (by decide) ?_
          refine lv_icmp_ne (tgt := 163) hx hb dX7_set_141 (by decide) (fun c_141 => ?_) (fun c_141 => by exact absurd c_141 (by rw [c_125]; decide))
          refine lv_iload_n hx hb dX7_set_163 rfl (lv_at hl 1 rfl) ?_
          refine lv_iconst (v := 5) hx hb dX7_set_164 (by decide) ?_
          refine lv_icmp_eq (tgt := 174) hx hb dX7_set_165 (by decide) (fun c_165 => by exact absurd c_165 (by rw [c_125]; decide)) (fun c_165 => ?_)
          refine lv_iload_n hx hb dX7_set_168 rfl (lv_at hl 1 rfl) ?_
          refine lv_bipush (v := 7) hx hb dX7_set_169 (by decide) ?_
          refine lv_icmp_ne (tgt := 234) hx hb dX7_set_171 (by decide) (fun c_171 => ?_) (fun c_171 => by exact absurd c_171 (by rw [c_125]; decide))
          refine lv_iload_n hx hb dX7_set_234 rfl (lv_at hl 1 rfl) ?_
          refine lv_bipush (v := 13) hx hb dX7_set_235 (by decide) ?_
          refine lv_icmp_ne (tgt := 271) hx hb dX7_set_237 (by decide) (fun c_237 => ?_) (fun c_237 => by exact absurd c_237 (by rw [c_125]; decide))
          refine lv_iload_n hx hb dX7_set_271 rfl (lv_at hl 1 rfl) ?_
          refine lv_bipush (v := 14) hx hb dX7_set_272 (by decide) ?_
          refine lv_icmp_lt (tgt := 329) hx hb dX7_set_274 (by decide) (fun c_274 => ?_) (fun c_274 => by exact absurd (by rw [c_125]; decide) c_274)
          refine lv_goto (tgt := 353) hx hb dX7_set_329 (by decide) ?_
          exact W.vret hx hb hr (fun t ht hW => ⟨⟨(mo_raised, p2, mo_enabled, f_mpi, f_mco, f_mla, f_mcn, f_mct), rfl, hF.symm, by rw [ht]; exact hP, va_K.moved hW.alike hK, hD⟩, hS.F ht⟩) hS.2.2 dX7_set_353
      · refine lv_icmp_lt (tgt := 117) hx hb dX7_set_107 (by decide) (fun c_107 => ?_) (fun c_107 => ?_)
        · refine lv_iload_n hx hb dX7_set_117 rfl (lv_at hl 0 rfl) ?_
          refine lv_iconst (v := 4) hx hb dX7_set_118 (by decide) ?_
          refine lv_isub hx hb dX7_set_119 ?_
          refine lv_iconst (v := 2) hx hb dX7_set_120 (by decide) ?_
          refine lv_idiv hx hb dX7_set_121 (by decide) ?_
          exact J122 _ _ _ ⟨by rw [if_pos c_107], hP, hS⟩
        · refine lv_iload_n hx hb dX7_set_110 rfl (lv_at hl 0 rfl) ?_
          refine lv_bipush (v := 14) hx hb dX7_set_111 (by decide) ?_
          refine lv_isub hx hb dX7_set_113 ?_
          refine lv_goto (tgt := 122) hx hb dX7_set_114 (by decide) ?_
          exact J122 _ _ _ ⟨by rw [if_neg c_107], hP, hS⟩
  · have hF := hF.trans (if_neg c_8)
    refine lv_iload_n hx hb dX7_set_11 rfl (lv_at hl 0 rfl) ?_
    refine lv_if_ne (tgt := 25) hx hb dX7_set_12 (by decide) (fun c_12 => ?_) (fun c_12 => ?_)
    · have hF := hF.trans (if_neg c_12)
      refine lv_iload_n hx hb dX7_set_25 rfl (lv_at hl 0 rfl) ?_
      refine lv_iconst (v := 1) hx hb dX7_set_26 (by decide) ?_
      refine lv_icmp_ne (tgt := 37) hx hb dX7_set_27 (by decide) (fun c_27 => ?_) (fun c_27 => ?_)
      · have hF := hF.trans (if_neg c_27)
        refine lv_iload_n hx hb dX7_set_37 rfl (lv_at hl 0 rfl) ?_
        refine lv_iconst (v := 2) hx hb dX7_set_38 (by decide) ?_
        refine lv_icmp_eq (tgt := 53) hx hb dX7_set_39 (by decide) (fun c_39 => ?_) (fun c_39 => ?_)
        · have hF := hF.trans (if_pos c_39)
          refine lv_aload_n hx hb dX7_set_53 rfl (lv_at hl 1 rfl) ?_
          refine va_get (D := (dC, dI)) (ci := 7) (v := .ref q_mpi) (C := RX7) (T := TX7) (N := 41) hx hb hts hiX7 hown hK hP 0 rfl rfl 5 (by decide) (hts _ kFX7_26) (fun _ h9 => h9) rfl dX7_set_54 ?_
          refine lv_iload_n hx hb dX7_set_57 rfl (lv_at hl 0 rfl) ?_
          refine lv_iload_n hx hb dX7_set_58 rfl (lv_at hl 3 rfl) ?_
          refine lv_bipush (v := 15) hx hb dX7_set_59 (by decide) ?_
          refine lv_iand hx hb dX7_set_61 ?_
          refine va_iast hx hb hK hP hD hS 5 4 rfl rfl (by rw [c_39]; unfold vp_in; decide) dX7_set_62 (fun H locs hP hD hS => ?_)
          have hP : va_P (dC, dI) vwCl (wwX7 q_mo q_mra q_mrA q_mrc q_mrk q_mpi q_mwc q_mwo q_mco q_mpo q_mky q_mla q_mcn q_mct k_mra k_mrA k_mrc k_mrk k_mpi k_mwc k_mwo k_mco k_mpo k_mky k_mla k_mcn k_mct mo_port mo_line mo_cycle mo_raised mo_idle mo_bad mo_glyph mo_fetched mo_rows mo_flags2 mo_enabled mo_a mo_x mo_y mo_s mo_flags mo_p mo_jammed mo_code mo_step mo_low mo_high mo_old mo_latest mo_cycles mo_stolen mo_interrupts mo_accesses f_mra f_mrA f_mrc f_mrk (upd f_mpi (p1 - p1 / (16:Int32) * (16:Int32)).toNatClampNeg (p2 &&& (15:Int32))) f_mwc f_mwo f_mco f_mpo f_mky f_mla f_mcn f_mct) H := hP
          have hD : va_D A (wwX7 q_mo q_mra q_mrA q_mrc q_mrk q_mpi q_mwc q_mwo q_mco q_mpo q_mky q_mla q_mcn q_mct k_mra k_mrA k_mrc k_mrk k_mpi k_mwc k_mwo k_mco k_mpo k_mky k_mla k_mcn k_mct mo_port mo_line mo_cycle mo_raised mo_idle mo_bad mo_glyph mo_fetched mo_rows mo_flags2 mo_enabled mo_a mo_x mo_y mo_s mo_flags mo_p mo_jammed mo_code mo_step mo_low mo_high mo_old mo_latest mo_cycles mo_stolen mo_interrupts mo_accesses f_mra f_mrA f_mrc f_mrk (upd f_mpi (p1 - p1 / (16:Int32) * (16:Int32)).toNatClampNeg (p2 &&& (15:Int32))) f_mwc f_mwo f_mco f_mpo f_mky f_mla f_mcn f_mct) := hD
          refine lv_iload_n hx hb dX7_set_63 rfl (lv_at hl 0 rfl) ?_
          refine lv_iconst (v := 4) hx hb dX7_set_64 (by decide) ?_
          refine lv_icmp_ne (tgt := 80) hx hb dX7_set_65 (by decide) (fun c_65 => ?_) (fun c_65 => by exact absurd c_65 (by rw [c_39]; decide))
          refine lv_iload_n hx hb dX7_set_80 rfl (lv_at hl 0 rfl) ?_
          refine lv_iconst (v := 5) hx hb dX7_set_81 (by decide) ?_
          refine lv_icmp_ne (tgt := 353) hx hb dX7_set_82 (by decide) (fun c_82 => ?_) (fun c_82 => by exact absurd c_82 (by rw [c_39]; decide))
          exact W.vret hx hb hr (fun t ht hW => ⟨⟨(mo_raised, mo_rows, mo_enabled, (upd f_mpi (p1 - p1 / (16:Int32) * (16:Int32)).toNatClampNeg (p2 &&& (15:Int32))), f_mco, f_mla, f_mcn, f_mct), rfl, hF.symm, by rw [ht]; exact hP, va_K.moved hW.alike hK, hD⟩, hS.F ht⟩) hS.2.2 dX7_set_353
        · have hF := hF.trans (if_neg c_39)
          refine lv_iload_n hx hb dX7_set_42 rfl (lv_at hl 0 rfl) ?_
          refine lv_iconst (v := 3) hx hb dX7_set_43 (by decide) ?_
          refine lv_icmp_eq (tgt := 53) hx hb dX7_set_44 (by decide) (fun c_44 => ?_) (fun c_44 => ?_)
          · have hF := hF.trans (if_pos c_44)
            refine lv_aload_n hx hb dX7_set_53 rfl (lv_at hl 1 rfl) ?_
            refine va_get (D := (dC, dI)) (ci := 7) (v := .ref q_mpi) (C := RX7) (T := TX7) (N := 41) hx hb hts hiX7 hown hK hP 0 rfl rfl 5 (by decide) (hts _ kFX7_26) (fun _ h9 => h9) rfl dX7_set_54 ?_
            refine lv_iload_n hx hb dX7_set_57 rfl (lv_at hl 0 rfl) ?_
            refine lv_iload_n hx hb dX7_set_58 rfl (lv_at hl 3 rfl) ?_
            refine lv_bipush (v := 15) hx hb dX7_set_59 (by decide) ?_
            refine lv_iand hx hb dX7_set_61 ?_
            refine va_iast hx hb hK hP hD hS 5 4 rfl rfl (by rw [c_44]; unfold vp_in; decide) dX7_set_62 (fun H locs hP hD hS => ?_)
            have hP : va_P (dC, dI) vwCl (wwX7 q_mo q_mra q_mrA q_mrc q_mrk q_mpi q_mwc q_mwo q_mco q_mpo q_mky q_mla q_mcn q_mct k_mra k_mrA k_mrc k_mrk k_mpi k_mwc k_mwo k_mco k_mpo k_mky k_mla k_mcn k_mct mo_port mo_line mo_cycle mo_raised mo_idle mo_bad mo_glyph mo_fetched mo_rows mo_flags2 mo_enabled mo_a mo_x mo_y mo_s mo_flags mo_p mo_jammed mo_code mo_step mo_low mo_high mo_old mo_latest mo_cycles mo_stolen mo_interrupts mo_accesses f_mra f_mrA f_mrc f_mrk (upd f_mpi (p1 - p1 / (16:Int32) * (16:Int32)).toNatClampNeg (p2 &&& (15:Int32))) f_mwc f_mwo f_mco f_mpo f_mky f_mla f_mcn f_mct) H := hP
            have hD : va_D A (wwX7 q_mo q_mra q_mrA q_mrc q_mrk q_mpi q_mwc q_mwo q_mco q_mpo q_mky q_mla q_mcn q_mct k_mra k_mrA k_mrc k_mrk k_mpi k_mwc k_mwo k_mco k_mpo k_mky k_mla k_mcn k_mct mo_port mo_line mo_cycle mo_raised mo_idle mo_bad mo_glyph mo_fetched mo_rows mo_flags2 mo_enabled mo_a mo_x mo_y mo_s mo_flags mo_p mo_jammed mo_code mo_step mo_low mo_high mo_old mo_latest mo_cycles mo_stolen mo_interrupts mo_accesses f_mra f_mrA f_mrc f_mrk (upd f_mpi (p1 - p1 / (16:Int32) * (16:Int32)).toNatClampNeg (p2 &&& (15:Int32))) f_mwc f_mwo f_mco f_mpo f_mky f_mla f_mcn f_mct) := hD
            refine lv_iload_n hx hb dX7_set_63 rfl (lv_at hl 0 rfl) ?_
            refine lv_iconst (v := 4) hx hb dX7_set_64 (by decide) ?_
            refine lv_icmp_ne (tgt := 80) hx hb dX7_set_65 (by decide) (fun c_65 => ?_) (fun c_65 => by exact absurd c_65 (by rw [c_44]; decide))
            refine lv_iload_n hx hb dX7_set_80 rfl (lv_at hl 0 rfl) ?_
            refine lv_iconst (v := 5) hx hb dX7_set_81 (by decide) ?_
            refine lv_icmp_ne (tgt := 353) hx hb dX7_set_82 (by decide) (fun c_82 => ?_) (fun c_82 => by exact absurd c_82 (by rw [c_44]; decide))
            exact W.vret hx hb hr (fun t ht hW => ⟨⟨(mo_raised, mo_rows, mo_enabled, (upd f_mpi (p1 - p1 / (16:Int32) * (16:Int32)).toNatClampNeg (p2 &&& (15:Int32))), f_mco, f_mla, f_mcn, f_mct), rfl, hF.symm, by rw [ht]; exact hP, va_K.moved hW.alike hK, hD⟩, hS.F ht⟩) hS.2.2 dX7_set_353
          · have hF := hF.trans (if_neg c_44)
            refine lv_iload_n hx hb dX7_set_47 rfl (lv_at hl 0 rfl) ?_
            refine lv_bipush (v := 6) hx hb dX7_set_48 (by decide) ?_
            refine lv_icmp_ne (tgt := 63) hx hb dX7_set_50 (by decide) (fun c_50 => ?_) (fun c_50 => ?_)
            · have hF := hF.trans (if_neg c_50)
              refine lv_iload_n hx hb dX7_set_63 rfl (lv_at hl 0 rfl) ?_
              refine lv_iconst (v := 4) hx hb dX7_set_64 (by decide) ?_
              refine lv_icmp_ne (tgt := 80) hx hb dX7_set_65 (by decide) (fun c_65 => ?_) (fun c_65 => ?_)
              · have hF := hF.trans (if_neg c_65)
                refine lv_iload_n hx hb dX7_set_80 rfl (lv_at hl 0 rfl) ?_
                refine lv_iconst (v := 5) hx hb dX7_set_81 (by decide) ?_
                refine lv_icmp_ne (tgt := 353) hx hb dX7_set_82 (by decide) (fun c_82 => ?_) (fun c_82 => ?_)
                · have hF := hF.trans (if_neg c_82)
                  exact W.vret hx hb hr (fun t ht hW => ⟨⟨(mo_raised, mo_rows, mo_enabled, f_mpi, f_mco, f_mla, f_mcn, f_mct), rfl, hF.symm, by rw [ht]; exact hP, va_K.moved hW.alike hK, hD⟩, hS.F ht⟩) hS.2.2 dX7_set_353
                · have hF := hF.trans (if_pos c_82)
                  refine lv_aload_n hx hb dX7_set_85 rfl (lv_at hl 1 rfl) ?_
                  refine va_get (D := (dC, dI)) (ci := 7) (v := .ref q_mpi) (C := RX7) (T := TX7) (N := 41) hx hb hts hiX7 hown hK hP 0 rfl rfl 5 (by decide) (hts _ kFX7_26) (fun _ h9 => h9) rfl dX7_set_86 ?_
                  refine lv_iconst (v := 5) hx hb dX7_set_89 (by decide) ?_
                  refine lv_iload_n hx hb dX7_set_90 rfl (lv_at hl 3 rfl) ?_
                  refine lv_iconst (v := 1) hx hb dX7_set_91 (by decide) ?_
                  refine lv_iand hx hb dX7_set_92 ?_
                  refine va_iast hx hb hK hP hD hS 5 4 rfl rfl (by unfold vp_in; decide) dX7_set_93 (fun H locs hP hD hS => ?_)
                  have hP : va_P (dC, dI) vwCl (wwX7 q_mo q_mra q_mrA q_mrc q_mrk q_mpi q_mwc q_mwo q_mco q_mpo q_mky q_mla q_mcn q_mct k_mra k_mrA k_mrc k_mrk k_mpi k_mwc k_mwo k_mco k_mpo k_mky k_mla k_mcn k_mct mo_port mo_line mo_cycle mo_raised mo_idle mo_bad mo_glyph mo_fetched mo_rows mo_flags2 mo_enabled mo_a mo_x mo_y mo_s mo_flags mo_p mo_jammed mo_code mo_step mo_low mo_high mo_old mo_latest mo_cycles mo_stolen mo_interrupts mo_accesses f_mra f_mrA f_mrc f_mrk (upd f_mpi (5:Int32).toNatClampNeg (p2 &&& (1:Int32))) f_mwc f_mwo f_mco f_mpo f_mky f_mla f_mcn f_mct) H := hP
                  have hD : va_D A (wwX7 q_mo q_mra q_mrA q_mrc q_mrk q_mpi q_mwc q_mwo q_mco q_mpo q_mky q_mla q_mcn q_mct k_mra k_mrA k_mrc k_mrk k_mpi k_mwc k_mwo k_mco k_mpo k_mky k_mla k_mcn k_mct mo_port mo_line mo_cycle mo_raised mo_idle mo_bad mo_glyph mo_fetched mo_rows mo_flags2 mo_enabled mo_a mo_x mo_y mo_s mo_flags mo_p mo_jammed mo_code mo_step mo_low mo_high mo_old mo_latest mo_cycles mo_stolen mo_interrupts mo_accesses f_mra f_mrA f_mrc f_mrk (upd f_mpi (5:Int32).toNatClampNeg (p2 &&& (1:Int32))) f_mwc f_mwo f_mco f_mpo f_mky f_mla f_mcn f_mct) := hD
                  refine lv_goto (tgt := 353) hx hb dX7_set_94 (by decide) ?_
                  exact W.vret hx hb hr (fun t ht hW => ⟨⟨(mo_raised, mo_rows, mo_enabled, (upd f_mpi (5:Int32).toNatClampNeg (p2 &&& (1:Int32))), f_mco, f_mla, f_mcn, f_mct), rfl, hF.symm, by rw [ht]; exact hP, va_K.moved hW.alike hK, hD⟩, hS.F ht⟩) hS.2.2 dX7_set_353
              · have hF := hF.trans (if_pos c_65)
                refine lv_iload_n hx hb dX7_set_68 rfl (lv_at hl 3 rfl) ?_
                refine lv_iconst (v := 1) hx hb dX7_set_69 (by decide) ?_
                refine lv_iand hx hb dX7_set_70 ?_
                refine lv_iconst (v := 1) hx hb dX7_set_71 (by decide) ?_
                refine lv_icmp_ne (tgt := 80) hx hb dX7_set_72 (by decide) (fun c_72 => ?_) (fun c_72 => ?_)
                · have hF := hF.trans (if_neg c_72)
                  refine lv_iload_n hx hb dX7_set_80 rfl (lv_at hl 0 rfl) ?_
                  refine lv_iconst (v := 5) hx hb dX7_set_81 (by decide) ?_
                  refine lv_icmp_ne (tgt := 353) hx hb dX7_set_82 (by decide) (fun c_82 => ?_) (fun c_82 => by exact absurd c_82 (by rw [c_65]; decide))
                  exact W.vret hx hb hr (fun t ht hW => ⟨⟨(mo_raised, mo_rows, mo_enabled, f_mpi, f_mco, f_mla, f_mcn, f_mct), rfl, hF.symm, by rw [ht]; exact hP, va_K.moved hW.alike hK, hD⟩, hS.F ht⟩) hS.2.2 dX7_set_353
                · have hF := hF.trans (if_pos c_72)
                  refine lv_aload_n hx hb dX7_set_75 rfl (lv_at hl 1 rfl) ?_
                  refine lv_iconst (v := 0) hx hb dX7_set_76 (by decide) ?_
                  refine va_put (D := (dC, dI)) (ci := 7) (v := .int (0:Int32)) (ty := .boolean) (C := RX7) (T := TX7) (N := 41) hx hb hts hiX7 tyX7 tyX7_ok nmX7 hown hK hP hD hS 0 rfl rfl 8 (by decide) (hts _ kFX7_88) (fun _ h9 => h9) rfl (by decide +kernel) rfl rfl (Nat.le_of_ble_eq_true rfl) dX7_set_77 (fun H locs hP hD hS => ?_)
                  have hP : va_P (dC, dI) vwCl (wwX7 q_mo q_mra q_mrA q_mrc q_mrk q_mpi q_mwc q_mwo q_mco q_mpo q_mky q_mla q_mcn q_mct k_mra k_mrA k_mrc k_mrk k_mpi k_mwc k_mwo k_mco k_mpo k_mky k_mla k_mcn k_mct mo_port mo_line mo_cycle (0:Int32) mo_idle mo_bad mo_glyph mo_fetched mo_rows mo_flags2 mo_enabled mo_a mo_x mo_y mo_s mo_flags mo_p mo_jammed mo_code mo_step mo_low mo_high mo_old mo_latest mo_cycles mo_stolen mo_interrupts mo_accesses f_mra f_mrA f_mrc f_mrk f_mpi f_mwc f_mwo f_mco f_mpo f_mky f_mla f_mcn f_mct) H := hP
                  have hD : va_D A (wwX7 q_mo q_mra q_mrA q_mrc q_mrk q_mpi q_mwc q_mwo q_mco q_mpo q_mky q_mla q_mcn q_mct k_mra k_mrA k_mrc k_mrk k_mpi k_mwc k_mwo k_mco k_mpo k_mky k_mla k_mcn k_mct mo_port mo_line mo_cycle (0:Int32) mo_idle mo_bad mo_glyph mo_fetched mo_rows mo_flags2 mo_enabled mo_a mo_x mo_y mo_s mo_flags mo_p mo_jammed mo_code mo_step mo_low mo_high mo_old mo_latest mo_cycles mo_stolen mo_interrupts mo_accesses f_mra f_mrA f_mrc f_mrk f_mpi f_mwc f_mwo f_mco f_mpo f_mky f_mla f_mcn f_mct) := hD
                  refine lv_iload_n hx hb dX7_set_80 rfl (lv_at hl 0 rfl) ?_
                  refine lv_iconst (v := 5) hx hb dX7_set_81 (by decide) ?_
                  refine lv_icmp_ne (tgt := 353) hx hb dX7_set_82 (by decide) (fun c_82 => ?_) (fun c_82 => by exact absurd c_82 (by rw [c_65]; decide))
                  exact W.vret hx hb hr (fun t ht hW => ⟨⟨((0:Int32), mo_rows, mo_enabled, f_mpi, f_mco, f_mla, f_mcn, f_mct), rfl, hF.symm, by rw [ht]; exact hP, va_K.moved hW.alike hK, hD⟩, hS.F ht⟩) hS.2.2 dX7_set_353
            · have hF := hF.trans (if_pos c_50)
              refine lv_aload_n hx hb dX7_set_53 rfl (lv_at hl 1 rfl) ?_
              refine va_get (D := (dC, dI)) (ci := 7) (v := .ref q_mpi) (C := RX7) (T := TX7) (N := 41) hx hb hts hiX7 hown hK hP 0 rfl rfl 5 (by decide) (hts _ kFX7_26) (fun _ h9 => h9) rfl dX7_set_54 ?_
              refine lv_iload_n hx hb dX7_set_57 rfl (lv_at hl 0 rfl) ?_
              refine lv_iload_n hx hb dX7_set_58 rfl (lv_at hl 3 rfl) ?_
              refine lv_bipush (v := 15) hx hb dX7_set_59 (by decide) ?_
              refine lv_iand hx hb dX7_set_61 ?_
              refine va_iast hx hb hK hP hD hS 5 4 rfl rfl (by rw [c_50]; unfold vp_in; decide) dX7_set_62 (fun H locs hP hD hS => ?_)
              have hP : va_P (dC, dI) vwCl (wwX7 q_mo q_mra q_mrA q_mrc q_mrk q_mpi q_mwc q_mwo q_mco q_mpo q_mky q_mla q_mcn q_mct k_mra k_mrA k_mrc k_mrk k_mpi k_mwc k_mwo k_mco k_mpo k_mky k_mla k_mcn k_mct mo_port mo_line mo_cycle mo_raised mo_idle mo_bad mo_glyph mo_fetched mo_rows mo_flags2 mo_enabled mo_a mo_x mo_y mo_s mo_flags mo_p mo_jammed mo_code mo_step mo_low mo_high mo_old mo_latest mo_cycles mo_stolen mo_interrupts mo_accesses f_mra f_mrA f_mrc f_mrk (upd f_mpi (p1 - p1 / (16:Int32) * (16:Int32)).toNatClampNeg (p2 &&& (15:Int32))) f_mwc f_mwo f_mco f_mpo f_mky f_mla f_mcn f_mct) H := hP
              have hD : va_D A (wwX7 q_mo q_mra q_mrA q_mrc q_mrk q_mpi q_mwc q_mwo q_mco q_mpo q_mky q_mla q_mcn q_mct k_mra k_mrA k_mrc k_mrk k_mpi k_mwc k_mwo k_mco k_mpo k_mky k_mla k_mcn k_mct mo_port mo_line mo_cycle mo_raised mo_idle mo_bad mo_glyph mo_fetched mo_rows mo_flags2 mo_enabled mo_a mo_x mo_y mo_s mo_flags mo_p mo_jammed mo_code mo_step mo_low mo_high mo_old mo_latest mo_cycles mo_stolen mo_interrupts mo_accesses f_mra f_mrA f_mrc f_mrk (upd f_mpi (p1 - p1 / (16:Int32) * (16:Int32)).toNatClampNeg (p2 &&& (15:Int32))) f_mwc f_mwo f_mco f_mpo f_mky f_mla f_mcn f_mct) := hD
              refine lv_iload_n hx hb dX7_set_63 rfl (lv_at hl 0 rfl) ?_
              refine lv_iconst (v := 4) hx hb dX7_set_64 (by decide) ?_
              refine lv_icmp_ne (tgt := 80) hx hb dX7_set_65 (by decide) (fun c_65 => ?_) (fun c_65 => by exact absurd c_65 (by rw [c_50]; decide))
              refine lv_iload_n hx hb dX7_set_80 rfl (lv_at hl 0 rfl) ?_
              refine lv_iconst (v := 5) hx hb dX7_set_81 (by decide) ?_
              refine lv_icmp_ne (tgt := 353) hx hb dX7_set_82 (by decide) (fun c_82 => ?_) (fun c_82 => by exact absurd c_82 (by rw [c_50]; decide))
              exact W.vret hx hb hr (fun t ht hW => ⟨⟨(mo_raised, mo_rows, mo_enabled, (upd f_mpi (p1 - p1 / (16:Int32) * (16:Int32)).toNatClampNeg (p2 &&& (15:Int32))), f_mco, f_mla, f_mcn, f_mct), rfl, hF.symm, by rw [ht]; exact hP, va_K.moved hW.alike hK, hD⟩, hS.F ht⟩) hS.2.2 dX7_set_353
      · have hF := hF.trans (if_pos c_27)
        refine lv_aload_n hx hb dX7_set_30 rfl (lv_at hl 1 rfl) ?_
        refine va_get (D := (dC, dI)) (ci := 7) (v := .ref q_mpi) (C := RX7) (T := TX7) (N := 41) hx hb hts hiX7 hown hK hP 0 rfl rfl 5 (by decide) (hts _ kFX7_26) (fun _ h9 => h9) rfl dX7_set_31 ?_
        refine lv_iconst (v := 1) hx hb dX7_set_34 (by decide) ?_
        refine lv_iload_n hx hb dX7_set_35 rfl (lv_at hl 3 rfl) ?_
        refine va_iast hx hb hK hP hD hS 5 4 rfl rfl (by unfold vp_in; decide) dX7_set_36 (fun H locs hP hD hS => ?_)
        have hP : va_P (dC, dI) vwCl (wwX7 q_mo q_mra q_mrA q_mrc q_mrk q_mpi q_mwc q_mwo q_mco q_mpo q_mky q_mla q_mcn q_mct k_mra k_mrA k_mrc k_mrk k_mpi k_mwc k_mwo k_mco k_mpo k_mky k_mla k_mcn k_mct mo_port mo_line mo_cycle mo_raised mo_idle mo_bad mo_glyph mo_fetched mo_rows mo_flags2 mo_enabled mo_a mo_x mo_y mo_s mo_flags mo_p mo_jammed mo_code mo_step mo_low mo_high mo_old mo_latest mo_cycles mo_stolen mo_interrupts mo_accesses f_mra f_mrA f_mrc f_mrk (upd f_mpi (1:Int32).toNatClampNeg p2) f_mwc f_mwo f_mco f_mpo f_mky f_mla f_mcn f_mct) H := hP
        have hD : va_D A (wwX7 q_mo q_mra q_mrA q_mrc q_mrk q_mpi q_mwc q_mwo q_mco q_mpo q_mky q_mla q_mcn q_mct k_mra k_mrA k_mrc k_mrk k_mpi k_mwc k_mwo k_mco k_mpo k_mky k_mla k_mcn k_mct mo_port mo_line mo_cycle mo_raised mo_idle mo_bad mo_glyph mo_fetched mo_rows mo_flags2 mo_enabled mo_a mo_x mo_y mo_s mo_flags mo_p mo_jammed mo_code mo_step mo_low mo_high mo_old mo_latest mo_cycles mo_stolen mo_interrupts mo_accesses f_mra f_mrA f_mrc f_mrk (upd f_mpi (1:Int32).toNatClampNeg p2) f_mwc f_mwo f_mco f_mpo f_mky f_mla f_mcn f_mct) := hD
        refine lv_iload_n hx hb dX7_set_37 rfl (lv_at hl 0 rfl) ?_
        refine lv_iconst (v := 2) hx hb dX7_set_38 (by decide) ?_
        refine lv_icmp_eq (tgt := 53) hx hb dX7_set_39 (by decide) (fun c_39 => by exact absurd c_39 (by rw [c_27]; decide)) (fun c_39 => ?_)
        refine lv_iload_n hx hb dX7_set_42 rfl (lv_at hl 0 rfl) ?_
        refine lv_iconst (v := 3) hx hb dX7_set_43 (by decide) ?_
        refine lv_icmp_eq (tgt := 53) hx hb dX7_set_44 (by decide) (fun c_44 => by exact absurd c_44 (by rw [c_27]; decide)) (fun c_44 => ?_)
        refine lv_iload_n hx hb dX7_set_47 rfl (lv_at hl 0 rfl) ?_
        refine lv_bipush (v := 6) hx hb dX7_set_48 (by decide) ?_
        refine lv_icmp_ne (tgt := 63) hx hb dX7_set_50 (by decide) (fun c_50 => ?_) (fun c_50 => by exact absurd c_50 (by rw [c_27]; decide))
        refine lv_iload_n hx hb dX7_set_63 rfl (lv_at hl 0 rfl) ?_
        refine lv_iconst (v := 4) hx hb dX7_set_64 (by decide) ?_
        refine lv_icmp_ne (tgt := 80) hx hb dX7_set_65 (by decide) (fun c_65 => ?_) (fun c_65 => by exact absurd c_65 (by rw [c_27]; decide))
        refine lv_iload_n hx hb dX7_set_80 rfl (lv_at hl 0 rfl) ?_
        refine lv_iconst (v := 5) hx hb dX7_set_81 (by decide) ?_
        refine lv_icmp_ne (tgt := 353) hx hb dX7_set_82 (by decide) (fun c_82 => ?_) (fun c_82 => by exact absurd c_82 (by rw [c_27]; decide))
        exact W.vret hx hb hr (fun t ht hW => ⟨⟨(mo_raised, mo_rows, mo_enabled, (upd f_mpi (1:Int32).toNatClampNeg p2), f_mco, f_mla, f_mcn, f_mct), rfl, hF.symm, by rw [ht]; exact hP, va_K.moved hW.alike hK, hD⟩, hS.F ht⟩) hS.2.2 dX7_set_353
    · have hF := hF.trans (if_pos c_12)
      refine lv_aload_n hx hb dX7_set_15 rfl (lv_at hl 1 rfl) ?_
      refine va_get (D := (dC, dI)) (ci := 7) (v := .ref q_mpi) (C := RX7) (T := TX7) (N := 41) hx hb hts hiX7 hown hK hP 0 rfl rfl 5 (by decide) (hts _ kFX7_26) (fun _ h9 => h9) rfl dX7_set_16 ?_
      refine lv_iconst (v := 0) hx hb dX7_set_19 (by decide) ?_
      refine lv_iload_n hx hb dX7_set_20 rfl (lv_at hl 3 rfl) ?_
      refine lv_bipush (v := 23) hx hb dX7_set_21 (by decide) ?_
      refine lv_iand hx hb dX7_set_23 ?_
      refine va_iast hx hb hK hP hD hS 5 4 rfl rfl (by unfold vp_in; decide) dX7_set_24 (fun H locs hP hD hS => ?_)
      have hP : va_P (dC, dI) vwCl (wwX7 q_mo q_mra q_mrA q_mrc q_mrk q_mpi q_mwc q_mwo q_mco q_mpo q_mky q_mla q_mcn q_mct k_mra k_mrA k_mrc k_mrk k_mpi k_mwc k_mwo k_mco k_mpo k_mky k_mla k_mcn k_mct mo_port mo_line mo_cycle mo_raised mo_idle mo_bad mo_glyph mo_fetched mo_rows mo_flags2 mo_enabled mo_a mo_x mo_y mo_s mo_flags mo_p mo_jammed mo_code mo_step mo_low mo_high mo_old mo_latest mo_cycles mo_stolen mo_interrupts mo_accesses f_mra f_mrA f_mrc f_mrk (upd f_mpi (0:Int32).toNatClampNeg (p2 &&& (23:Int32))) f_mwc f_mwo f_mco f_mpo f_mky f_mla f_mcn f_mct) H := hP
      have hD : va_D A (wwX7 q_mo q_mra q_mrA q_mrc q_mrk q_mpi q_mwc q_mwo q_mco q_mpo q_mky q_mla q_mcn q_mct k_mra k_mrA k_mrc k_mrk k_mpi k_mwc k_mwo k_mco k_mpo k_mky k_mla k_mcn k_mct mo_port mo_line mo_cycle mo_raised mo_idle mo_bad mo_glyph mo_fetched mo_rows mo_flags2 mo_enabled mo_a mo_x mo_y mo_s mo_flags mo_p mo_jammed mo_code mo_step mo_low mo_high mo_old mo_latest mo_cycles mo_stolen mo_interrupts mo_accesses f_mra f_mrA f_mrc f_mrk (upd f_mpi (0:Int32).toNatClampNeg (p2 &&& (23:Int32))) f_mwc f_mwo f_mco f_mpo f_mky f_mla f_mcn f_mct) := hD
      refine lv_iload_n hx hb dX7_set_25 rfl (lv_at hl 0 rfl) ?_
      refine lv_iconst (v := 1) hx hb dX7_set_26 (by decide) ?_
      refine lv_icmp_ne (tgt := 37) hx hb dX7_set_27 (by decide) (fun c_27 => ?_) (fun c_27 => by exact absurd c_27 (by rw [c_12]; decide))
      refine lv_iload_n hx hb dX7_set_37 rfl (lv_at hl 0 rfl) ?_
      refine lv_iconst (v := 2) hx hb dX7_set_38 (by decide) ?_
      refine lv_icmp_eq (tgt := 53) hx hb dX7_set_39 (by decide) (fun c_39 => by exact absurd c_39 (by rw [c_12]; decide)) (fun c_39 => ?_)
      refine lv_iload_n hx hb dX7_set_42 rfl (lv_at hl 0 rfl) ?_
      refine lv_iconst (v := 3) hx hb dX7_set_43 (by decide) ?_
      refine lv_icmp_eq (tgt := 53) hx hb dX7_set_44 (by decide) (fun c_44 => by exact absurd c_44 (by rw [c_12]; decide)) (fun c_44 => ?_)
      refine lv_iload_n hx hb dX7_set_47 rfl (lv_at hl 0 rfl) ?_
      refine lv_bipush (v := 6) hx hb dX7_set_48 (by decide) ?_
      refine lv_icmp_ne (tgt := 63) hx hb dX7_set_50 (by decide) (fun c_50 => ?_) (fun c_50 => by exact absurd c_50 (by rw [c_12]; decide))
      refine lv_iload_n hx hb dX7_set_63 rfl (lv_at hl 0 rfl) ?_
      refine lv_iconst (v := 4) hx hb dX7_set_64 (by decide) ?_
      refine lv_icmp_ne (tgt := 80) hx hb dX7_set_65 (by decide) (fun c_65 => ?_) (fun c_65 => by exact absurd c_65 (by rw [c_12]; decide))
      refine lv_iload_n hx hb dX7_set_80 rfl (lv_at hl 0 rfl) ?_
      refine lv_iconst (v := 5) hx hb dX7_set_81 (by decide) ?_
      refine lv_icmp_ne (tgt := 353) hx hb dX7_set_82 (by decide) (fun c_82 => ?_) (fun c_82 => by exact absurd c_82 (by rw [c_12]; decide))
      exact W.vret hx hb hr (fun t ht hW => ⟨⟨(mo_raised, mo_rows, mo_enabled, (upd f_mpi (0:Int32).toNatClampNeg (p2 &&& (23:Int32))), f_mco, f_mla, f_mcn, f_mct), rfl, hF.symm, by rw [ht]; exact hP, va_K.moved hW.alike hK, hD⟩, hS.F ht⟩) hS.2.2 dX7_set_353
