def fX3_interrupt (pr_kind : Int32) (pr_step : Int32) (pr_low : Int32) (rg_s : Int32) (rg_flags : Int32) (rg_p : Int32) (bu_port : Int32) (pi_line : Int32) (pi_control : Int32) (pi_compareLine : Int32) (pi_ground : Int32) (pi_border : Int32) (pi_base : Int32) (pi_flag : Int32) (pi_enabled : Int32) (ic_rows : Int32) (ic_keysSeen : Int32) (ic_flags : Int32) (ic_enabled : Int32) (ta_controlBits : Int32) (ta_control : Int32) (ta_count : Int32) (ta_latch : Int32) (tb_controlBits : Int32) (tb_control : Int32) (tb_count : Int32) (tb_latch : Int32) (f_ra : Nat → Int32) (f_rA : Nat → Int32) (f_rc : Nat → Int32) (f_rk : Nat → Int32) (f_co : Nat → Int32) (f_ky : Nat → Int32) : Int32 × Int32 × Int32 × Int32 × Int32 × Int32 × Int32 × Int32 × Int32 × Int32 × Int32 × Int32 × Int32 × Int32 × Int32 × Int32 × Int32 × Int32 × Int32 × Int32 × Int32 × Int32 × Int32 × Int32 × Int32 × (Nat → Int32) × (Nat → Int32) :=
  if pr_step = (2:Int32) then
   match (fX0_read rg_p bu_port pi_line pi_control pi_ground pi_border pi_base pi_flag pi_enabled ic_rows ic_keysSeen ic_flags ic_enabled ta_control ta_count tb_control tb_count f_ra f_rA f_rc f_rk f_co) with
   | (r_51, bu_latest_51, ic_flags_51) =>
    (pr_kind, pr_step, pr_low, rg_s, rg_flags, rg_p, bu_port, bu_latest_51, pi_control, pi_compareLine, pi_ground, pi_border, pi_base, pi_flag, pi_enabled, ic_rows, ic_keysSeen, ic_flags_51, ic_enabled, ta_control, ta_count, ta_latch, tb_control, tb_count, tb_latch, f_ra, f_co)
  else
   if pr_step = (3:Int32) then
    match (fX3_push (rg_p >>> ((8:Int32) &&& (31:Int32))) rg_s bu_port pi_control pi_compareLine pi_ground pi_border pi_base pi_flag pi_enabled ic_rows ic_keysSeen ic_enabled ta_controlBits ta_control ta_count ta_latch tb_controlBits tb_control tb_count tb_latch f_ra f_co f_ky) with
    | (rg_s_69, bu_port_69, bu_latest_69, pi_control_69, pi_compareLine_69, pi_ground_69, pi_border_69, pi_base_69, pi_flag_69, pi_enabled_69, ic_rows_69, ic_keysSeen_69, ic_enabled_69, ta_control_69, ta_count_69, ta_latch_69, tb_control_69, tb_count_69, tb_latch_69, f_ra_69, f_co_69) =>
     (pr_kind, pr_step, pr_low, rg_s_69, rg_flags, rg_p, bu_port_69, bu_latest_69, pi_control_69, pi_compareLine_69, pi_ground_69, pi_border_69, pi_base_69, pi_flag_69, pi_enabled_69, ic_rows_69, ic_keysSeen_69, ic_flags, ic_enabled_69, ta_control_69, ta_count_69, ta_latch_69, tb_control_69, tb_count_69, tb_latch_69, f_ra_69, f_co_69)
   else
    if pr_step = (4:Int32) then
     match (fX3_push (rg_p &&& (255:Int32)) rg_s bu_port pi_control pi_compareLine pi_ground pi_border pi_base pi_flag pi_enabled ic_rows ic_keysSeen ic_enabled ta_controlBits ta_control ta_count ta_latch tb_controlBits tb_control tb_count tb_latch f_ra f_co f_ky) with
     | (rg_s_87, bu_port_87, bu_latest_87, pi_control_87, pi_compareLine_87, pi_ground_87, pi_border_87, pi_base_87, pi_flag_87, pi_enabled_87, ic_rows_87, ic_keysSeen_87, ic_enabled_87, ta_control_87, ta_count_87, ta_latch_87, tb_control_87, tb_count_87, tb_latch_87, f_ra_87, f_co_87) =>
      (pr_kind, pr_step, pr_low, rg_s_87, rg_flags, rg_p, bu_port_87, bu_latest_87, pi_control_87, pi_compareLine_87, pi_ground_87, pi_border_87, pi_base_87, pi_flag_87, pi_enabled_87, ic_rows_87, ic_keysSeen_87, ic_flags, ic_enabled_87, ta_control_87, ta_count_87, ta_latch_87, tb_control_87, tb_count_87, tb_latch_87, f_ra_87, f_co_87)
    else
     if pr_step = (5:Int32) then
      match (fX3_push (rg_flags ||| (32:Int32)) rg_s bu_port pi_control pi_compareLine pi_ground pi_border pi_base pi_flag pi_enabled ic_rows ic_keysSeen ic_enabled ta_controlBits ta_control ta_count ta_latch tb_controlBits tb_control tb_count tb_latch f_ra f_co f_ky) with
      | (rg_s_104, bu_port_104, bu_latest_104, pi_control_104, pi_compareLine_104, pi_ground_104, pi_border_104, pi_base_104, pi_flag_104, pi_enabled_104, ic_rows_104, ic_keysSeen_104, ic_enabled_104, ta_control_104, ta_count_104, ta_latch_104, tb_control_104, tb_count_104, tb_latch_104, f_ra_104, f_co_104) =>
       (pr_kind, pr_step, pr_low, rg_s_104, (fX4_put (4:Int32) (1:Int32) rg_flags), rg_p, bu_port_104, bu_latest_104, pi_control_104, pi_compareLine_104, pi_ground_104, pi_border_104, pi_base_104, pi_flag_104, pi_enabled_104, ic_rows_104, ic_keysSeen_104, ic_flags, ic_enabled_104, ta_control_104, ta_count_104, ta_latch_104, tb_control_104, tb_count_104, tb_latch_104, f_ra_104, f_co_104)
     else
      if pr_step = (6:Int32) then
       match (fX0_read (8190:Int32) bu_port pi_line pi_control pi_ground pi_border pi_base pi_flag pi_enabled ic_rows ic_keysSeen ic_flags ic_enabled ta_control ta_count tb_control tb_count f_ra f_rA f_rc f_rk f_co) with
       | (r_127, bu_latest_127, ic_flags_127) =>
        (pr_kind, pr_step, r_127, rg_s, rg_flags, rg_p, bu_port, bu_latest_127, pi_control, pi_compareLine, pi_ground, pi_border, pi_base, pi_flag, pi_enabled, ic_rows, ic_keysSeen, ic_flags_127, ic_enabled, ta_control, ta_count, ta_latch, tb_control, tb_count, tb_latch, f_ra, f_co)
      else
       match (fX0_read (8191:Int32) bu_port pi_line pi_control pi_ground pi_border pi_base pi_flag pi_enabled ic_rows ic_keysSeen ic_flags ic_enabled ta_control ta_count tb_control tb_count f_ra f_rA f_rc f_rk f_co) with
       | (r_151, bu_latest_151, ic_flags_151) =>
        match fX3_endInstruction with
        | (pr_kind_161, pr_step_161) =>
         (pr_kind_161, pr_step_161, pr_low, rg_s, rg_flags, (fX3_word pr_low r_151), bu_port, bu_latest_151, pi_control, pi_compareLine, pi_ground, pi_border, pi_base, pi_flag, pi_enabled, ic_rows, ic_keysSeen, ic_flags_151, ic_enabled, ta_control, ta_count, ta_latch, tb_control, tb_count, tb_latch, f_ra, f_co)
set_option maxHeartbeats 4000000 in
set_option maxRecDepth 100000 in
theorem mX3_interrupt (l : Launch) (dC : Nat → ClassId) (dI : Nat → Nat → Nat) (q_pr q_rg q_bu q_ra q_rA q_rc q_rk q_pi q_po q_co q_wc q_wo q_ic q_ky q_ta q_tb : Nat) (k_ra k_rA k_rc k_rk k_po k_co k_wc k_wo k_ky : ClassId) (sz : Nat) (pr_stuck pr_waits pr_interruptsBegun pr_kind pr_step pr_code pr_low pr_high pr_changed pr_missing rg_a rg_x rg_y rg_s rg_flags rg_p bu_port bu_latest pi_line pi_cycle pi_control pi_compareLine pi_ground pi_border pi_base pi_flag pi_enabled pi_idle pi_bad pi_glyphLine pi_rowToFetch ic_rows ic_keysSeen ic_flags ic_enabled ta_controlBits ta_control ta_count ta_latch tb_controlBits tb_control tb_count tb_latch : Int32) (f_ra f_rA f_rc f_rk f_po f_co f_wc f_wo f_ky : Nat → Int32) : Met l yX3_interrupt uX3_interrupt ({ frames := 4, cells := 0, slots := 0, locals := 89 }) (va_Pc [.ref q_pr] (fun U => U.heap.size = sz ∧ va_P (dC, dI) vwCl (wwX3 q_pr q_rg q_bu q_ra q_rA q_rc q_rk q_pi q_po q_co q_wc q_wo q_ic q_ky q_ta q_tb k_ra k_rA k_rc k_rk k_po k_co k_wc k_wo k_ky pr_stuck pr_waits pr_interruptsBegun pr_kind pr_step pr_code pr_low pr_high pr_changed pr_missing rg_a rg_x rg_y rg_s rg_flags rg_p bu_port bu_latest pi_line pi_cycle pi_control pi_compareLine pi_ground pi_border pi_base pi_flag pi_enabled pi_idle pi_bad pi_glyphLine pi_rowToFetch ic_rows ic_keysSeen ic_flags ic_enabled ta_controlBits ta_control ta_count ta_latch tb_controlBits tb_control tb_count tb_latch f_ra f_rA f_rc f_rk f_po f_co f_wc f_wo f_ky) U.heap ∧ va_K (dC, dI) vwCl [(k_ra, .int), (k_rA, .int), (k_rc, .int), (k_rk, .int), (k_po, .int), (k_co, .int), (k_wc, .int), (k_wo, .int), (k_ky, .int)] U ∧ va_D (fun _ => True) (wwX3 q_pr q_rg q_bu q_ra q_rA q_rc q_rk q_pi q_po q_co q_wc q_wo q_ic q_ky q_ta q_tb k_ra k_rA k_rc k_rk k_po k_co k_wc k_wo k_ky pr_stuck pr_waits pr_interruptsBegun pr_kind pr_step pr_code pr_low pr_high pr_changed pr_missing rg_a rg_x rg_y rg_s rg_flags rg_p bu_port bu_latest pi_line pi_cycle pi_control pi_compareLine pi_ground pi_border pi_base pi_flag pi_enabled pi_idle pi_bad pi_glyphLine pi_rowToFetch ic_rows ic_keysSeen ic_flags ic_enabled ta_controlBits ta_control ta_count ta_latch tb_controlBits tb_control tb_count tb_latch f_ra f_rA f_rc f_rk f_po f_co f_wc f_wo f_ky))) (va_Qv (fun (u : Int32 × Int32 × Int32 × Int32 × Int32 × Int32 × Int32 × Int32 × Int32 × Int32 × Int32 × Int32 × Int32 × Int32 × Int32 × Int32 × Int32 × Int32 × Int32 × Int32 × Int32 × Int32 × Int32 × Int32 × Int32 × (Nat → Int32) × (Nat → Int32)) => u = fX3_interrupt pr_kind pr_step pr_low rg_s rg_flags rg_p bu_port pi_line pi_control pi_compareLine pi_ground pi_border pi_base pi_flag pi_enabled ic_rows ic_keysSeen ic_flags ic_enabled ta_controlBits ta_control ta_count ta_latch tb_controlBits tb_control tb_count tb_latch f_ra f_rA f_rc f_rk f_co f_ky) (fun (u : Int32 × Int32 × Int32 × Int32 × Int32 × Int32 × Int32 × Int32 × Int32 × Int32 × Int32 × Int32 × Int32 × Int32 × Int32 × Int32 × Int32 × Int32 × Int32 × Int32 × Int32 × Int32 × Int32 × Int32 × Int32 × (Nat → Int32) × (Nat → Int32)) (t : State) => va_P (dC, dI) vwCl (wwX3 q_pr q_rg q_bu q_ra q_rA q_rc q_rk q_pi q_po q_co q_wc q_wo q_ic q_ky q_ta q_tb k_ra k_rA k_rc k_rk k_po k_co k_wc k_wo k_ky pr_stuck pr_waits pr_interruptsBegun u.1 u.2.1 pr_code u.2.2.1 pr_high pr_changed pr_missing rg_a rg_x rg_y u.2.2.2.1 u.2.2.2.2.1 u.2.2.2.2.2.1 u.2.2.2.2.2.2.1 u.2.2.2.2.2.2.2.1 pi_line pi_cycle u.2.2.2.2.2.2.2.2.1 u.2.2.2.2.2.2.2.2.2.1 u.2.2.2.2.2.2.2.2.2.2.1 u.2.2.2.2.2.2.2.2.2.2.2.1 u.2.2.2.2.2.2.2.2.2.2.2.2.1 u.2.2.2.2.2.2.2.2.2.2.2.2.2.1 u.2.2.2.2.2.2.2.2.2.2.2.2.2.2.1 pi_idle pi_bad pi_glyphLine pi_rowToFetch u.2.2.2.2.2.2.2.2.2.2.2.2.2.2.2.1 u.2.2.2.2.2.2.2.2.2.2.2.2.2.2.2.2.1 u.2.2.2.2.2.2.2.2.2.2.2.2.2.2.2.2.2.1 u.2.2.2.2.2.2.2.2.2.2.2.2.2.2.2.2.2.2.1 ta_controlBits u.2.2.2.2.2.2.2.2.2.2.2.2.2.2.2.2.2.2.2.1 u.2.2.2.2.2.2.2.2.2.2.2.2.2.2.2.2.2.2.2.2.1 u.2.2.2.2.2.2.2.2.2.2.2.2.2.2.2.2.2.2.2.2.2.1 tb_controlBits u.2.2.2.2.2.2.2.2.2.2.2.2.2.2.2.2.2.2.2.2.2.2.1 u.2.2.2.2.2.2.2.2.2.2.2.2.2.2.2.2.2.2.2.2.2.2.2.1 u.2.2.2.2.2.2.2.2.2.2.2.2.2.2.2.2.2.2.2.2.2.2.2.2.1 u.2.2.2.2.2.2.2.2.2.2.2.2.2.2.2.2.2.2.2.2.2.2.2.2.2.1 f_rA f_rc f_rk f_po u.2.2.2.2.2.2.2.2.2.2.2.2.2.2.2.2.2.2.2.2.2.2.2.2.2.2 f_wc f_wo f_ky) t.heap ∧ va_K (dC, dI) vwCl [(k_ra, .int), (k_rA, .int), (k_rc, .int), (k_rk, .int), (k_po, .int), (k_co, .int), (k_wc, .int), (k_wo, .int), (k_ky, .int)] t ∧ va_D (va_A (wwX3 q_pr q_rg q_bu q_ra q_rA q_rc q_rk q_pi q_po q_co q_wc q_wo q_ic q_ky q_ta q_tb k_ra k_rA k_rc k_rk k_po k_co k_wc k_wo k_ky pr_stuck pr_waits pr_interruptsBegun pr_kind pr_step pr_code pr_low pr_high pr_changed pr_missing rg_a rg_x rg_y rg_s rg_flags rg_p bu_port bu_latest pi_line pi_cycle pi_control pi_compareLine pi_ground pi_border pi_base pi_flag pi_enabled pi_idle pi_bad pi_glyphLine pi_rowToFetch ic_rows ic_keysSeen ic_flags ic_enabled ta_controlBits ta_control ta_count ta_latch tb_controlBits tb_control tb_count tb_latch f_ra f_rA f_rc f_rk f_po f_co f_wc f_wo f_ky) sz) (wwX3 q_pr q_rg q_bu q_ra q_rA q_rc q_rk q_pi q_po q_co q_wc q_wo q_ic q_ky q_ta q_tb k_ra k_rA k_rc k_rk k_po k_co k_wc k_wo k_ky pr_stuck pr_waits pr_interruptsBegun u.1 u.2.1 pr_code u.2.2.1 pr_high pr_changed pr_missing rg_a rg_x rg_y u.2.2.2.1 u.2.2.2.2.1 u.2.2.2.2.2.1 u.2.2.2.2.2.2.1 u.2.2.2.2.2.2.2.1 pi_line pi_cycle u.2.2.2.2.2.2.2.2.1 u.2.2.2.2.2.2.2.2.2.1 u.2.2.2.2.2.2.2.2.2.2.1 u.2.2.2.2.2.2.2.2.2.2.2.1 u.2.2.2.2.2.2.2.2.2.2.2.2.1 u.2.2.2.2.2.2.2.2.2.2.2.2.2.1 u.2.2.2.2.2.2.2.2.2.2.2.2.2.2.1 pi_idle pi_bad pi_glyphLine pi_rowToFetch u.2.2.2.2.2.2.2.2.2.2.2.2.2.2.2.1 u.2.2.2.2.2.2.2.2.2.2.2.2.2.2.2.2.1 u.2.2.2.2.2.2.2.2.2.2.2.2.2.2.2.2.2.1 u.2.2.2.2.2.2.2.2.2.2.2.2.2.2.2.2.2.2.1 ta_controlBits u.2.2.2.2.2.2.2.2.2.2.2.2.2.2.2.2.2.2.2.1 u.2.2.2.2.2.2.2.2.2.2.2.2.2.2.2.2.2.2.2.2.1 u.2.2.2.2.2.2.2.2.2.2.2.2.2.2.2.2.2.2.2.2.2.1 tb_controlBits u.2.2.2.2.2.2.2.2.2.2.2.2.2.2.2.2.2.2.2.2.2.2.1 u.2.2.2.2.2.2.2.2.2.2.2.2.2.2.2.2.2.2.2.2.2.2.2.1 u.2.2.2.2.2.2.2.2.2.2.2.2.2.2.2.2.2.2.2.2.2.2.2.2.1 u.2.2.2.2.2.2.2.2.2.2.2.2.2.2.2.2.2.2.2.2.2.2.2.2.2.1 f_rA f_rc f_rk f_po u.2.2.2.2.2.2.2.2.2.2.2.2.2.2.2.2.2.2.2.2.2.2.2.2.2.2 f_wc f_wo f_ky)) (va_A (wwX3 q_pr q_rg q_bu q_ra q_rA q_rc q_rk q_pi q_po q_co q_wc q_wo q_ic q_ky q_ta q_tb k_ra k_rA k_rc k_rk k_po k_co k_wc k_wo k_ky pr_stuck pr_waits pr_interruptsBegun pr_kind pr_step pr_code pr_low pr_high pr_changed pr_missing rg_a rg_x rg_y rg_s rg_flags rg_p bu_port bu_latest pi_line pi_cycle pi_control pi_compareLine pi_ground pi_border pi_base pi_flag pi_enabled pi_idle pi_bad pi_glyphLine pi_rowToFetch ic_rows ic_keysSeen ic_flags ic_enabled ta_controlBits ta_control ta_count ta_latch tb_controlBits tb_control tb_count tb_latch f_ra f_rA f_rc f_rk f_po f_co f_wc f_wo f_ky) sz)) 0 0 (va_A (wwX3 q_pr q_rg q_bu q_ra q_rA q_rc q_rk q_pi q_po q_co q_wc q_wo q_ic q_ky q_ta q_tb k_ra k_rA k_rc k_rk k_po k_co k_wc k_wo k_ky pr_stuck pr_waits pr_interruptsBegun pr_kind pr_step pr_code pr_low pr_high pr_changed pr_missing rg_a rg_x rg_y rg_s rg_flags rg_p bu_port bu_latest pi_line pi_cycle pi_control pi_compareLine pi_ground pi_border pi_base pi_flag pi_enabled pi_idle pi_bad pi_glyphLine pi_rowToFetch ic_rows ic_keysSeen ic_flags ic_enabled ta_controlBits ta_control ta_count ta_latch tb_controlBits tb_control tb_count tb_latch f_ra f_rA f_rc f_rk f_po f_co f_wc f_wo f_ky) sz) := by
  refine Met.ofW (cc := cX3_interrupt) (maxL := 1) (ret := none) (by decide) rfl ?_
  intro p e s m args below meth c s₁ B hml hv
  obtain ⟨rfl, hsz, hP, hK, hD0⟩ := hv
  have hx := B.exec
  have hb := B.bytes
  have hr := B.returns
  have hts : ∀ w ∈ ub, w.before _ s = true := fun w h => atoms_spec (ws := uX3_interrupt) B.pre w (List.mem_cons_of_mem _ h)
  have hown : s.vm.findClass RX3 = some m.cls := findClass_of_methodNamed B.named
  have hlocks := B.notSynchronized
  subst hsz
  have hD := hD0.self (sz := s.heap.size)
  generalize hAe : va_A (wwX3 q_pr q_rg q_bu q_ra q_rA q_rc q_rk q_pi q_po q_co q_wc q_wo q_ic q_ky q_ta q_tb k_ra k_rA k_rc k_rk k_po k_co k_wc k_wo k_ky pr_stuck pr_waits pr_interruptsBegun pr_kind pr_step pr_code pr_low pr_high pr_changed pr_missing rg_a rg_x rg_y rg_s rg_flags rg_p bu_port bu_latest pi_line pi_cycle pi_control pi_compareLine pi_ground pi_border pi_base pi_flag pi_enabled pi_idle pi_bad pi_glyphLine pi_rowToFetch ic_rows ic_keysSeen ic_flags ic_enabled ta_controlBits ta_control ta_count ta_latch tb_controlBits tb_control tb_count tb_latch f_ra f_rA f_rc f_rk f_po f_co f_wc f_wo f_ky) s.heap.size = A at hD ⊢
  have hA : ∀ q : Nat, s.heap.size ≤ q → A q := fun q h => by rw [← hAe]; exact Or.inr h
  have hS : va_S A s.heap s.heap [] := va_S.rf
  have hl := lv_entry ([.ref q_pr]) (n := 1) (Nat.le_of_ble_eq_true rfl)
  rw [lg_entry_eq]
  generalize (lg_sl ([.ref q_pr]) ++ List.replicate (1 - (lg_sl ([.ref q_pr])).length) Slot.unset).toArray = ls at hl ⊢
  have hl : lv_has ls 1 [(0, .ref q_pr)] := hl
  have hF := fX3_interrupt.eq_1 pr_kind pr_step pr_low rg_s rg_flags rg_p bu_port pi_line pi_control pi_compareLine pi_ground pi_border pi_base pi_flag pi_enabled ic_rows ic_keysSeen ic_flags ic_enabled ta_controlBits ta_control ta_count ta_latch tb_controlBits tb_control tb_count tb_latch f_ra f_rA f_rc f_rk f_co f_ky
  refine lv_aload_n hx hb dX3_interrupt_0 rfl (lv_at hl 0 rfl) ?_
  refine va_get (D := (dC, dI)) (ci := 3) (v := .int pr_step) (C := RX3) (T := TX3) (N := 14) hx hb hts hiX3 hown hK hP 0 rfl rfl 8 (by decide) (hts _ kFX3_68) (fun _ h9 => h9) rfl dX3_interrupt_1 ?_
  by_cases c_4_2 : pr_step = (2:Int32)
  · have hF := hF.trans (if_pos c_4_2)
    refine lv_tableIn (off := 36) (tgt := 40) hx hb dX3_interrupt_4 (by rw [c_4_2]; decide) (by rw [c_4_2]; decide) (by rw [c_4_2]; first | rfl | decide) (by decide) ?_
    refine lv_aload_n hx hb dX3_interrupt_40 rfl (lv_at hl 0 rfl) ?_
    refine va_get (D := (dC, dI)) (ci := 3) (v := .ref q_bu) (C := RX3) (T := TX3) (N := 14) hx hb hts hiX3 hown hK hP 0 rfl rfl 4 (by decide) (hts _ kFX3_26) (fun _ h9 => h9) rfl dX3_interrupt_41 ?_
    refine lv_aload_n hx hb dX3_interrupt_44 rfl (lv_at hl 0 rfl) ?_
    refine va_get (D := (dC, dI)) (ci := 3) (v := .ref q_rg) (C := RX3) (T := TX3) (N := 14) hx hb hts hiX3 hown hK hP 0 rfl rfl 0 (by decide) (hts _ kFX3_12) (fun _ h9 => h9) rfl dX3_interrupt_45 ?_
    refine va_get (D := (dC, dI)) (ci := 4) (v := .int rg_p) (C := RX4) (T := TX4) (N := 6) hx hb hts hiX4 hown hK hP 1 rfl rfl 5 (by decide) (hts _ kFX3_122) (fun _ h9 => h9) rfl dX3_interrupt_48 ?_
    have hPc := hP.sub (ws' := (wwX0 q_bu q_ra q_rA q_rc q_rk q_pi q_po q_co q_wc q_wo q_ic q_ky q_ta q_tb k_ra k_rA k_rc k_rk k_po k_co k_wc k_wo k_ky bu_port bu_latest pi_line pi_cycle pi_control pi_compareLine pi_ground pi_border pi_base pi_flag pi_enabled pi_idle pi_bad pi_glyphLine pi_rowToFetch ic_rows ic_keysSeen ic_flags ic_enabled ta_controlBits ta_control ta_count ta_latch tb_controlBits tb_control tb_count tb_latch f_ra f_rA f_rc f_rk f_po f_co f_wc f_wo f_ky)) [2, 3, 4, 5, 6, 7, 8, 9, 10, 11, 12, 13, 14, 15] rfl
    have hDc := hD.sub (ws' := (wwX0 q_bu q_ra q_rA q_rc q_rk q_pi q_po q_co q_wc q_wo q_ic q_ky q_ta q_tb k_ra k_rA k_rc k_rk k_po k_co k_wc k_wo k_ky bu_port bu_latest pi_line pi_cycle pi_control pi_compareLine pi_ground pi_border pi_base pi_flag pi_enabled pi_idle pi_bad pi_glyphLine pi_rowToFetch ic_rows ic_keysSeen ic_flags ic_enabled ta_controlBits ta_control ta_count ta_latch tb_controlBits tb_control tb_count tb_latch f_ra f_rA f_rc f_rk f_po f_co f_wc f_wo f_ky)) [2, 3, 4, 5, 6, 7, 8, 9, 10, 11, 12, 13, 14, 15] (by decide) rfl
    have hKc := hK.sub (tys' := [(k_ra, .int), (k_rA, .int), (k_rc, .int), (k_rk, .int), (k_po, .int), (k_co, .int), (k_wc, .int), (k_wo, .int), (k_ky, .int)]) [0, 1, 2, 3, 4, 5, 6, 7, 8] rfl
    have hFc := va_free (wc := (wwX0 q_bu q_ra q_rA q_rc q_rk q_pi q_po q_co q_wc q_wo q_ic q_ky q_ta q_tb k_ra k_rA k_rc k_rk k_po k_co k_wc k_wo k_ky bu_port bu_latest pi_line pi_cycle pi_control pi_compareLine pi_ground pi_border pi_base pi_flag pi_enabled pi_idle pi_bad pi_glyphLine pi_rowToFetch ic_rows ic_keysSeen ic_flags ic_enabled ta_controlBits ta_control ta_count ta_latch tb_controlBits tb_control tb_count tb_latch f_ra f_rA f_rc f_rk f_po f_co f_wc f_wo f_ky)) hD hS hA [2, 3, 4, 5, 6, 7, 8, 9, 10, 11, 12, 13, 14, 15] rfl
    refine va_calli (va_runV (As := [.int rg_p]) (rest := []) ⟨hx, hb, hml, hown, hts⟩ (mX0_read l dC dI q_bu q_ra q_rA q_rc q_rk q_pi q_po q_co q_wc q_wo q_ic q_ky q_ta q_tb k_ra k_rA k_rc k_rk k_po k_co k_wc k_wo k_ky s.heap.size bu_port bu_latest pi_line pi_cycle pi_control pi_compareLine pi_ground pi_border pi_base pi_flag pi_enabled pi_idle pi_bad pi_glyphLine pi_rowToFetch ic_rows ic_keysSeen ic_flags ic_enabled ta_controlBits ta_control ta_count ta_latch tb_controlBits tb_control tb_count tb_latch f_ra f_rA f_rc f_rk f_po f_co f_wc f_wo f_ky rg_p) (cwV 1 hts (ub_V kMX3_125 kYX0_read kSX0_read kIX0 kBX0_read) rfl rfl rfl (by decide +kernel) ⟨Nat.le_of_ble_eq_true rfl, Nat.le_of_ble_eq_true rfl⟩) ⟨fun a U g mk q => by obtain ⟨q0, q1, qP, qK, qD⟩ := q; exact ⟨q0, q1, qP, va_K.moved (u := U) (U := U.calling g mk a) (Vm.Alike.refl U.vm) qK, qD⟩, va_recv hKc hPc (ci := 0) (q0 := 0) rfl rfl, fun U hU hW => ⟨rfl, by rw [hU], by rw [hU]; exact hPc, va_K.moved hW.alike hKc, hDc.weaken (fun _ _ _ _ => trivial)⟩⟩ rfl rfl hl.1 rfl (lv_room (Nat.le_of_ble_eq_true rfl)) dX3_interrupt_51 ⟨(Nat.zero_le _), (Nat.zero_le _)⟩) hS (fun q _ h => hFc q h) hFc (fun r_51 u_51 t H locs ht hvm hw hB hz1 hk1 hS => ?_)
    obtain ⟨bu_latest_51, ic_flags_51⟩ := u_51
    obtain ⟨hP1, hK1, hD1⟩ := hB
    rw [ht] at hP1
    obtain ⟨hP, hD⟩ := vb_back (wc := (wwX0 q_bu q_ra q_rA q_rc q_rk q_pi q_po q_co q_wc q_wo q_ic q_ky q_ta q_tb k_ra k_rA k_rc k_rk k_po k_co k_wc k_wo k_ky bu_port bu_latest pi_line pi_cycle pi_control pi_compareLine pi_ground pi_border pi_base pi_flag pi_enabled pi_idle pi_bad pi_glyphLine pi_rowToFetch ic_rows ic_keysSeen ic_flags ic_enabled ta_controlBits ta_control ta_count ta_latch tb_controlBits tb_control tb_count tb_latch f_ra f_rA f_rc f_rk f_po f_co f_wc f_wo f_ky)) (ws' := (wwX3 q_pr q_rg q_bu q_ra q_rA q_rc q_rk q_pi q_po q_co q_wc q_wo q_ic q_ky q_ta q_tb k_ra k_rA k_rc k_rk k_po k_co k_wc k_wo k_ky pr_stuck pr_waits pr_interruptsBegun pr_kind pr_step pr_code pr_low pr_high pr_changed pr_missing rg_a rg_x rg_y rg_s rg_flags rg_p bu_port bu_latest_51 pi_line pi_cycle pi_control pi_compareLine pi_ground pi_border pi_base pi_flag pi_enabled pi_idle pi_bad pi_glyphLine pi_rowToFetch ic_rows ic_keysSeen ic_flags_51 ic_enabled ta_controlBits ta_control ta_count ta_latch tb_controlBits tb_control tb_count tb_latch f_ra f_rA f_rc f_rk f_po f_co f_wc f_wo f_ky)) hP hD hD1 [2, 3, 4, 5, 6, 7, 8, 9, 10, 11, 12, 13, 14, 15] [0, 1] rfl rfl (ae_c rfl (ae_c rfl ae_n)) rfl rfl hk1 hP1
    rw [← hw] at hF
    dsimp only at hF
    refine lv_pop hx hb dX3_interrupt_54 rfl ?_
    refine lv_goto (tgt := 164) hx hb dX3_interrupt_55 (by decide) ?_
    exact W.vret hx hb hr (fun t ht hW => ⟨⟨(pr_kind, pr_step, pr_low, rg_s, rg_flags, rg_p, bu_port, bu_latest_51, pi_control, pi_compareLine, pi_ground, pi_border, pi_base, pi_flag, pi_enabled, ic_rows, ic_keysSeen, ic_flags_51, ic_enabled, ta_control, ta_count, ta_latch, tb_control, tb_count, tb_latch, f_ra, f_co), rfl, hF.symm, by rw [ht]; exact hP, va_K.moved hW.alike hK, hD⟩, hS.F ht⟩) hS.2.2 dX3_interrupt_164
  have hF := hF.trans (if_neg c_4_2)
  by_cases c_4_3 : pr_step = (3:Int32)
  · have hF := hF.trans (if_pos c_4_3)
    refine lv_tableIn (off := 54) (tgt := 58) hx hb dX3_interrupt_4 (by rw [c_4_3]; decide) (by rw [c_4_3]; decide) (by rw [c_4_3]; first | rfl | decide) (by decide) ?_
    refine lv_aload_n hx hb dX3_interrupt_58 rfl (lv_at hl 0 rfl) ?_
    refine lv_aload_n hx hb dX3_interrupt_59 rfl (lv_at hl 0 rfl) ?_
    refine va_get (D := (dC, dI)) (ci := 3) (v := .ref q_rg) (C := RX3) (T := TX3) (N := 14) hx hb hts hiX3 hown hK hP 0 rfl rfl 0 (by decide) (hts _ kFX3_12) (fun _ h9 => h9) rfl dX3_interrupt_60 ?_
    refine va_get (D := (dC, dI)) (ci := 4) (v := .int rg_p) (C := RX4) (T := TX4) (N := 6) hx hb hts hiX4 hown hK hP 1 rfl rfl 5 (by decide) (hts _ kFX3_122) (fun _ h9 => h9) rfl dX3_interrupt_63 ?_
    refine lv_bipush (v := 8) hx hb dX3_interrupt_66 (by decide) ?_
    refine lv_ishr hx hb dX3_interrupt_68 ?_
    have hPc := hP.sub (ws' := (wwX3 q_pr q_rg q_bu q_ra q_rA q_rc q_rk q_pi q_po q_co q_wc q_wo q_ic q_ky q_ta q_tb k_ra k_rA k_rc k_rk k_po k_co k_wc k_wo k_ky pr_stuck pr_waits pr_interruptsBegun pr_kind pr_step pr_code pr_low pr_high pr_changed pr_missing rg_a rg_x rg_y rg_s rg_flags rg_p bu_port bu_latest pi_line pi_cycle pi_control pi_compareLine pi_ground pi_border pi_base pi_flag pi_enabled pi_idle pi_bad pi_glyphLine pi_rowToFetch ic_rows ic_keysSeen ic_flags ic_enabled ta_controlBits ta_control ta_count ta_latch tb_controlBits tb_control tb_count tb_latch f_ra f_rA f_rc f_rk f_po f_co f_wc f_wo f_ky)) [0, 1, 2, 3, 4, 5, 6, 7, 8, 9, 10, 11, 12, 13, 14, 15] rfl
    have hDc := hD.sub (ws' := (wwX3 q_pr q_rg q_bu q_ra q_rA q_rc q_rk q_pi q_po q_co q_wc q_wo q_ic q_ky q_ta q_tb k_ra k_rA k_rc k_rk k_po k_co k_wc k_wo k_ky pr_stuck pr_waits pr_interruptsBegun pr_kind pr_step pr_code pr_low pr_high pr_changed pr_missing rg_a rg_x rg_y rg_s rg_flags rg_p bu_port bu_latest pi_line pi_cycle pi_control pi_compareLine pi_ground pi_border pi_base pi_flag pi_enabled pi_idle pi_bad pi_glyphLine pi_rowToFetch ic_rows ic_keysSeen ic_flags ic_enabled ta_controlBits ta_control ta_count ta_latch tb_controlBits tb_control tb_count tb_latch f_ra f_rA f_rc f_rk f_po f_co f_wc f_wo f_ky)) [0, 1, 2, 3, 4, 5, 6, 7, 8, 9, 10, 11, 12, 13, 14, 15] (by decide) rfl
    have hKc := hK.sub (tys' := [(k_ra, .int), (k_rA, .int), (k_rc, .int), (k_rk, .int), (k_po, .int), (k_co, .int), (k_wc, .int), (k_wo, .int), (k_ky, .int)]) [0, 1, 2, 3, 4, 5, 6, 7, 8] rfl
    have hFc := va_free (wc := (wwX3 q_pr q_rg q_bu q_ra q_rA q_rc q_rk q_pi q_po q_co q_wc q_wo q_ic q_ky q_ta q_tb k_ra k_rA k_rc k_rk k_po k_co k_wc k_wo k_ky pr_stuck pr_waits pr_interruptsBegun pr_kind pr_step pr_code pr_low pr_high pr_changed pr_missing rg_a rg_x rg_y rg_s rg_flags rg_p bu_port bu_latest pi_line pi_cycle pi_control pi_compareLine pi_ground pi_border pi_base pi_flag pi_enabled pi_idle pi_bad pi_glyphLine pi_rowToFetch ic_rows ic_keysSeen ic_flags ic_enabled ta_controlBits ta_control ta_count ta_latch tb_controlBits tb_control tb_count tb_latch f_ra f_rA f_rc f_rk f_po f_co f_wc f_wo f_ky)) hD hS hA [0, 1, 2, 3, 4, 5, 6, 7, 8, 9, 10, 11, 12, 13, 14, 15] rfl
    refine va_callv (va_runV (As := [.int (rg_p >>> ((8:Int32) &&& (31:Int32)))]) (rest := []) ⟨hx, hb, hml, hown, hts⟩ (mX3_push l dC dI q_pr q_rg q_bu q_ra q_rA q_rc q_rk q_pi q_po q_co q_wc q_wo q_ic q_ky q_ta q_tb k_ra k_rA k_rc k_rk k_po k_co k_wc k_wo k_ky s.heap.size pr_stuck pr_waits pr_interruptsBegun pr_kind pr_step pr_code pr_low pr_high pr_changed pr_missing rg_a rg_x rg_y rg_s rg_flags rg_p bu_port bu_latest pi_line pi_cycle pi_control pi_compareLine pi_ground pi_border pi_base pi_flag pi_enabled pi_idle pi_bad pi_glyphLine pi_rowToFetch ic_rows ic_keysSeen ic_flags ic_enabled ta_controlBits ta_control ta_count ta_latch tb_controlBits tb_control tb_count tb_latch f_ra f_rA f_rc f_rk f_po f_co f_wc f_wo f_ky (rg_p >>> ((8:Int32) &&& (31:Int32)))) (cwV 1 hts (ub_V kMX3_158 kYX3_push kSX3_push kIX3 kBX3_push) rfl rfl rfl (by decide +kernel) ⟨Nat.le_of_ble_eq_true rfl, Nat.le_of_ble_eq_true rfl⟩) ⟨fun a U g mk q => by obtain ⟨q0, q1, qP, qK, qD⟩ := q; exact ⟨q0, q1, qP, va_K.moved (u := U) (U := U.calling g mk a) (Vm.Alike.refl U.vm) qK, qD⟩, va_recv hKc hPc (ci := 3) (q0 := 0) rfl rfl, fun U hU hW => ⟨rfl, by rw [hU], by rw [hU]; exact hPc, va_K.moved hW.alike hKc, hDc.weaken (fun _ _ _ _ => trivial)⟩⟩ rfl rfl hl.1 rfl (lv_room (Nat.le_of_ble_eq_true rfl)) dX3_interrupt_69 ⟨(Nat.zero_le _), (Nat.zero_le _)⟩) hS (fun q _ h => hFc q h) hFc (fun u_69 t H locs ht hvm hw hB hz1 hk1 hS => ?_)
    obtain ⟨rg_s_69, bu_port_69, bu_latest_69, pi_control_69, pi_compareLine_69, pi_ground_69, pi_border_69, pi_base_69, pi_flag_69, pi_enabled_69, ic_rows_69, ic_keysSeen_69, ic_enabled_69, ta_control_69, ta_count_69, ta_latch_69, tb_control_69, tb_count_69, tb_latch_69, f_ra_69, f_co_69⟩ := u_69
    obtain ⟨hP1, hK1, hD1⟩ := hB
    rw [ht] at hP1
    obtain ⟨hP, hD⟩ := vb_back (wc := (wwX3 q_pr q_rg q_bu q_ra q_rA q_rc q_rk q_pi q_po q_co q_wc q_wo q_ic q_ky q_ta q_tb k_ra k_rA k_rc k_rk k_po k_co k_wc k_wo k_ky pr_stuck pr_waits pr_interruptsBegun pr_kind pr_step pr_code pr_low pr_high pr_changed pr_missing rg_a rg_x rg_y rg_s rg_flags rg_p bu_port bu_latest pi_line pi_cycle pi_control pi_compareLine pi_ground pi_border pi_base pi_flag pi_enabled pi_idle pi_bad pi_glyphLine pi_rowToFetch ic_rows ic_keysSeen ic_flags ic_enabled ta_controlBits ta_control ta_count ta_latch tb_controlBits tb_control tb_count tb_latch f_ra f_rA f_rc f_rk f_po f_co f_wc f_wo f_ky)) (ws' := (wwX3 q_pr q_rg q_bu q_ra q_rA q_rc q_rk q_pi q_po q_co q_wc q_wo q_ic q_ky q_ta q_tb k_ra k_rA k_rc k_rk k_po k_co k_wc k_wo k_ky pr_stuck pr_waits pr_interruptsBegun pr_kind pr_step pr_code pr_low pr_high pr_changed pr_missing rg_a rg_x rg_y rg_s_69 rg_flags rg_p bu_port_69 bu_latest_69 pi_line pi_cycle pi_control_69 pi_compareLine_69 pi_ground_69 pi_border_69 pi_base_69 pi_flag_69 pi_enabled_69 pi_idle pi_bad pi_glyphLine pi_rowToFetch ic_rows_69 ic_keysSeen_69 ic_flags ic_enabled_69 ta_controlBits ta_control_69 ta_count_69 ta_latch_69 tb_controlBits tb_control_69 tb_count_69 tb_latch_69 f_ra_69 f_rA f_rc f_rk f_po f_co_69 f_wc f_wo f_ky)) hP hD hD1 [0, 1, 2, 3, 4, 5, 6, 7, 8, 9, 10, 11, 12, 13, 14, 15] [] rfl rfl ae_n rfl rfl hk1 hP1
    rw [← hw] at hF
    dsimp only at hF
    refine lv_goto (tgt := 164) hx hb dX3_interrupt_72 (by decide) ?_
    exact W.vret hx hb hr (fun t ht hW => ⟨⟨(pr_kind, pr_step, pr_low, rg_s_69, rg_flags, rg_p, bu_port_69, bu_latest_69, pi_control_69, pi_compareLine_69, pi_ground_69, pi_border_69, pi_base_69, pi_flag_69, pi_enabled_69, ic_rows_69, ic_keysSeen_69, ic_flags, ic_enabled_69, ta_control_69, ta_count_69, ta_latch_69, tb_control_69, tb_count_69, tb_latch_69, f_ra_69, f_co_69), rfl, hF.symm, by rw [ht]; exact hP, va_K.moved hW.alike hK, hD⟩, hS.F ht⟩) hS.2.2 dX3_interrupt_164
  have hF := hF.trans (if_neg c_4_3)
  by_cases c_4_4 : pr_step = (4:Int32)
  · have hF := hF.trans (if_pos c_4_4)
    refine lv_tableIn (off := 71) (tgt := 75) hx hb dX3_interrupt_4 (by rw [c_4_4]; decide) (by rw [c_4_4]; decide) (by rw [c_4_4]; first | rfl | decide) (by decide) ?_
    refine lv_aload_n hx hb dX3_interrupt_75 rfl (lv_at hl 0 rfl) ?_
    refine lv_aload_n hx hb dX3_interrupt_76 rfl (lv_at hl 0 rfl) ?_
    refine va_get (D := (dC, dI)) (ci := 3) (v := .ref q_rg) (C := RX3) (T := TX3) (N := 14) hx hb hts hiX3 hown hK hP 0 rfl rfl 0 (by decide) (hts _ kFX3_12) (fun _ h9 => h9) rfl dX3_interrupt_77 ?_
    refine va_get (D := (dC, dI)) (ci := 4) (v := .int rg_p) (C := RX4) (T := TX4) (N := 6) hx hb hts hiX4 hown hK hP 1 rfl rfl 5 (by decide) (hts _ kFX3_122) (fun _ h9 => h9) rfl dX3_interrupt_80 ?_
    refine lv_sipush (v := 255) hx hb dX3_interrupt_83 (by decide) ?_
    refine lv_iand hx hb dX3_interrupt_86 ?_
    have hPc := hP.sub (ws' := (wwX3 q_pr q_rg q_bu q_ra q_rA q_rc q_rk q_pi q_po q_co q_wc q_wo q_ic q_ky q_ta q_tb k_ra k_rA k_rc k_rk k_po k_co k_wc k_wo k_ky pr_stuck pr_waits pr_interruptsBegun pr_kind pr_step pr_code pr_low pr_high pr_changed pr_missing rg_a rg_x rg_y rg_s rg_flags rg_p bu_port bu_latest pi_line pi_cycle pi_control pi_compareLine pi_ground pi_border pi_base pi_flag pi_enabled pi_idle pi_bad pi_glyphLine pi_rowToFetch ic_rows ic_keysSeen ic_flags ic_enabled ta_controlBits ta_control ta_count ta_latch tb_controlBits tb_control tb_count tb_latch f_ra f_rA f_rc f_rk f_po f_co f_wc f_wo f_ky)) [0, 1, 2, 3, 4, 5, 6, 7, 8, 9, 10, 11, 12, 13, 14, 15] rfl
    have hDc := hD.sub (ws' := (wwX3 q_pr q_rg q_bu q_ra q_rA q_rc q_rk q_pi q_po q_co q_wc q_wo q_ic q_ky q_ta q_tb k_ra k_rA k_rc k_rk k_po k_co k_wc k_wo k_ky pr_stuck pr_waits pr_interruptsBegun pr_kind pr_step pr_code pr_low pr_high pr_changed pr_missing rg_a rg_x rg_y rg_s rg_flags rg_p bu_port bu_latest pi_line pi_cycle pi_control pi_compareLine pi_ground pi_border pi_base pi_flag pi_enabled pi_idle pi_bad pi_glyphLine pi_rowToFetch ic_rows ic_keysSeen ic_flags ic_enabled ta_controlBits ta_control ta_count ta_latch tb_controlBits tb_control tb_count tb_latch f_ra f_rA f_rc f_rk f_po f_co f_wc f_wo f_ky)) [0, 1, 2, 3, 4, 5, 6, 7, 8, 9, 10, 11, 12, 13, 14, 15] (by decide) rfl
    have hKc := hK.sub (tys' := [(k_ra, .int), (k_rA, .int), (k_rc, .int), (k_rk, .int), (k_po, .int), (k_co, .int), (k_wc, .int), (k_wo, .int), (k_ky, .int)]) [0, 1, 2, 3, 4, 5, 6, 7, 8] rfl
    have hFc := va_free (wc := (wwX3 q_pr q_rg q_bu q_ra q_rA q_rc q_rk q_pi q_po q_co q_wc q_wo q_ic q_ky q_ta q_tb k_ra k_rA k_rc k_rk k_po k_co k_wc k_wo k_ky pr_stuck pr_waits pr_interruptsBegun pr_kind pr_step pr_code pr_low pr_high pr_changed pr_missing rg_a rg_x rg_y rg_s rg_flags rg_p bu_port bu_latest pi_line pi_cycle pi_control pi_compareLine pi_ground pi_border pi_base pi_flag pi_enabled pi_idle pi_bad pi_glyphLine pi_rowToFetch ic_rows ic_keysSeen ic_flags ic_enabled ta_controlBits ta_control ta_count ta_latch tb_controlBits tb_control tb_count tb_latch f_ra f_rA f_rc f_rk f_po f_co f_wc f_wo f_ky)) hD hS hA [0, 1, 2, 3, 4, 5, 6, 7, 8, 9, 10, 11, 12, 13, 14, 15] rfl
    refine va_callv (va_runV (As := [.int (rg_p &&& (255:Int32))]) (rest := []) ⟨hx, hb, hml, hown, hts⟩ (mX3_push l dC dI q_pr q_rg q_bu q_ra q_rA q_rc q_rk q_pi q_po q_co q_wc q_wo q_ic q_ky q_ta q_tb k_ra k_rA k_rc k_rk k_po k_co k_wc k_wo k_ky s.heap.size pr_stuck pr_waits pr_interruptsBegun pr_kind pr_step pr_code pr_low pr_high pr_changed pr_missing rg_a rg_x rg_y rg_s rg_flags rg_p bu_port bu_latest pi_line pi_cycle pi_control pi_compareLine pi_ground pi_border pi_base pi_flag pi_enabled pi_idle pi_bad pi_glyphLine pi_rowToFetch ic_rows ic_keysSeen ic_flags ic_enabled ta_controlBits ta_control ta_count ta_latch tb_controlBits tb_control tb_count tb_latch f_ra f_rA f_rc f_rk f_po f_co f_wc f_wo f_ky (rg_p &&& (255:Int32))) (cwV 1 hts (ub_V kMX3_158 kYX3_push kSX3_push kIX3 kBX3_push) rfl rfl rfl (by decide +kernel) ⟨Nat.le_of_ble_eq_true rfl, Nat.le_of_ble_eq_true rfl⟩) ⟨fun a U g mk q => by obtain ⟨q0, q1, qP, qK, qD⟩ := q; exact ⟨q0, q1, qP, va_K.moved (u := U) (U := U.calling g mk a) (Vm.Alike.refl U.vm) qK, qD⟩, va_recv hKc hPc (ci := 3) (q0 := 0) rfl rfl, fun U hU hW => ⟨rfl, by rw [hU], by rw [hU]; exact hPc, va_K.moved hW.alike hKc, hDc.weaken (fun _ _ _ _ => trivial)⟩⟩ rfl rfl hl.1 rfl (lv_room (Nat.le_of_ble_eq_true rfl)) dX3_interrupt_87 ⟨(Nat.zero_le _), (Nat.zero_le _)⟩) hS (fun q _ h => hFc q h) hFc (fun u_87 t H locs ht hvm hw hB hz1 hk1 hS => ?_)
    obtain ⟨rg_s_87, bu_port_87, bu_latest_87, pi_control_87, pi_compareLine_87, pi_ground_87, pi_border_87, pi_base_87, pi_flag_87, pi_enabled_87, ic_rows_87, ic_keysSeen_87, ic_enabled_87, ta_control_87, ta_count_87, ta_latch_87, tb_control_87, tb_count_87, tb_latch_87, f_ra_87, f_co_87⟩ := u_87
    obtain ⟨hP1, hK1, hD1⟩ := hB
    rw [ht] at hP1
    obtain ⟨hP, hD⟩ := vb_back (wc := (wwX3 q_pr q_rg q_bu q_ra q_rA q_rc q_rk q_pi q_po q_co q_wc q_wo q_ic q_ky q_ta q_tb k_ra k_rA k_rc k_rk k_po k_co k_wc k_wo k_ky pr_stuck pr_waits pr_interruptsBegun pr_kind pr_step pr_code pr_low pr_high pr_changed pr_missing rg_a rg_x rg_y rg_s rg_flags rg_p bu_port bu_latest pi_line pi_cycle pi_control pi_compareLine pi_ground pi_border pi_base pi_flag pi_enabled pi_idle pi_bad pi_glyphLine pi_rowToFetch ic_rows ic_keysSeen ic_flags ic_enabled ta_controlBits ta_control ta_count ta_latch tb_controlBits tb_control tb_count tb_latch f_ra f_rA f_rc f_rk f_po f_co f_wc f_wo f_ky)) (ws' := (wwX3 q_pr q_rg q_bu q_ra q_rA q_rc q_rk q_pi q_po q_co q_wc q_wo q_ic q_ky q_ta q_tb k_ra k_rA k_rc k_rk k_po k_co k_wc k_wo k_ky pr_stuck pr_waits pr_interruptsBegun pr_kind pr_step pr_code pr_low pr_high pr_changed pr_missing rg_a rg_x rg_y rg_s_87 rg_flags rg_p bu_port_87 bu_latest_87 pi_line pi_cycle pi_control_87 pi_compareLine_87 pi_ground_87 pi_border_87 pi_base_87 pi_flag_87 pi_enabled_87 pi_idle pi_bad pi_glyphLine pi_rowToFetch ic_rows_87 ic_keysSeen_87 ic_flags ic_enabled_87 ta_controlBits ta_control_87 ta_count_87 ta_latch_87 tb_controlBits tb_control_87 tb_count_87 tb_latch_87 f_ra_87 f_rA f_rc f_rk f_po f_co_87 f_wc f_wo f_ky)) hP hD hD1 [0, 1, 2, 3, 4, 5, 6, 7, 8, 9, 10, 11, 12, 13, 14, 15] [] rfl rfl ae_n rfl rfl hk1 hP1
    rw [← hw] at hF
    dsimp only at hF
    refine lv_goto (tgt := 164) hx hb dX3_interrupt_90 (by decide) ?_
    exact W.vret hx hb hr (fun t ht hW => ⟨⟨(pr_kind, pr_step, pr_low, rg_s_87, rg_flags, rg_p, bu_port_87, bu_latest_87, pi_control_87, pi_compareLine_87, pi_ground_87, pi_border_87, pi_base_87, pi_flag_87, pi_enabled_87, ic_rows_87, ic_keysSeen_87, ic_flags, ic_enabled_87, ta_control_87, ta_count_87, ta_latch_87, tb_control_87, tb_count_87, tb_latch_87, f_ra_87, f_co_87), rfl, hF.symm, by rw [ht]; exact hP, va_K.moved hW.alike hK, hD⟩, hS.F ht⟩) hS.2.2 dX3_interrupt_164
  have hF := hF.trans (if_neg c_4_4)
  by_cases c_4_5 : pr_step = (5:Int32)
  · have hF := hF.trans (if_pos c_4_5)
    refine lv_tableIn (off := 89) (tgt := 93) hx hb dX3_interrupt_4 (by rw [c_4_5]; decide) (by rw [c_4_5]; decide) (by rw [c_4_5]; first | rfl | decide) (by decide) ?_
    refine lv_aload_n hx hb dX3_interrupt_93 rfl (lv_at hl 0 rfl) ?_
    refine lv_aload_n hx hb dX3_interrupt_94 rfl (lv_at hl 0 rfl) ?_
    refine va_get (D := (dC, dI)) (ci := 3) (v := .ref q_rg) (C := RX3) (T := TX3) (N := 14) hx hb hts hiX3 hown hK hP 0 rfl rfl 0 (by decide) (hts _ kFX3_12) (fun _ h9 => h9) rfl dX3_interrupt_95 ?_
    refine va_get (D := (dC, dI)) (ci := 4) (v := .int rg_flags) (C := RX4) (T := TX4) (N := 6) hx hb hts hiX4 hown hK hP 1 rfl rfl 4 (by decide) (hts _ kFX3_161) (fun _ h9 => h9) rfl dX3_interrupt_98 ?_
    refine lv_bipush (v := 32) hx hb dX3_interrupt_101 (by decide) ?_
    refine lv_ior hx hb dX3_interrupt_103 ?_
    have hPc := hP.sub (ws' := (wwX3 q_pr q_rg q_bu q_ra q_rA q_rc q_rk q_pi q_po q_co q_wc q_wo q_ic q_ky q_ta q_tb k_ra k_rA k_rc k_rk k_po k_co k_wc k_wo k_ky pr_stuck pr_waits pr_interruptsBegun pr_kind pr_step pr_code pr_low pr_high pr_changed pr_missing rg_a rg_x rg_y rg_s rg_flags rg_p bu_port bu_latest pi_line pi_cycle pi_control pi_compareLine pi_ground pi_border pi_base pi_flag pi_enabled pi_idle pi_bad pi_glyphLine pi_rowToFetch ic_rows ic_keysSeen ic_flags ic_enabled ta_controlBits ta_control ta_count ta_latch tb_controlBits tb_control tb_count tb_latch f_ra f_rA f_rc f_rk f_po f_co f_wc f_wo f_ky)) [0, 1, 2, 3, 4, 5, 6, 7, 8, 9, 10, 11, 12, 13, 14, 15] rfl
    have hDc := hD.sub (ws' := (wwX3 q_pr q_rg q_bu q_ra q_rA q_rc q_rk q_pi q_po q_co q_wc q_wo q_ic q_ky q_ta q_tb k_ra k_rA k_rc k_rk k_po k_co k_wc k_wo k_ky pr_stuck pr_waits pr_interruptsBegun pr_kind pr_step pr_code pr_low pr_high pr_changed pr_missing rg_a rg_x rg_y rg_s rg_flags rg_p bu_port bu_latest pi_line pi_cycle pi_control pi_compareLine pi_ground pi_border pi_base pi_flag pi_enabled pi_idle pi_bad pi_glyphLine pi_rowToFetch ic_rows ic_keysSeen ic_flags ic_enabled ta_controlBits ta_control ta_count ta_latch tb_controlBits tb_control tb_count tb_latch f_ra f_rA f_rc f_rk f_po f_co f_wc f_wo f_ky)) [0, 1, 2, 3, 4, 5, 6, 7, 8, 9, 10, 11, 12, 13, 14, 15] (by decide) rfl
    have hKc := hK.sub (tys' := [(k_ra, .int), (k_rA, .int), (k_rc, .int), (k_rk, .int), (k_po, .int), (k_co, .int), (k_wc, .int), (k_wo, .int), (k_ky, .int)]) [0, 1, 2, 3, 4, 5, 6, 7, 8] rfl
    have hFc := va_free (wc := (wwX3 q_pr q_rg q_bu q_ra q_rA q_rc q_rk q_pi q_po q_co q_wc q_wo q_ic q_ky q_ta q_tb k_ra k_rA k_rc k_rk k_po k_co k_wc k_wo k_ky pr_stuck pr_waits pr_interruptsBegun pr_kind pr_step pr_code pr_low pr_high pr_changed pr_missing rg_a rg_x rg_y rg_s rg_flags rg_p bu_port bu_latest pi_line pi_cycle pi_control pi_compareLine pi_ground pi_border pi_base pi_flag pi_enabled pi_idle pi_bad pi_glyphLine pi_rowToFetch ic_rows ic_keysSeen ic_flags ic_enabled ta_controlBits ta_control ta_count ta_latch tb_controlBits tb_control tb_count tb_latch f_ra f_rA f_rc f_rk f_po f_co f_wc f_wo f_ky)) hD hS hA [0, 1, 2, 3, 4, 5, 6, 7, 8, 9, 10, 11, 12, 13, 14, 15] rfl
    refine va_callv (va_runV (As := [.int (rg_flags ||| (32:Int32))]) (rest := []) ⟨hx, hb, hml, hown, hts⟩ (mX3_push l dC dI q_pr q_rg q_bu q_ra q_rA q_rc q_rk q_pi q_po q_co q_wc q_wo q_ic q_ky q_ta q_tb k_ra k_rA k_rc k_rk k_po k_co k_wc k_wo k_ky s.heap.size pr_stuck pr_waits pr_interruptsBegun pr_kind pr_step pr_code pr_low pr_high pr_changed pr_missing rg_a rg_x rg_y rg_s rg_flags rg_p bu_port bu_latest pi_line pi_cycle pi_control pi_compareLine pi_ground pi_border pi_base pi_flag pi_enabled pi_idle pi_bad pi_glyphLine pi_rowToFetch ic_rows ic_keysSeen ic_flags ic_enabled ta_controlBits ta_control ta_count ta_latch tb_controlBits tb_control tb_count tb_latch f_ra f_rA f_rc f_rk f_po f_co f_wc f_wo f_ky (rg_flags ||| (32:Int32))) (cwV 1 hts (ub_V kMX3_158 kYX3_push kSX3_push kIX3 kBX3_push) rfl rfl rfl (by decide +kernel) ⟨Nat.le_of_ble_eq_true rfl, Nat.le_of_ble_eq_true rfl⟩) ⟨fun a U g mk q => by obtain ⟨q0, q1, qP, qK, qD⟩ := q; exact ⟨q0, q1, qP, va_K.moved (u := U) (U := U.calling g mk a) (Vm.Alike.refl U.vm) qK, qD⟩, va_recv hKc hPc (ci := 3) (q0 := 0) rfl rfl, fun U hU hW => ⟨rfl, by rw [hU], by rw [hU]; exact hPc, va_K.moved hW.alike hKc, hDc.weaken (fun _ _ _ _ => trivial)⟩⟩ rfl rfl hl.1 rfl (lv_room (Nat.le_of_ble_eq_true rfl)) dX3_interrupt_104 ⟨(Nat.zero_le _), (Nat.zero_le _)⟩) hS (fun q _ h => hFc q h) hFc (fun u_104 t H locs ht hvm hw hB hz1 hk1 hS => ?_)
    obtain ⟨rg_s_104, bu_port_104, bu_latest_104, pi_control_104, pi_compareLine_104, pi_ground_104, pi_border_104, pi_base_104, pi_flag_104, pi_enabled_104, ic_rows_104, ic_keysSeen_104, ic_enabled_104, ta_control_104, ta_count_104, ta_latch_104, tb_control_104, tb_count_104, tb_latch_104, f_ra_104, f_co_104⟩ := u_104
    obtain ⟨hP1, hK1, hD1⟩ := hB
    rw [ht] at hP1
    obtain ⟨hP, hD⟩ := vb_back (wc := (wwX3 q_pr q_rg q_bu q_ra q_rA q_rc q_rk q_pi q_po q_co q_wc q_wo q_ic q_ky q_ta q_tb k_ra k_rA k_rc k_rk k_po k_co k_wc k_wo k_ky pr_stuck pr_waits pr_interruptsBegun pr_kind pr_step pr_code pr_low pr_high pr_changed pr_missing rg_a rg_x rg_y rg_s rg_flags rg_p bu_port bu_latest pi_line pi_cycle pi_control pi_compareLine pi_ground pi_border pi_base pi_flag pi_enabled pi_idle pi_bad pi_glyphLine pi_rowToFetch ic_rows ic_keysSeen ic_flags ic_enabled ta_controlBits ta_control ta_count ta_latch tb_controlBits tb_control tb_count tb_latch f_ra f_rA f_rc f_rk f_po f_co f_wc f_wo f_ky)) (ws' := (wwX3 q_pr q_rg q_bu q_ra q_rA q_rc q_rk q_pi q_po q_co q_wc q_wo q_ic q_ky q_ta q_tb k_ra k_rA k_rc k_rk k_po k_co k_wc k_wo k_ky pr_stuck pr_waits pr_interruptsBegun pr_kind pr_step pr_code pr_low pr_high pr_changed pr_missing rg_a rg_x rg_y rg_s_104 rg_flags rg_p bu_port_104 bu_latest_104 pi_line pi_cycle pi_control_104 pi_compareLine_104 pi_ground_104 pi_border_104 pi_base_104 pi_flag_104 pi_enabled_104 pi_idle pi_bad pi_glyphLine pi_rowToFetch ic_rows_104 ic_keysSeen_104 ic_flags ic_enabled_104 ta_controlBits ta_control_104 ta_count_104 ta_latch_104 tb_controlBits tb_control_104 tb_count_104 tb_latch_104 f_ra_104 f_rA f_rc f_rk f_po f_co_104 f_wc f_wo f_ky)) hP hD hD1 [0, 1, 2, 3, 4, 5, 6, 7, 8, 9, 10, 11, 12, 13, 14, 15] [] rfl rfl ae_n rfl rfl hk1 hP1
    rw [← hw] at hF
    dsimp only at hF
    refine lv_aload_n hx hb dX3_interrupt_107 rfl (lv_at hl 0 rfl) ?_
    refine va_get (D := (dC, dI)) (ci := 3) (v := .ref q_rg) (C := RX3) (T := TX3) (N := 14) hx hb hts hiX3 hown hK hP 0 rfl rfl 0 (by decide) (hts _ kFX3_12) (fun _ h9 => h9) rfl dX3_interrupt_108 ?_
    refine lv_iconst (v := 4) hx hb dX3_interrupt_111 (by decide) ?_
    refine lv_iconst (v := 1) hx hb dX3_interrupt_112 (by decide) ?_
    have hPc := hP.sub (ws' := (wwX4 q_rg rg_a rg_x rg_y rg_s_104 rg_flags rg_p)) [1] rfl
    have hDc := hD.sub (ws' := (wwX4 q_rg rg_a rg_x rg_y rg_s_104 rg_flags rg_p)) [1] (by decide) rfl
    have hKc := hK.sub (tys' := []) [] rfl
    have hFc := va_free (wc := (wwX4 q_rg rg_a rg_x rg_y rg_s_104 rg_flags rg_p)) hD hS hA [1] rfl
    refine va_callv (va_runV (As := [.int (4:Int32), .int (1:Int32)]) (rest := []) ⟨hx, hb, hml, hown, hts⟩ (mX4_put l dC dI q_rg H.size rg_a rg_x rg_y rg_s_104 rg_flags rg_p (4:Int32) (1:Int32)) (cwV 2 hts (ub_V kMX3_164 kYX4_put kSX4_put kIX4 kBX4_put) rfl rfl rfl (by decide +kernel) ⟨Nat.le_of_ble_eq_true rfl, Nat.le_of_ble_eq_true rfl⟩) ⟨fun a U g mk q => by obtain ⟨q0, q1, qP, qK, qD⟩ := q; exact ⟨q0, q1, qP, va_K.moved (u := U) (U := U.calling g mk a) (Vm.Alike.refl U.vm) qK, qD⟩, va_recv hKc hPc (ci := 4) (q0 := 0) rfl rfl, fun U hU hW => ⟨rfl, by rw [hU], by rw [hU]; exact hPc, va_K.moved hW.alike hKc, hDc.weaken (fun _ _ _ _ => trivial)⟩⟩ rfl rfl hl.1 rfl (lv_room (Nat.le_of_ble_eq_true rfl)) dX3_interrupt_113 ⟨(Nat.zero_le _), (Nat.zero_le _)⟩) hS (fun q _ h => hFc q h) hFc (fun u_113 t H locs ht hvm hw hB hz1 hk1 hS => ?_)
    obtain ⟨hP1, hK1, hD1⟩ := hB
    rw [ht] at hP1
    subst hw
    obtain ⟨hP, hD⟩ := vb_back (wc := (wwX4 q_rg rg_a rg_x rg_y rg_s_104 rg_flags rg_p)) (ws' := (wwX3 q_pr q_rg q_bu q_ra q_rA q_rc q_rk q_pi q_po q_co q_wc q_wo q_ic q_ky q_ta q_tb k_ra k_rA k_rc k_rk k_po k_co k_wc k_wo k_ky pr_stuck pr_waits pr_interruptsBegun pr_kind pr_step pr_code pr_low pr_high pr_changed pr_missing rg_a rg_x rg_y rg_s_104 (fX4_put (4:Int32) (1:Int32) rg_flags) rg_p bu_port_104 bu_latest_104 pi_line pi_cycle pi_control_104 pi_compareLine_104 pi_ground_104 pi_border_104 pi_base_104 pi_flag_104 pi_enabled_104 pi_idle pi_bad pi_glyphLine pi_rowToFetch ic_rows_104 ic_keysSeen_104 ic_flags ic_enabled_104 ta_controlBits ta_control_104 ta_count_104 ta_latch_104 tb_controlBits tb_control_104 tb_count_104 tb_latch_104 f_ra_104 f_rA f_rc f_rk f_po f_co_104 f_wc f_wo f_ky)) hP hD hD1 [1] [0, 2, 3, 4, 5, 6, 7, 8, 9, 10, 11, 12, 13, 14, 15] rfl rfl (ae_c rfl (ae_c rfl (ae_c rfl (ae_c rfl (ae_c rfl (ae_c rfl (ae_c rfl (ae_c rfl (ae_c rfl (ae_c rfl (ae_c rfl (ae_c rfl (ae_c rfl (ae_c rfl (ae_c rfl ae_n))))))))))))))) rfl rfl hk1 hP1
    refine lv_goto (tgt := 164) hx hb dX3_interrupt_116 (by decide) ?_
    exact W.vret hx hb hr (fun t ht hW => ⟨⟨(pr_kind, pr_step, pr_low, rg_s_104, (fX4_put (4:Int32) (1:Int32) rg_flags), rg_p, bu_port_104, bu_latest_104, pi_control_104, pi_compareLine_104, pi_ground_104, pi_border_104, pi_base_104, pi_flag_104, pi_enabled_104, ic_rows_104, ic_keysSeen_104, ic_flags, ic_enabled_104, ta_control_104, ta_count_104, ta_latch_104, tb_control_104, tb_count_104, tb_latch_104, f_ra_104, f_co_104), rfl, hF.symm, by rw [ht]; exact hP, va_K.moved hW.alike hK, hD⟩, hS.F ht⟩) hS.2.2 dX3_interrupt_164
  have hF := hF.trans (if_neg c_4_5)
  by_cases c_4_6 : pr_step = (6:Int32)
  · have hF := hF.trans (if_pos c_4_6)
    refine lv_tableIn (off := 115) (tgt := 119) hx hb dX3_interrupt_4 (by rw [c_4_6]; decide) (by rw [c_4_6]; decide) (by rw [c_4_6]; first | rfl | decide) (by decide) ?_
    refine lv_aload_n hx hb dX3_interrupt_119 rfl (lv_at hl 0 rfl) ?_
    refine lv_aload_n hx hb dX3_interrupt_120 rfl (lv_at hl 0 rfl) ?_
    refine va_get (D := (dC, dI)) (ci := 3) (v := .ref q_bu) (C := RX3) (T := TX3) (N := 14) hx hb hts hiX3 hown hK hP 0 rfl rfl 4 (by decide) (hts _ kFX3_26) (fun _ h9 => h9) rfl dX3_interrupt_121 ?_
    refine lv_sipush (v := 8190) hx hb dX3_interrupt_124 (by decide) ?_
    have hPc := hP.sub (ws' := (wwX0 q_bu q_ra q_rA q_rc q_rk q_pi q_po q_co q_wc q_wo q_ic q_ky q_ta q_tb k_ra k_rA k_rc k_rk k_po k_co k_wc k_wo k_ky bu_port bu_latest pi_line pi_cycle pi_control pi_compareLine pi_ground pi_border pi_base pi_flag pi_enabled pi_idle pi_bad pi_glyphLine pi_rowToFetch ic_rows ic_keysSeen ic_flags ic_enabled ta_controlBits ta_control ta_count ta_latch tb_controlBits tb_control tb_count tb_latch f_ra f_rA f_rc f_rk f_po f_co f_wc f_wo f_ky)) [2, 3, 4, 5, 6, 7, 8, 9, 10, 11, 12, 13, 14, 15] rfl
    have hDc := hD.sub (ws' := (wwX0 q_bu q_ra q_rA q_rc q_rk q_pi q_po q_co q_wc q_wo q_ic q_ky q_ta q_tb k_ra k_rA k_rc k_rk k_po k_co k_wc k_wo k_ky bu_port bu_latest pi_line pi_cycle pi_control pi_compareLine pi_ground pi_border pi_base pi_flag pi_enabled pi_idle pi_bad pi_glyphLine pi_rowToFetch ic_rows ic_keysSeen ic_flags ic_enabled ta_controlBits ta_control ta_count ta_latch tb_controlBits tb_control tb_count tb_latch f_ra f_rA f_rc f_rk f_po f_co f_wc f_wo f_ky)) [2, 3, 4, 5, 6, 7, 8, 9, 10, 11, 12, 13, 14, 15] (by decide) rfl
    have hKc := hK.sub (tys' := [(k_ra, .int), (k_rA, .int), (k_rc, .int), (k_rk, .int), (k_po, .int), (k_co, .int), (k_wc, .int), (k_wo, .int), (k_ky, .int)]) [0, 1, 2, 3, 4, 5, 6, 7, 8] rfl
    have hFc := va_free (wc := (wwX0 q_bu q_ra q_rA q_rc q_rk q_pi q_po q_co q_wc q_wo q_ic q_ky q_ta q_tb k_ra k_rA k_rc k_rk k_po k_co k_wc k_wo k_ky bu_port bu_latest pi_line pi_cycle pi_control pi_compareLine pi_ground pi_border pi_base pi_flag pi_enabled pi_idle pi_bad pi_glyphLine pi_rowToFetch ic_rows ic_keysSeen ic_flags ic_enabled ta_controlBits ta_control ta_count ta_latch tb_controlBits tb_control tb_count tb_latch f_ra f_rA f_rc f_rk f_po f_co f_wc f_wo f_ky)) hD hS hA [2, 3, 4, 5, 6, 7, 8, 9, 10, 11, 12, 13, 14, 15] rfl
    refine va_calli (va_runV (As := [.int (8190:Int32)]) (rest := [.ref q_pr]) ⟨hx, hb, hml, hown, hts⟩ (mX0_read l dC dI q_bu q_ra q_rA q_rc q_rk q_pi q_po q_co q_wc q_wo q_ic q_ky q_ta q_tb k_ra k_rA k_rc k_rk k_po k_co k_wc k_wo k_ky s.heap.size bu_port bu_latest pi_line pi_cycle pi_control pi_compareLine pi_ground pi_border pi_base pi_flag pi_enabled pi_idle pi_bad pi_glyphLine pi_rowToFetch ic_rows ic_keysSeen ic_flags ic_enabled ta_controlBits ta_control ta_count ta_latch tb_controlBits tb_control tb_count tb_latch f_ra f_rA f_rc f_rk f_po f_co f_wc f_wo f_ky (8190:Int32)) (cwV 1 hts (ub_V kMX3_125 kYX0_read kSX0_read kIX0 kBX0_read) rfl rfl rfl (by decide +kernel) ⟨Nat.le_of_ble_eq_true rfl, Nat.le_of_ble_eq_true rfl⟩) ⟨fun a U g mk q => by obtain ⟨q0, q1, qP, qK, qD⟩ := q; exact ⟨q0, q1, qP, va_K.moved (u := U) (U := U.calling g mk a) (Vm.Alike.refl U.vm) qK, qD⟩, va_recv hKc hPc (ci := 0) (q0 := 0) rfl rfl, fun U hU hW => ⟨rfl, by rw [hU], by rw [hU]; exact hPc, va_K.moved hW.alike hKc, hDc.weaken (fun _ _ _ _ => trivial)⟩⟩ rfl rfl hl.1 rfl (lv_room (Nat.le_of_ble_eq_true rfl)) dX3_interrupt_127 ⟨(Nat.zero_le _), (Nat.zero_le _)⟩) hS (fun q _ h => hFc q h) hFc (fun r_127 u_127 t H locs ht hvm hw hB hz1 hk1 hS => ?_)
    obtain ⟨bu_latest_127, ic_flags_127⟩ := u_127
    obtain ⟨hP1, hK1, hD1⟩ := hB
    rw [ht] at hP1
    obtain ⟨hP, hD⟩ := vb_back (wc := (wwX0 q_bu q_ra q_rA q_rc q_rk q_pi q_po q_co q_wc q_wo q_ic q_ky q_ta q_tb k_ra k_rA k_rc k_rk k_po k_co k_wc k_wo k_ky bu_port bu_latest pi_line pi_cycle pi_control pi_compareLine pi_ground pi_border pi_base pi_flag pi_enabled pi_idle pi_bad pi_glyphLine pi_rowToFetch ic_rows ic_keysSeen ic_flags ic_enabled ta_controlBits ta_control ta_count ta_latch tb_controlBits tb_control tb_count tb_latch f_ra f_rA f_rc f_rk f_po f_co f_wc f_wo f_ky)) (ws' := (wwX3 q_pr q_rg q_bu q_ra q_rA q_rc q_rk q_pi q_po q_co q_wc q_wo q_ic q_ky q_ta q_tb k_ra k_rA k_rc k_rk k_po k_co k_wc k_wo k_ky pr_stuck pr_waits pr_interruptsBegun pr_kind pr_step pr_code pr_low pr_high pr_changed pr_missing rg_a rg_x rg_y rg_s rg_flags rg_p bu_port bu_latest_127 pi_line pi_cycle pi_control pi_compareLine pi_ground pi_border pi_base pi_flag pi_enabled pi_idle pi_bad pi_glyphLine pi_rowToFetch ic_rows ic_keysSeen ic_flags_127 ic_enabled ta_controlBits ta_control ta_count ta_latch tb_controlBits tb_control tb_count tb_latch f_ra f_rA f_rc f_rk f_po f_co f_wc f_wo f_ky)) hP hD hD1 [2, 3, 4, 5, 6, 7, 8, 9, 10, 11, 12, 13, 14, 15] [0, 1] rfl rfl (ae_c rfl (ae_c rfl ae_n)) rfl rfl hk1 hP1
    rw [← hw] at hF
    dsimp only at hF
    refine va_put (D := (dC, dI)) (ci := 3) (v := .int r_127) (ty := .int) (C := RX3) (T := TX3) (N := 14) hx hb hts hiX3 tyX3 tyX3_ok nmX3 hown hK hP hD hS 0 rfl rfl 10 (by decide) (hts _ kFX3_168) (fun _ h9 => h9) rfl (by decide +kernel) rfl rfl (Nat.le_of_ble_eq_true rfl) dX3_interrupt_130 (fun H locs hP hD hS => ?_)
    have hP : va_P (dC, dI) vwCl (wwX3 q_pr q_rg q_bu q_ra q_rA q_rc q_rk q_pi q_po q_co q_wc q_wo q_ic q_ky q_ta q_tb k_ra k_rA k_rc k_rk k_po k_co k_wc k_wo k_ky pr_stuck pr_waits pr_interruptsBegun pr_kind pr_step pr_code r_127 pr_high pr_changed pr_missing rg_a rg_x rg_y rg_s rg_flags rg_p bu_port bu_latest_127 pi_line pi_cycle pi_control pi_compareLine pi_ground pi_border pi_base pi_flag pi_enabled pi_idle pi_bad pi_glyphLine pi_rowToFetch ic_rows ic_keysSeen ic_flags_127 ic_enabled ta_controlBits ta_control ta_count ta_latch tb_controlBits tb_control tb_count tb_latch f_ra f_rA f_rc f_rk f_po f_co f_wc f_wo f_ky) H := hP
    have hD : va_D A (wwX3 q_pr q_rg q_bu q_ra q_rA q_rc q_rk q_pi q_po q_co q_wc q_wo q_ic q_ky q_ta q_tb k_ra k_rA k_rc k_rk k_po k_co k_wc k_wo k_ky pr_stuck pr_waits pr_interruptsBegun pr_kind pr_step pr_code r_127 pr_high pr_changed pr_missing rg_a rg_x rg_y rg_s rg_flags rg_p bu_port bu_latest_127 pi_line pi_cycle pi_control pi_compareLine pi_ground pi_border pi_base pi_flag pi_enabled pi_idle pi_bad pi_glyphLine pi_rowToFetch ic_rows ic_keysSeen ic_flags_127 ic_enabled ta_controlBits ta_control ta_count ta_latch tb_controlBits tb_control tb_count tb_latch f_ra f_rA f_rc f_rk f_po f_co f_wc f_wo f_ky) := hD
    refine lv_goto (tgt := 164) hx hb dX3_interrupt_133 (by decide) ?_
    exact W.vret hx hb hr (fun t ht hW => ⟨⟨(pr_kind, pr_step, r_127, rg_s, rg_flags, rg_p, bu_port, bu_latest_127, pi_control, pi_compareLine, pi_ground, pi_border, pi_base, pi_flag, pi_enabled, ic_rows, ic_keysSeen, ic_flags_127, ic_enabled, ta_control, ta_count, ta_latch, tb_control, tb_count, tb_latch, f_ra, f_co), rfl, hF.symm, by rw [ht]; exact hP, va_K.moved hW.alike hK, hD⟩, hS.F ht⟩) hS.2.2 dX3_interrupt_164
  have hF := hF.trans (if_neg c_4_6)
  refine vt_dflt (tgt := 136) hx hb dX3_interrupt_4 (fun x_ h1 h2 h3 => by have n2 := lv_neT (a := 2) c_4_2 rfl; have n3 := lv_neT (a := 3) c_4_3 rfl; have n4 := lv_neT (a := 4) c_4_4 rfl; have n5 := lv_neT (a := 5) c_4_5 rfl; have n6 := lv_neT (a := 6) c_4_6 rfl; exfalso; omega) (by decide) ?_
  refine lv_aload_n hx hb dX3_interrupt_136 rfl (lv_at hl 0 rfl) ?_
  refine va_get (D := (dC, dI)) (ci := 3) (v := .ref q_rg) (C := RX3) (T := TX3) (N := 14) hx hb hts hiX3 hown hK hP 0 rfl rfl 0 (by decide) (hts _ kFX3_12) (fun _ h9 => h9) rfl dX3_interrupt_137 ?_
  refine lv_aload_n hx hb dX3_interrupt_140 rfl (lv_at hl 0 rfl) ?_
  refine va_get (D := (dC, dI)) (ci := 3) (v := .int pr_low) (C := RX3) (T := TX3) (N := 14) hx hb hts hiX3 hown hK hP 0 rfl rfl 10 (by decide) (hts _ kFX3_168) (fun _ h9 => h9) rfl dX3_interrupt_141 ?_
  refine lv_aload_n hx hb dX3_interrupt_144 rfl (lv_at hl 0 rfl) ?_
  refine va_get (D := (dC, dI)) (ci := 3) (v := .ref q_bu) (C := RX3) (T := TX3) (N := 14) hx hb hts hiX3 hown hK hP 0 rfl rfl 4 (by decide) (hts _ kFX3_26) (fun _ h9 => h9) rfl dX3_interrupt_145 ?_
  refine lv_sipush (v := 8191) hx hb dX3_interrupt_148 (by decide) ?_
  have hPc := hP.sub (ws' := (wwX0 q_bu q_ra q_rA q_rc q_rk q_pi q_po q_co q_wc q_wo q_ic q_ky q_ta q_tb k_ra k_rA k_rc k_rk k_po k_co k_wc k_wo k_ky bu_port bu_latest pi_line pi_cycle pi_control pi_compareLine pi_ground pi_border pi_base pi_flag pi_enabled pi_idle pi_bad pi_glyphLine pi_rowToFetch ic_rows ic_keysSeen ic_flags ic_enabled ta_controlBits ta_control ta_count ta_latch tb_controlBits tb_control tb_count tb_latch f_ra f_rA f_rc f_rk f_po f_co f_wc f_wo f_ky)) [2, 3, 4, 5, 6, 7, 8, 9, 10, 11, 12, 13, 14, 15] rfl
  have hDc := hD.sub (ws' := (wwX0 q_bu q_ra q_rA q_rc q_rk q_pi q_po q_co q_wc q_wo q_ic q_ky q_ta q_tb k_ra k_rA k_rc k_rk k_po k_co k_wc k_wo k_ky bu_port bu_latest pi_line pi_cycle pi_control pi_compareLine pi_ground pi_border pi_base pi_flag pi_enabled pi_idle pi_bad pi_glyphLine pi_rowToFetch ic_rows ic_keysSeen ic_flags ic_enabled ta_controlBits ta_control ta_count ta_latch tb_controlBits tb_control tb_count tb_latch f_ra f_rA f_rc f_rk f_po f_co f_wc f_wo f_ky)) [2, 3, 4, 5, 6, 7, 8, 9, 10, 11, 12, 13, 14, 15] (by decide) rfl
  have hKc := hK.sub (tys' := [(k_ra, .int), (k_rA, .int), (k_rc, .int), (k_rk, .int), (k_po, .int), (k_co, .int), (k_wc, .int), (k_wo, .int), (k_ky, .int)]) [0, 1, 2, 3, 4, 5, 6, 7, 8] rfl
  have hFc := va_free (wc := (wwX0 q_bu q_ra q_rA q_rc q_rk q_pi q_po q_co q_wc q_wo q_ic q_ky q_ta q_tb k_ra k_rA k_rc k_rk k_po k_co k_wc k_wo k_ky bu_port bu_latest pi_line pi_cycle pi_control pi_compareLine pi_ground pi_border pi_base pi_flag pi_enabled pi_idle pi_bad pi_glyphLine pi_rowToFetch ic_rows ic_keysSeen ic_flags ic_enabled ta_controlBits ta_control ta_count ta_latch tb_controlBits tb_control tb_count tb_latch f_ra f_rA f_rc f_rk f_po f_co f_wc f_wo f_ky)) hD hS hA [2, 3, 4, 5, 6, 7, 8, 9, 10, 11, 12, 13, 14, 15] rfl
  refine va_calli (va_runV (As := [.int (8191:Int32)]) (rest := [.int pr_low, .ref q_rg]) ⟨hx, hb, hml, hown, hts⟩ (mX0_read l dC dI q_bu q_ra q_rA q_rc q_rk q_pi q_po q_co q_wc q_wo q_ic q_ky q_ta q_tb k_ra k_rA k_rc k_rk k_po k_co k_wc k_wo k_ky s.heap.size bu_port bu_latest pi_line pi_cycle pi_control pi_compareLine pi_ground pi_border pi_base pi_flag pi_enabled pi_idle pi_bad pi_glyphLine pi_rowToFetch ic_rows ic_keysSeen ic_flags ic_enabled ta_controlBits ta_control ta_count ta_latch tb_controlBits tb_control tb_count tb_latch f_ra f_rA f_rc f_rk f_po f_co f_wc f_wo f_ky (8191:Int32)) (cwV 1 hts (ub_V kMX3_125 kYX0_read kSX0_read kIX0 kBX0_read) rfl rfl rfl (by decide +kernel) ⟨Nat.le_of_ble_eq_true rfl, Nat.le_of_ble_eq_true rfl⟩) ⟨fun a U g mk q => by obtain ⟨q0, q1, qP, qK, qD⟩ := q; exact ⟨q0, q1, qP, va_K.moved (u := U) (U := U.calling g mk a) (Vm.Alike.refl U.vm) qK, qD⟩, va_recv hKc hPc (ci := 0) (q0 := 0) rfl rfl, fun U hU hW => ⟨rfl, by rw [hU], by rw [hU]; exact hPc, va_K.moved hW.alike hKc, hDc.weaken (fun _ _ _ _ => trivial)⟩⟩ rfl rfl hl.1 rfl (lv_room (Nat.le_of_ble_eq_true rfl)) dX3_interrupt_151 ⟨(Nat.zero_le _), (Nat.zero_le _)⟩) hS (fun q _ h => hFc q h) hFc (fun r_151 u_151 t H locs ht hvm hw hB hz1 hk1 hS => ?_)
  obtain ⟨bu_latest_151, ic_flags_151⟩ := u_151
  obtain ⟨hP1, hK1, hD1⟩ := hB
  rw [ht] at hP1
  obtain ⟨hP, hD⟩ := vb_back (wc := (wwX0 q_bu q_ra q_rA q_rc q_rk q_pi q_po q_co q_wc q_wo q_ic q_ky q_ta q_tb k_ra k_rA k_rc k_rk k_po k_co k_wc k_wo k_ky bu_port bu_latest pi_line pi_cycle pi_control pi_compareLine pi_ground pi_border pi_base pi_flag pi_enabled pi_idle pi_bad pi_glyphLine pi_rowToFetch ic_rows ic_keysSeen ic_flags ic_enabled ta_controlBits ta_control ta_count ta_latch tb_controlBits tb_control tb_count tb_latch f_ra f_rA f_rc f_rk f_po f_co f_wc f_wo f_ky)) (ws' := (wwX3 q_pr q_rg q_bu q_ra q_rA q_rc q_rk q_pi q_po q_co q_wc q_wo q_ic q_ky q_ta q_tb k_ra k_rA k_rc k_rk k_po k_co k_wc k_wo k_ky pr_stuck pr_waits pr_interruptsBegun pr_kind pr_step pr_code pr_low pr_high pr_changed pr_missing rg_a rg_x rg_y rg_s rg_flags rg_p bu_port bu_latest_151 pi_line pi_cycle pi_control pi_compareLine pi_ground pi_border pi_base pi_flag pi_enabled pi_idle pi_bad pi_glyphLine pi_rowToFetch ic_rows ic_keysSeen ic_flags_151 ic_enabled ta_controlBits ta_control ta_count ta_latch tb_controlBits tb_control tb_count tb_latch f_ra f_rA f_rc f_rk f_po f_co f_wc f_wo f_ky)) hP hD hD1 [2, 3, 4, 5, 6, 7, 8, 9, 10, 11, 12, 13, 14, 15] [0, 1] rfl rfl (ae_c rfl (ae_c rfl ae_n)) rfl rfl hk1 hP1
  rw [← hw] at hF
  dsimp only at hF
  have hPc := hP.sub (ws' := ([] : va_W)) [] rfl
  have hDc := hD.sub (ws' := ([] : va_W)) [] (by decide) rfl
  have hKc := hK.sub (tys' := []) [] rfl
  have hFc := va_free (wc := ([] : va_W)) hD hS hA [] rfl
  refine va_calli (va_runS (As := [.int pr_low, .int r_151]) (rest := [.ref q_rg]) ⟨hx, hb, hml, hown, hts⟩ (mX3_word l dC dI H.size pr_low r_151) (va_cwS 2 hts (ub_S kMX3_44 kTX3_word kIX3 kBX3_word) rfl rfl rfl (by decide +kernel) ⟨Nat.le_of_ble_eq_true rfl, Nat.le_of_ble_eq_true rfl⟩) ⟨fun a U g mk q => by obtain ⟨q0, q1, qP, qK, qD⟩ := q; exact ⟨q0, q1, qP, va_K.moved (u := U) (U := U.calling g mk a) (Vm.Alike.refl U.vm) qK, qD⟩, fun U hU hW => ⟨rfl, by rw [hU], by rw [hU]; exact hPc, va_K.moved hW.alike hKc, hDc.weaken (fun _ _ _ _ => trivial)⟩⟩ rfl rfl hl.1 rfl (lv_room (Nat.le_of_ble_eq_true rfl)) dX3_interrupt_154 ⟨(Nat.zero_le _), (Nat.zero_le _)⟩) hS (fun q _ h => hFc q h) hFc (fun r_154 u_154 t H locs ht hvm hw hB hz1 hk1 hS => ?_)
  obtain ⟨hP1, hK1, hD1⟩ := hB
  rw [ht] at hP1
  subst hw
  obtain ⟨hP, hD⟩ := vb_back (wc := ([] : va_W)) (ws' := (wwX3 q_pr q_rg q_bu q_ra q_rA q_rc q_rk q_pi q_po q_co q_wc q_wo q_ic q_ky q_ta q_tb k_ra k_rA k_rc k_rk k_po k_co k_wc k_wo k_ky pr_stuck pr_waits pr_interruptsBegun pr_kind pr_step pr_code pr_low pr_high pr_changed pr_missing rg_a rg_x rg_y rg_s rg_flags rg_p bu_port bu_latest_151 pi_line pi_cycle pi_control pi_compareLine pi_ground pi_border pi_base pi_flag pi_enabled pi_idle pi_bad pi_glyphLine pi_rowToFetch ic_rows ic_keysSeen ic_flags_151 ic_enabled ta_controlBits ta_control ta_count ta_latch tb_controlBits tb_control tb_count tb_latch f_ra f_rA f_rc f_rk f_po f_co f_wc f_wo f_ky)) hP hD hD1 [] [0, 1, 2, 3, 4, 5, 6, 7, 8, 9, 10, 11, 12, 13, 14, 15] rfl rfl (ae_c rfl (ae_c rfl (ae_c rfl (ae_c rfl (ae_c rfl (ae_c rfl (ae_c rfl (ae_c rfl (ae_c rfl (ae_c rfl (ae_c rfl (ae_c rfl (ae_c rfl (ae_c rfl (ae_c rfl (ae_c rfl ae_n)))))))))))))))) rfl rfl hk1 hP1
  refine va_put (D := (dC, dI)) (ci := 4) (v := .int (fX3_word pr_low r_151)) (ty := .int) (C := RX4) (T := TX4) (N := 6) hx hb hts hiX4 tyX4 tyX4_ok nmX4 hown hK hP hD hS 1 rfl rfl 5 (by decide) (hts _ kFX3_122) (fun _ h9 => h9) rfl (by decide +kernel) rfl rfl (Nat.le_of_ble_eq_true rfl) dX3_interrupt_157 (fun H locs hP hD hS => ?_)
  have hP : va_P (dC, dI) vwCl (wwX3 q_pr q_rg q_bu q_ra q_rA q_rc q_rk q_pi q_po q_co q_wc q_wo q_ic q_ky q_ta q_tb k_ra k_rA k_rc k_rk k_po k_co k_wc k_wo k_ky pr_stuck pr_waits pr_interruptsBegun pr_kind pr_step pr_code pr_low pr_high pr_changed pr_missing rg_a rg_x rg_y rg_s rg_flags (fX3_word pr_low r_151) bu_port bu_latest_151 pi_line pi_cycle pi_control pi_compareLine pi_ground pi_border pi_base pi_flag pi_enabled pi_idle pi_bad pi_glyphLine pi_rowToFetch ic_rows ic_keysSeen ic_flags_151 ic_enabled ta_controlBits ta_control ta_count ta_latch tb_controlBits tb_control tb_count tb_latch f_ra f_rA f_rc f_rk f_po f_co f_wc f_wo f_ky) H := hP
  have hD : va_D A (wwX3 q_pr q_rg q_bu q_ra q_rA q_rc q_rk q_pi q_po q_co q_wc q_wo q_ic q_ky q_ta q_tb k_ra k_rA k_rc k_rk k_po k_co k_wc k_wo k_ky pr_stuck pr_waits pr_interruptsBegun pr_kind pr_step pr_code pr_low pr_high pr_changed pr_missing rg_a rg_x rg_y rg_s rg_flags (fX3_word pr_low r_151) bu_port bu_latest_151 pi_line pi_cycle pi_control pi_compareLine pi_ground pi_border pi_base pi_flag pi_enabled pi_idle pi_bad pi_glyphLine pi_rowToFetch ic_rows ic_keysSeen ic_flags_151 ic_enabled ta_controlBits ta_control ta_count ta_latch tb_controlBits tb_control tb_count tb_latch f_ra f_rA f_rc f_rk f_po f_co f_wc f_wo f_ky) := hD
  refine lv_aload_n hx hb dX3_interrupt_160 rfl (lv_at hl 0 rfl) ?_
  have hPc := hP.sub (ws' := (wwX3 q_pr q_rg q_bu q_ra q_rA q_rc q_rk q_pi q_po q_co q_wc q_wo q_ic q_ky q_ta q_tb k_ra k_rA k_rc k_rk k_po k_co k_wc k_wo k_ky pr_stuck pr_waits pr_interruptsBegun pr_kind pr_step pr_code pr_low pr_high pr_changed pr_missing rg_a rg_x rg_y rg_s rg_flags (fX3_word pr_low r_151) bu_port bu_latest_151 pi_line pi_cycle pi_control pi_compareLine pi_ground pi_border pi_base pi_flag pi_enabled pi_idle pi_bad pi_glyphLine pi_rowToFetch ic_rows ic_keysSeen ic_flags_151 ic_enabled ta_controlBits ta_control ta_count ta_latch tb_controlBits tb_control tb_count tb_latch f_ra f_rA f_rc f_rk f_po f_co f_wc f_wo f_ky)) [0, 1, 2, 3, 4, 5, 6, 7, 8, 9, 10, 11, 12, 13, 14, 15] rfl
  have hDc := hD.sub (ws' := (wwX3 q_pr q_rg q_bu q_ra q_rA q_rc q_rk q_pi q_po q_co q_wc q_wo q_ic q_ky q_ta q_tb k_ra k_rA k_rc k_rk k_po k_co k_wc k_wo k_ky pr_stuck pr_waits pr_interruptsBegun pr_kind pr_step pr_code pr_low pr_high pr_changed pr_missing rg_a rg_x rg_y rg_s rg_flags (fX3_word pr_low r_151) bu_port bu_latest_151 pi_line pi_cycle pi_control pi_compareLine pi_ground pi_border pi_base pi_flag pi_enabled pi_idle pi_bad pi_glyphLine pi_rowToFetch ic_rows ic_keysSeen ic_flags_151 ic_enabled ta_controlBits ta_control ta_count ta_latch tb_controlBits tb_control tb_count tb_latch f_ra f_rA f_rc f_rk f_po f_co f_wc f_wo f_ky)) [0, 1, 2, 3, 4, 5, 6, 7, 8, 9, 10, 11, 12, 13, 14, 15] (by decide) rfl
  have hKc := hK.sub (tys' := [(k_ra, .int), (k_rA, .int), (k_rc, .int), (k_rk, .int), (k_po, .int), (k_co, .int), (k_wc, .int), (k_wo, .int), (k_ky, .int)]) [0, 1, 2, 3, 4, 5, 6, 7, 8] rfl
  have hFc := va_free (wc := (wwX3 q_pr q_rg q_bu q_ra q_rA q_rc q_rk q_pi q_po q_co q_wc q_wo q_ic q_ky q_ta q_tb k_ra k_rA k_rc k_rk k_po k_co k_wc k_wo k_ky pr_stuck pr_waits pr_interruptsBegun pr_kind pr_step pr_code pr_low pr_high pr_changed pr_missing rg_a rg_x rg_y rg_s rg_flags (fX3_word pr_low r_151) bu_port bu_latest_151 pi_line pi_cycle pi_control pi_compareLine pi_ground pi_border pi_base pi_flag pi_enabled pi_idle pi_bad pi_glyphLine pi_rowToFetch ic_rows ic_keysSeen ic_flags_151 ic_enabled ta_controlBits ta_control ta_count ta_latch tb_controlBits tb_control tb_count tb_latch f_ra f_rA f_rc f_rk f_po f_co f_wc f_wo f_ky)) hD hS hA [0, 1, 2, 3, 4, 5, 6, 7, 8, 9, 10, 11, 12, 13, 14, 15] rfl
  refine va_callv (va_runV (As := []) (rest := []) ⟨hx, hb, hml, hown, hts⟩ (mX3_endInstruction l dC dI q_pr q_rg q_bu q_ra q_rA q_rc q_rk q_pi q_po q_co q_wc q_wo q_ic q_ky q_ta q_tb k_ra k_rA k_rc k_rk k_po k_co k_wc k_wo k_ky H.size pr_stuck pr_waits pr_interruptsBegun pr_kind pr_step pr_code pr_low pr_high pr_changed pr_missing rg_a rg_x rg_y rg_s rg_flags (fX3_word pr_low r_151) bu_port bu_latest_151 pi_line pi_cycle pi_control pi_compareLine pi_ground pi_border pi_base pi_flag pi_enabled pi_idle pi_bad pi_glyphLine pi_rowToFetch ic_rows ic_keysSeen ic_flags_151 ic_enabled ta_controlBits ta_control ta_count ta_latch tb_controlBits tb_control tb_count tb_latch f_ra f_rA f_rc f_rk f_po f_co f_wc f_wo f_ky) (cwV 0 hts (ub_V kMX3_61 kYX3_endInstruction kSX3_endInstruction kIX3 kBX3_endInstruction) rfl rfl rfl (by decide +kernel) ⟨Nat.le_of_ble_eq_true rfl, Nat.le_of_ble_eq_true rfl⟩) ⟨fun a U g mk q => by obtain ⟨q0, q1, qP, qK, qD⟩ := q; exact ⟨q0, q1, qP, va_K.moved (u := U) (U := U.calling g mk a) (Vm.Alike.refl U.vm) qK, qD⟩, va_recv hKc hPc (ci := 3) (q0 := 0) rfl rfl, fun U hU hW => ⟨rfl, by rw [hU], by rw [hU]; exact hPc, va_K.moved hW.alike hKc, hDc.weaken (fun _ _ _ _ => trivial)⟩⟩ rfl rfl hl.1 rfl (lv_room (Nat.le_of_ble_eq_true rfl)) dX3_interrupt_161 ⟨(Nat.zero_le _), (Nat.zero_le _)⟩) hS (fun q _ h => hFc q h) hFc (fun u_161 t H locs ht hvm hw hB hz1 hk1 hS => ?_)
  obtain ⟨pr_kind_161, pr_step_161⟩ := u_161
  obtain ⟨hP1, hK1, hD1⟩ := hB
  rw [ht] at hP1
  obtain ⟨hP, hD⟩ := vb_back (wc := (wwX3 q_pr q_rg q_bu q_ra q_rA q_rc q_rk q_pi q_po q_co q_wc q_wo q_ic q_ky q_ta q_tb k_ra k_rA k_rc k_rk k_po k_co k_wc k_wo k_ky pr_stuck pr_waits pr_interruptsBegun pr_kind pr_step pr_code pr_low pr_high pr_changed pr_missing rg_a rg_x rg_y rg_s rg_flags (fX3_word pr_low r_151) bu_port bu_latest_151 pi_line pi_cycle pi_control pi_compareLine pi_ground pi_border pi_base pi_flag pi_enabled pi_idle pi_bad pi_glyphLine pi_rowToFetch ic_rows ic_keysSeen ic_flags_151 ic_enabled ta_controlBits ta_control ta_count ta_latch tb_controlBits tb_control tb_count tb_latch f_ra f_rA f_rc f_rk f_po f_co f_wc f_wo f_ky)) (ws' := (wwX3 q_pr q_rg q_bu q_ra q_rA q_rc q_rk q_pi q_po q_co q_wc q_wo q_ic q_ky q_ta q_tb k_ra k_rA k_rc k_rk k_po k_co k_wc k_wo k_ky pr_stuck pr_waits pr_interruptsBegun pr_kind_161 pr_step_161 pr_code pr_low pr_high pr_changed pr_missing rg_a rg_x rg_y rg_s rg_flags (fX3_word pr_low r_151) bu_port bu_latest_151 pi_line pi_cycle pi_control pi_compareLine pi_ground pi_border pi_base pi_flag pi_enabled pi_idle pi_bad pi_glyphLine pi_rowToFetch ic_rows ic_keysSeen ic_flags_151 ic_enabled ta_controlBits ta_control ta_count ta_latch tb_controlBits tb_control tb_count tb_latch f_ra f_rA f_rc f_rk f_po f_co f_wc f_wo f_ky)) hP hD hD1 [0, 1, 2, 3, 4, 5, 6, 7, 8, 9, 10, 11, 12, 13, 14, 15] [] rfl rfl ae_n rfl rfl hk1 hP1
  rw [← hw] at hF
  dsimp only at hF
  exact W.vret hx hb hr (fun t ht hW => ⟨⟨(pr_kind_161, pr_step_161, pr_low, rg_s, rg_flags, (fX3_word pr_low r_151), bu_port, bu_latest_151, pi_control, pi_compareLine, pi_ground, pi_border, pi_base, pi_flag, pi_enabled, ic_rows, ic_keysSeen, ic_flags_151, ic_enabled, ta_control, ta_count, ta_latch, tb_control, tb_count, tb_latch, f_ra, f_co), rfl, hF.symm, by rw [ht]; exact hP, va_K.moved hW.alike hK, hD⟩, hS.F ht⟩) hS.2.2 dX3_interrupt_164
def fX4_judged (p1 : Int32) (rg_flags : Int32) : Int32 × Int32 :=
  ((p1 &&& (255:Int32)), (((rg_flags &&& (-131:Int32)) ||| (if (p1 &&& (255:Int32)) = (0:Int32) then (2:Int32) else (0:Int32))) ||| (if (p1 &&& (255:Int32)) < (128:Int32) then (0:Int32) else (128:Int32))))
set_option maxHeartbeats 4000000 in
set_option maxRecDepth 100000 in
theorem mX4_judged (l : Launch) (dC : Nat → ClassId) (dI : Nat → Nat → Nat) (q_rg : Nat) (sz : Nat) (rg_a rg_x rg_y rg_s rg_flags rg_p : Int32) (p1 : Int32) : Met l yX4_judged uX4_judged ({ frames := 0, cells := 0, slots := 0, locals := 0 }) (va_Pc [.ref q_rg, .int p1] (fun U => U.heap.size = sz ∧ va_P (dC, dI) vwCl (wwX4 q_rg rg_a rg_x rg_y rg_s rg_flags rg_p) U.heap ∧ va_K (dC, dI) vwCl [] U ∧ va_D (fun _ => True) (wwX4 q_rg rg_a rg_x rg_y rg_s rg_flags rg_p))) (va_Qi (fun (r : Int32) (u : Int32) => (r, u) = fX4_judged p1 rg_flags) (fun (u : Int32) (t : State) => va_P (dC, dI) vwCl (wwX4 q_rg rg_a rg_x rg_y rg_s u rg_p) t.heap ∧ va_K (dC, dI) vwCl [] t ∧ va_D (va_A (wwX4 q_rg rg_a rg_x rg_y rg_s rg_flags rg_p) sz) (wwX4 q_rg rg_a rg_x rg_y rg_s u rg_p)) (va_A (wwX4 q_rg rg_a rg_x rg_y rg_s rg_flags rg_p) sz)) 0 0 (va_A (wwX4 q_rg rg_a rg_x rg_y rg_s rg_flags rg_p) sz) := by
  refine Met.ofW (cc := cX4_judged) (maxL := 3) (ret := (some .int)) (by decide) rfl ?_
  intro p e s m args below meth c s₁ B hml hv
  obtain ⟨rfl, hsz, hP, hK, hD0⟩ := hv
  have hx := B.exec
  have hb := B.bytes
  have hr := B.returns
  have hts : ∀ w ∈ ub, w.before _ s = true := fun w h => atoms_spec (ws := uX4_judged) B.pre w (List.mem_cons_of_mem _ h)
  have hown : s.vm.findClass RX4 = some m.cls := findClass_of_methodNamed B.named
  have hlocks := B.notSynchronized
  subst hsz
  have hD := hD0.self (sz := s.heap.size)
  generalize hAe : va_A (wwX4 q_rg rg_a rg_x rg_y rg_s rg_flags rg_p) s.heap.size = A at hD ⊢
  have hA : ∀ q : Nat, s.heap.size ≤ q → A q := fun q h => by rw [← hAe]; exact Or.inr h
  have hS : va_S A s.heap s.heap [] := va_S.rf
  have hl := lv_entry ([.ref q_rg, .int p1]) (n := 3) (Nat.le_of_ble_eq_true rfl)
  rw [lg_entry_eq]
  generalize (lg_sl ([.ref q_rg, .int p1]) ++ List.replicate (3 - (lg_sl ([.ref q_rg, .int p1])).length) Slot.unset).toArray = ls at hl ⊢
  have hl : lv_has ls 3 [(0, .ref q_rg), (1, .int p1)] := hl
  have hF := fX4_judged.eq_1 p1 rg_flags
  refine lv_iload_n hx hb dX4_judged_0 rfl (lv_at hl 1 rfl) ?_
  refine lv_sipush (v := 255) hx hb dX4_judged_1 (by decide) ?_
  refine lv_iand hx hb dX4_judged_4 ?_
  refine lv_istore_n (lv' := [(2, .int (p1 &&& (255:Int32))), (0, .ref q_rg), (1, .int p1)]) hx hb dX4_judged_5 rfl hl (by decide) rfl (fun ls hl => ?_)
  refine lv_aload_n hx hb dX4_judged_6 rfl (lv_at hl 1 rfl) ?_
  refine lv_aload_n hx hb dX4_judged_7 rfl (lv_at hl 1 rfl) ?_
  refine va_get (D := (dC, dI)) (ci := 4) (v := .int rg_flags) (C := RX4) (T := TX4) (N := 6) hx hb hts hiX4 hown hK hP 0 rfl rfl 4 (by decide) (hts _ kFX4_13) (fun _ h9 => h9) rfl dX4_judged_8 ?_
  refine lv_sipush (v := -131) hx hb dX4_judged_11 (by decide) ?_
  refine lv_iand hx hb dX4_judged_14 ?_
  refine lv_iload_n hx hb dX4_judged_15 rfl (lv_at hl 0 rfl) ?_
  refine vj_join (j := 24) (rest := [.int (rg_flags &&& (-131:Int32)), .ref q_rg]) (Hyp := fun z H locs => z = (if (p1 &&& (255:Int32)) = (0:Int32) then (2:Int32) else (0:Int32)) ∧ va_P (dC, dI) vwCl (wwX4 q_rg rg_a rg_x rg_y rg_s rg_flags rg_p) H ∧ va_S A s.heap H locs) (fun z H locs hh => ?_) (fun J24 => ?_)
  · obtain ⟨hz, hP, hS⟩ := hh
    subst hz
    refine lv_ior hx hb dX4_judged_24 ?_
    refine lv_iload_n hx hb dX4_judged_25 rfl (lv_at hl 0 rfl) ?_
    refine lv_sipush (v := 128) hx hb dX4_judged_26 (by decide) ?_
    refine vj_join (j := 39) (rest := [.int ((rg_flags &&& (-131:Int32)) ||| (if (p1 &&& (255:Int32)) = (0:Int32) then (2:Int32) else (0:Int32))), .ref q_rg]) (Hyp := fun z H locs => z = (if (p1 &&& (255:Int32)) < (128:Int32) then (0:Int32) else (128:Int32)) ∧ va_P (dC, dI) vwCl (wwX4 q_rg rg_a rg_x rg_y rg_s rg_flags rg_p) H ∧ va_S A s.heap H locs) (fun z H locs hh => ?_) (fun J39 => ?_)
    · obtain ⟨hz, hP, hS⟩ := hh
      subst hz
      refine lv_ior hx hb dX4_judged_39 ?_
      refine va_put (D := (dC, dI)) (ci := 4) (v := .int (((rg_flags &&& (-131:Int32)) ||| (if (p1 &&& (255:Int32)) = (0:Int32) then (2:Int32) else (0:Int32))) ||| (if (p1 &&& (255:Int32)) < (128:Int32) then (0:Int32) else (128:Int32)))) (ty := .int) (C := RX4) (T := TX4) (N := 6) hx hb hts hiX4 tyX4 tyX4_ok nmX4 hown hK hP hD hS 0 rfl rfl 4 (by decide) (hts _ kFX4_13) (fun _ h9 => h9) rfl (by decide +kernel) rfl rfl (Nat.le_of_ble_eq_true rfl) dX4_judged_40 (fun H locs hP hD hS => ?_)
      have hP : va_P (dC, dI) vwCl (wwX4 q_rg rg_a rg_x rg_y rg_s (((rg_flags &&& (-131:Int32)) ||| (if (p1 &&& (255:Int32)) = (0:Int32) then (2:Int32) else (0:Int32))) ||| (if (p1 &&& (255:Int32)) < (128:Int32) then (0:Int32) else (128:Int32))) rg_p) H := hP
      have hD : va_D A (wwX4 q_rg rg_a rg_x rg_y rg_s (((rg_flags &&& (-131:Int32)) ||| (if (p1 &&& (255:Int32)) = (0:Int32) then (2:Int32) else (0:Int32))) ||| (if (p1 &&& (255:Int32)) < (128:Int32) then (0:Int32) else (128:Int32))) rg_p) := hD
      refine lv_iload_n hx hb dX4_judged_43 rfl (lv_at hl 0 rfl) ?_
      exact W.iret (v := (p1 &&& (255:Int32))) hx hb hr (fun t ht hW => ⟨⟨(p1 &&& (255:Int32)), (((rg_flags &&& (-131:Int32)) ||| (if (p1 &&& (255:Int32)) = (0:Int32) then (2:Int32) else (0:Int32))) ||| (if (p1 &&& (255:Int32)) < (128:Int32) then (0:Int32) else (128:Int32))), rfl, hF.symm, by rw [ht]; exact hP, va_K.moved hW.alike hK, hD⟩, hS.F ht⟩) hS.2.2 dX4_judged_44
    · refine lv_icmp_lt (tgt := 38) hx hb dX4_judged_29 (by decide) (fun c_29 => ?_) (fun c_29 => ?_)
      · refine lv_iconst (v := 0) hx hb dX4_judged_38 (by decide) ?_
        exact J39 _ _ _ ⟨by rw [if_pos c_29], hP, hS⟩
      · refine lv_sipush (v := 128) hx hb dX4_judged_32 (by decide) ?_
        refine lv_goto (tgt := 39) hx hb dX4_judged_35 (by decide) ?_
        exact J39 _ _ _ ⟨by rw [if_neg c_29], hP, hS⟩
  · refine lv_if_ne (tgt := 23) hx hb dX4_judged_16 (by decide) (fun c_16 => ?_) (fun c_16 => ?_)
    · refine lv_iconst (v := 0) hx hb dX4_judged_23 (by decide) ?_
      exact J24 _ _ _ ⟨by rw [if_neg c_16], hP, hS⟩
    · refine lv_iconst (v := 2) hx hb dX4_judged_19 (by decide) ?_
      refine lv_goto (tgt := 24) hx hb dX4_judged_20 (by decide) ?_
      exact J24 _ _ _ ⟨by rw [if_pos c_16], hP, hS⟩
def fX4_single (p1 : Int32) (rg_a : Int32) (rg_x : Int32) (rg_y : Int32) (rg_flags : Int32) : Int32 × Int32 × Int32 × Int32 :=
  if p1 = (10:Int32) then
   match (fX4_judged (rg_a * (2:Int32)) (fX4_put (1:Int32) (if rg_a < (128:Int32) then (0:Int32) else (1:Int32)) rg_flags)) with
   | (r_352, rg_flags_352) =>
    (r_352, rg_x, rg_y, rg_flags_352)
  else
   if p1 = (24:Int32) then
    (rg_a, rg_x, rg_y, (fX4_put (1:Int32) (0:Int32) rg_flags))
   else
    if p1 = (56:Int32) then
     (rg_a, rg_x, rg_y, (fX4_put (1:Int32) (1:Int32) rg_flags))
    else
     if p1 = (74:Int32) then
      match (fX4_judged (rg_a / (2:Int32)) (fX4_put (1:Int32) (if (rg_a &&& (1:Int32)) = (0:Int32) then (0:Int32) else (1:Int32)) rg_flags)) with
      | (r_388, rg_flags_388) =>
       (r_388, rg_x, rg_y, rg_flags_388)
     else
      if p1 = (88:Int32) then
       (rg_a, rg_x, rg_y, (fX4_put (4:Int32) (0:Int32) rg_flags))
      else
       if p1 = (120:Int32) then
        (rg_a, rg_x, rg_y, (fX4_put (4:Int32) (1:Int32) rg_flags))
       else
        if p1 = (136:Int32) then
         match (fX4_judged (rg_y - (1:Int32)) rg_flags) with
         | (r_315, rg_flags_315) =>
          (rg_a, rg_x, r_315, rg_flags_315)
        else
         if p1 = (138:Int32) then
          match (fX4_judged rg_x rg_flags) with
          | (r_217, rg_flags_217) =>
           (r_217, rg_x, rg_y, rg_flags_217)
         else
          if p1 = (152:Int32) then
           match (fX4_judged rg_y rg_flags) with
           | (r_247, rg_flags_247) =>
            (r_247, rg_x, rg_y, rg_flags_247)
          else
           if p1 = (168:Int32) then
            match (fX4_judged rg_a rg_flags) with
            | (r_232, rg_flags_232) =>
             (rg_a, rg_x, r_232, rg_flags_232)
           else
            if p1 = (170:Int32) then
             match (fX4_judged rg_a rg_flags) with
             | (r_202, rg_flags_202) =>
              (rg_a, r_202, rg_y, rg_flags_202)
            else
             if p1 = (200:Int32) then
              match (fX4_judged (rg_y + (1:Int32)) rg_flags) with
              | (r_281, rg_flags_281) =>
               (rg_a, rg_x, r_281, rg_flags_281)
             else
              if p1 = (202:Int32) then
               match (fX4_judged (rg_x - (1:Int32)) rg_flags) with
               | (r_298, rg_flags_298) =>
                (rg_a, r_298, rg_y, rg_flags_298)
              else
               if p1 = (216:Int32) then
                (rg_a, rg_x, rg_y, (fX4_put (8:Int32) (0:Int32) rg_flags))
               else
                if p1 = (232:Int32) then
                 match (fX4_judged (rg_x + (1:Int32)) rg_flags) with
                 | (r_264, rg_flags_264) =>
                  (rg_a, r_264, rg_y, rg_flags_264)
                else
                 if p1 = (248:Int32) then
                  (rg_a, rg_x, rg_y, (fX4_put (8:Int32) (1:Int32) rg_flags))
                 else
                  (rg_a, rg_x, rg_y, rg_flags)
set_option maxHeartbeats 4000000 in
set_option maxRecDepth 100000 in
theorem mX4_single (l : Launch) (dC : Nat → ClassId) (dI : Nat → Nat → Nat) (q_rg : Nat) (sz : Nat) (rg_a rg_x rg_y rg_s rg_flags rg_p : Int32) (p1 : Int32) : Met l yX4_single uX4_single ({ frames := 1, cells := 0, slots := 0, locals := 22 }) (va_Pc [.ref q_rg, .int p1] (fun U => U.heap.size = sz ∧ va_P (dC, dI) vwCl (wwX4 q_rg rg_a rg_x rg_y rg_s rg_flags rg_p) U.heap ∧ va_K (dC, dI) vwCl [] U ∧ va_D (fun _ => True) (wwX4 q_rg rg_a rg_x rg_y rg_s rg_flags rg_p))) (va_Qv (fun (u : Int32 × Int32 × Int32 × Int32) => u = fX4_single p1 rg_a rg_x rg_y rg_flags) (fun (u : Int32 × Int32 × Int32 × Int32) (t : State) => va_P (dC, dI) vwCl (wwX4 q_rg u.1 u.2.1 u.2.2.1 rg_s u.2.2.2 rg_p) t.heap ∧ va_K (dC, dI) vwCl [] t ∧ va_D (va_A (wwX4 q_rg rg_a rg_x rg_y rg_s rg_flags rg_p) sz) (wwX4 q_rg u.1 u.2.1 u.2.2.1 rg_s u.2.2.2 rg_p)) (va_A (wwX4 q_rg rg_a rg_x rg_y rg_s rg_flags rg_p) sz)) 0 0 (va_A (wwX4 q_rg rg_a rg_x rg_y rg_s rg_flags rg_p) sz) := by
  refine Met.ofW (cc := cX4_single) (maxL := 2) (ret := none) (by decide) rfl ?_
  intro p e s m args below meth c s₁ B hml hv
  obtain ⟨rfl, hsz, hP, hK, hD0⟩ := hv
  have hx := B.exec
  have hb := B.bytes
  have hr := B.returns
  have hts : ∀ w ∈ ub, w.before _ s = true := fun w h => atoms_spec (ws := uX4_single) B.pre w (List.mem_cons_of_mem _ h)
  have hown : s.vm.findClass RX4 = some m.cls := findClass_of_methodNamed B.named
  have hlocks := B.notSynchronized
  subst hsz
  have hD := hD0.self (sz := s.heap.size)
  generalize hAe : va_A (wwX4 q_rg rg_a rg_x rg_y rg_s rg_flags rg_p) s.heap.size = A at hD ⊢
  have hA : ∀ q : Nat, s.heap.size ≤ q → A q := fun q h => by rw [← hAe]; exact Or.inr h
  have hS : va_S A s.heap s.heap [] := va_S.rf
  have hl := lv_entry ([.ref q_rg, .int p1]) (n := 2) (Nat.le_of_ble_eq_true rfl)
  rw [lg_entry_eq]
  generalize (lg_sl ([.ref q_rg, .int p1]) ++ List.replicate (2 - (lg_sl ([.ref q_rg, .int p1])).length) Slot.unset).toArray = ls at hl ⊢
  have hl : lv_has ls 2 [(0, .ref q_rg), (1, .int p1)] := hl
  have hF := fX4_single.eq_1 p1 rg_a rg_x rg_y rg_flags
  refine lv_iload_n hx hb dX4_single_0 rfl (lv_at hl 1 rfl) ?_
  by_cases c_1_10 : p1 = (10:Int32)
  · have hF := hF.trans (if_pos c_1_10)
    refine lv_lookup (off := 323) (tgt := 324) hx hb dX4_single_1 (by decide) (by rw [c_1_10]; first | rfl | decide) (by decide) ?_
    refine lv_aload_n hx hb dX4_single_324 rfl (lv_at hl 0 rfl) ?_
    refine lv_iconst (v := 1) hx hb dX4_single_325 (by decide) ?_
    refine lv_aload_n hx hb dX4_single_326 rfl (lv_at hl 0 rfl) ?_
    refine va_get (D := (dC, dI)) (ci := 4) (v := .int rg_a) (C := RX4) (T := TX4) (N := 6) hx hb hts hiX4 hown hK hP 0 rfl rfl 0 (by decide) (hts _ kFX4_16) (fun _ h9 => h9) rfl dX4_single_327 ?_
    refine lv_sipush (v := 128) hx hb dX4_single_330 (by decide) ?_
    refine vj_join (j := 341) (rest := [.int (1:Int32), .ref q_rg]) (Hyp := fun z H locs => z = (if rg_a < (128:Int32) then (0:Int32) else (1:Int32)) ∧ va_P (dC, dI) vwCl (wwX4 q_rg rg_a rg_x rg_y rg_s rg_flags rg_p) H ∧ va_S A s.heap H locs) (fun z H locs hh => ?_) (fun J341 => ?_)
    · obtain ⟨hz, hP, hS⟩ := hh
      subst hz
      have hPc := hP.sub (ws' := (wwX4 q_rg rg_a rg_x rg_y rg_s rg_flags rg_p)) [0] rfl
      have hDc := hD.sub (ws' := (wwX4 q_rg rg_a rg_x rg_y rg_s rg_flags rg_p)) [0] (by decide) rfl
      have hKc := hK.sub (tys' := []) [] rfl
      have hFc := va_free (wc := (wwX4 q_rg rg_a rg_x rg_y rg_s rg_flags rg_p)) hD hS hA [0] rfl
      refine va_callv (va_runV (As := [.int (1:Int32), .int (if rg_a < (128:Int32) then (0:Int32) else (1:Int32))]) (rest := []) ⟨hx, hb, hml, hown, hts⟩ (mX4_put l dC dI q_rg H.size rg_a rg_x rg_y rg_s rg_flags rg_p (1:Int32) (if rg_a < (128:Int32) then (0:Int32) else (1:Int32))) (cwV 2 hts (ub_V kMX4_44 kYX4_put kSX4_put kIX4 kBX4_put) rfl rfl rfl (by decide +kernel) ⟨Nat.le_of_ble_eq_true rfl, Nat.le_of_ble_eq_true rfl⟩) ⟨fun a U g mk q => by obtain ⟨q0, q1, qP, qK, qD⟩ := q; exact ⟨q0, q1, qP, va_K.moved (u := U) (U := U.calling g mk a) (Vm.Alike.refl U.vm) qK, qD⟩, va_recv hKc hPc (ci := 4) (q0 := 0) rfl rfl, fun U hU hW => ⟨rfl, by rw [hU], by rw [hU]; exact hPc, va_K.moved hW.alike hKc, hDc.weaken (fun _ _ _ _ => trivial)⟩⟩ rfl rfl hl.1 rfl (lv_room (Nat.le_of_ble_eq_true rfl)) dX4_single_341 ⟨(Nat.zero_le _), (Nat.zero_le _)⟩) hS (fun q _ h => hFc q h) hFc (fun u_341 t H locs ht hvm hw hB hz1 hk1 hS => ?_)
      obtain ⟨hP1, hK1, hD1⟩ := hB
      rw [ht] at hP1
      subst hw
      obtain ⟨hP, hD⟩ := vb_back (wc := (wwX4 q_rg rg_a rg_x rg_y rg_s rg_flags rg_p)) (ws' := (wwX4 q_rg rg_a rg_x rg_y rg_s (fX4_put (1:Int32) (if rg_a < (128:Int32) then (0:Int32) else (1:Int32)) rg_flags) rg_p)) hP hD hD1 [0] [] rfl rfl ae_n rfl rfl hk1 hP1
      refine lv_aload_n hx hb dX4_single_344 rfl (lv_at hl 0 rfl) ?_
      refine lv_aload_n hx hb dX4_single_345 rfl (lv_at hl 0 rfl) ?_
      refine lv_aload_n hx hb dX4_single_346 rfl (lv_at hl 0 rfl) ?_
      refine va_get (D := (dC, dI)) (ci := 4) (v := .int rg_a) (C := RX4) (T := TX4) (N := 6) hx hb hts hiX4 hown hK hP 0 rfl rfl 0 (by decide) (hts _ kFX4_16) (fun _ h9 => h9) rfl dX4_single_347 ?_
      refine lv_iconst (v := 2) hx hb dX4_single_350 (by decide) ?_
      refine lv_imul hx hb dX4_single_351 ?_
      have hPc := hP.sub (ws' := (wwX4 q_rg rg_a rg_x rg_y rg_s (fX4_put (1:Int32) (if rg_a < (128:Int32) then (0:Int32) else (1:Int32)) rg_flags) rg_p)) [0] rfl
      have hDc := hD.sub (ws' := (wwX4 q_rg rg_a rg_x rg_y rg_s (fX4_put (1:Int32) (if rg_a < (128:Int32) then (0:Int32) else (1:Int32)) rg_flags) rg_p)) [0] (by decide) rfl
      have hKc := hK.sub (tys' := []) [] rfl
      have hFc := va_free (wc := (wwX4 q_rg rg_a rg_x rg_y rg_s (fX4_put (1:Int32) (if rg_a < (128:Int32) then (0:Int32) else (1:Int32)) rg_flags) rg_p)) hD hS hA [0] rfl
      refine va_calli (va_runV (As := [.int (rg_a * (2:Int32))]) (rest := [.ref q_rg]) ⟨hx, hb, hml, hown, hts⟩ (mX4_judged l dC dI q_rg H.size rg_a rg_x rg_y rg_s (fX4_put (1:Int32) (if rg_a < (128:Int32) then (0:Int32) else (1:Int32)) rg_flags) rg_p (rg_a * (2:Int32))) (cwV 1 hts (ub_V kMX4_28 kYX4_judged kSX4_judged kIX4 kBX4_judged) rfl rfl rfl (by decide +kernel) ⟨Nat.le_of_ble_eq_true rfl, Nat.le_of_ble_eq_true rfl⟩) ⟨fun a U g mk q => by obtain ⟨q0, q1, qP, qK, qD⟩ := q; exact ⟨q0, q1, qP, va_K.moved (u := U) (U := U.calling g mk a) (Vm.Alike.refl U.vm) qK, qD⟩, va_recv hKc hPc (ci := 4) (q0 := 0) rfl rfl, fun U hU hW => ⟨rfl, by rw [hU], by rw [hU]; exact hPc, va_K.moved hW.alike hKc, hDc.weaken (fun _ _ _ _ => trivial)⟩⟩ rfl rfl hl.1 rfl (lv_room (Nat.le_of_ble_eq_true rfl)) dX4_single_352 ⟨(Nat.zero_le _), (Nat.zero_le _)⟩) hS (fun q _ h => hFc q h) hFc (fun r_352 u_352 t H locs ht hvm hw hB hz1 hk1 hS => ?_)
      obtain ⟨rg_flags_352, rfl⟩ : ∃ z, z = u_352 := ⟨_, rfl⟩
      obtain ⟨hP1, hK1, hD1⟩ := hB
      rw [ht] at hP1
      obtain ⟨hP, hD⟩ := vb_back (wc := (wwX4 q_rg rg_a rg_x rg_y rg_s (fX4_put (1:Int32) (if rg_a < (128:Int32) then (0:Int32) else (1:Int32)) rg_flags) rg_p)) (ws' := (wwX4 q_rg rg_a rg_x rg_y rg_s rg_flags_352 rg_p)) hP hD hD1 [0] [] rfl rfl ae_n rfl rfl hk1 hP1
      rw [← hw] at hF
      dsimp only at hF
      refine va_put (D := (dC, dI)) (ci := 4) (v := .int r_352) (ty := .int) (C := RX4) (T := TX4) (N := 6) hx hb hts hiX4 tyX4 tyX4_ok nmX4 hown hK hP hD hS 0 rfl rfl 0 (by decide) (hts _ kFX4_16) (fun _ h9 => h9) rfl (by decide +kernel) rfl rfl (Nat.le_of_ble_eq_true rfl) dX4_single_355 (fun H locs hP hD hS => ?_)
      have hP : va_P (dC, dI) vwCl (wwX4 q_rg r_352 rg_x rg_y rg_s rg_flags_352 rg_p) H := hP
      have hD : va_D A (wwX4 q_rg r_352 rg_x rg_y rg_s rg_flags_352 rg_p) := hD
      refine lv_goto (tgt := 397) hx hb dX4_single_358 (by decide) ?_
      exact W.vret hx hb hr (fun t ht hW => ⟨⟨(r_352, rg_x, rg_y, rg_flags_352), rfl, hF.symm, by rw [ht]; exact hP, va_K.moved hW.alike hK, hD⟩, hS.F ht⟩) hS.2.2 dX4_single_397
    · refine lv_icmp_lt (tgt := 340) hx hb dX4_single_333 (by decide) (fun c_333 => ?_) (fun c_333 => ?_)
      · refine lv_iconst (v := 0) hx hb dX4_single_340 (by decide) ?_
        exact J341 _ _ _ ⟨by rw [if_pos c_333], hP, hS⟩
      · refine lv_iconst (v := 1) hx hb dX4_single_336 (by decide) ?_
        refine lv_goto (tgt := 341) hx hb dX4_single_337 (by decide) ?_
        exact J341 _ _ _ ⟨by rw [if_neg c_333], hP, hS⟩
  have hF := hF.trans (if_neg c_1_10)
  by_cases c_1_24 : p1 = (24:Int32)
  · have hF := hF.trans (if_pos c_1_24)
    refine lv_lookup (off := 139) (tgt := 140) hx hb dX4_single_1 (by decide) (by rw [c_1_24]; first | rfl | decide) (by decide) ?_
    refine lv_aload_n hx hb dX4_single_140 rfl (lv_at hl 0 rfl) ?_
    refine lv_iconst (v := 1) hx hb dX4_single_141 (by decide) ?_
    refine lv_iconst (v := 0) hx hb dX4_single_142 (by decide) ?_
    have hPc := hP.sub (ws' := (wwX4 q_rg rg_a rg_x rg_y rg_s rg_flags rg_p)) [0] rfl
    have hDc := hD.sub (ws' := (wwX4 q_rg rg_a rg_x rg_y rg_s rg_flags rg_p)) [0] (by decide) rfl
    have hKc := hK.sub (tys' := []) [] rfl
    have hFc := va_free (wc := (wwX4 q_rg rg_a rg_x rg_y rg_s rg_flags rg_p)) hD hS hA [0] rfl
    refine va_callv (va_runV (As := [.int (1:Int32), .int (0:Int32)]) (rest := []) ⟨hx, hb, hml, hown, hts⟩ (mX4_put l dC dI q_rg s.heap.size rg_a rg_x rg_y rg_s rg_flags rg_p (1:Int32) (0:Int32)) (cwV 2 hts (ub_V kMX4_44 kYX4_put kSX4_put kIX4 kBX4_put) rfl rfl rfl (by decide +kernel) ⟨Nat.le_of_ble_eq_true rfl, Nat.le_of_ble_eq_true rfl⟩) ⟨fun a U g mk q => by obtain ⟨q0, q1, qP, qK, qD⟩ := q; exact ⟨q0, q1, qP, va_K.moved (u := U) (U := U.calling g mk a) (Vm.Alike.refl U.vm) qK, qD⟩, va_recv hKc hPc (ci := 4) (q0 := 0) rfl rfl, fun U hU hW => ⟨rfl, by rw [hU], by rw [hU]; exact hPc, va_K.moved hW.alike hKc, hDc.weaken (fun _ _ _ _ => trivial)⟩⟩ rfl rfl hl.1 rfl (lv_room (Nat.le_of_ble_eq_true rfl)) dX4_single_143 ⟨(Nat.zero_le _), (Nat.zero_le _)⟩) hS (fun q _ h => hFc q h) hFc (fun u_143 t H locs ht hvm hw hB hz1 hk1 hS => ?_)
    obtain ⟨hP1, hK1, hD1⟩ := hB
    rw [ht] at hP1
    subst hw
    obtain ⟨hP, hD⟩ := vb_back (wc := (wwX4 q_rg rg_a rg_x rg_y rg_s rg_flags rg_p)) (ws' := (wwX4 q_rg rg_a rg_x rg_y rg_s (fX4_put (1:Int32) (0:Int32) rg_flags) rg_p)) hP hD hD1 [0] [] rfl rfl ae_n rfl rfl hk1 hP1
    refine lv_goto (tgt := 397) hx hb dX4_single_146 (by decide) ?_
    exact W.vret hx hb hr (fun t ht hW => ⟨⟨(rg_a, rg_x, rg_y, (fX4_put (1:Int32) (0:Int32) rg_flags)), rfl, hF.symm, by rw [ht]; exact hP, va_K.moved hW.alike hK, hD⟩, hS.F ht⟩) hS.2.2 dX4_single_397
  have hF := hF.trans (if_neg c_1_24)
  by_cases c_1_56 : p1 = (56:Int32)
  · have hF := hF.trans (if_pos c_1_56)
    refine lv_lookup (off := 148) (tgt := 149) hx hb dX4_single_1 (by decide) (by rw [c_1_56]; first | rfl | decide) (by decide) ?_
    refine lv_aload_n hx hb dX4_single_149 rfl (lv_at hl 0 rfl) ?_
    refine lv_iconst (v := 1) hx hb dX4_single_150 (by decide) ?_
    refine lv_iconst (v := 1) hx hb dX4_single_151 (by decide) ?_
    have hPc := hP.sub (ws' := (wwX4 q_rg rg_a rg_x rg_y rg_s rg_flags rg_p)) [0] rfl
    have hDc := hD.sub (ws' := (wwX4 q_rg rg_a rg_x rg_y rg_s rg_flags rg_p)) [0] (by decide) rfl
    have hKc := hK.sub (tys' := []) [] rfl
    have hFc := va_free (wc := (wwX4 q_rg rg_a rg_x rg_y rg_s rg_flags rg_p)) hD hS hA [0] rfl
    refine va_callv (va_runV (As := [.int (1:Int32), .int (1:Int32)]) (rest := []) ⟨hx, hb, hml, hown, hts⟩ (mX4_put l dC dI q_rg s.heap.size rg_a rg_x rg_y rg_s rg_flags rg_p (1:Int32) (1:Int32)) (cwV 2 hts (ub_V kMX4_44 kYX4_put kSX4_put kIX4 kBX4_put) rfl rfl rfl (by decide +kernel) ⟨Nat.le_of_ble_eq_true rfl, Nat.le_of_ble_eq_true rfl⟩) ⟨fun a U g mk q => by obtain ⟨q0, q1, qP, qK, qD⟩ := q; exact ⟨q0, q1, qP, va_K.moved (u := U) (U := U.calling g mk a) (Vm.Alike.refl U.vm) qK, qD⟩, va_recv hKc hPc (ci := 4) (q0 := 0) rfl rfl, fun U hU hW => ⟨rfl, by rw [hU], by rw [hU]; exact hPc, va_K.moved hW.alike hKc, hDc.weaken (fun _ _ _ _ => trivial)⟩⟩ rfl rfl hl.1 rfl (lv_room (Nat.le_of_ble_eq_true rfl)) dX4_single_152 ⟨(Nat.zero_le _), (Nat.zero_le _)⟩) hS (fun q _ h => hFc q h) hFc (fun u_152 t H locs ht hvm hw hB hz1 hk1 hS => ?_)
    obtain ⟨hP1, hK1, hD1⟩ := hB
    rw [ht] at hP1
    subst hw
    obtain ⟨hP, hD⟩ := vb_back (wc := (wwX4 q_rg rg_a rg_x rg_y rg_s rg_flags rg_p)) (ws' := (wwX4 q_rg rg_a rg_x rg_y rg_s (fX4_put (1:Int32) (1:Int32) rg_flags) rg_p)) hP hD hD1 [0] [] rfl rfl ae_n rfl rfl hk1 hP1
    refine lv_goto (tgt := 397) hx hb dX4_single_155 (by decide) ?_
    exact W.vret hx hb hr (fun t ht hW => ⟨⟨(rg_a, rg_x, rg_y, (fX4_put (1:Int32) (1:Int32) rg_flags)), rfl, hF.symm, by rw [ht]; exact hP, va_K.moved hW.alike hK, hD⟩, hS.F ht⟩) hS.2.2 dX4_single_397
  have hF := hF.trans (if_neg c_1_56)
  by_cases c_1_74 : p1 = (74:Int32)
  · have hF := hF.trans (if_pos c_1_74)
    refine lv_lookup (off := 360) (tgt := 361) hx hb dX4_single_1 (by decide) (by rw [c_1_74]; first | rfl | decide) (by decide) ?_
    refine lv_aload_n hx hb dX4_single_361 rfl (lv_at hl 0 rfl) ?_
    refine lv_iconst (v := 1) hx hb dX4_single_362 (by decide) ?_
    refine lv_aload_n hx hb dX4_single_363 rfl (lv_at hl 0 rfl) ?_
    refine va_get (D := (dC, dI)) (ci := 4) (v := .int rg_a) (C := RX4) (T := TX4) (N := 6) hx hb hts hiX4 hown hK hP 0 rfl rfl 0 (by decide) (hts _ kFX4_16) (fun _ h9 => h9) rfl dX4_single_364 ?_
    refine lv_iconst (v := 1) hx hb dX4_single_367 (by decide) ?_
    refine lv_iand hx hb dX4_single_368 ?_
    refine vj_join (j := 377) (rest := [.int (1:Int32), .ref q_rg]) (Hyp := fun z H locs => z = (if (rg_a &&& (1:Int32)) = (0:Int32) then (0:Int32) else (1:Int32)) ∧ va_P (dC, dI) vwCl (wwX4 q_rg rg_a rg_x rg_y rg_s rg_flags rg_p) H ∧ va_S A s.heap H locs) (fun z H locs hh => ?_) (fun J377 => ?_)
    · obtain ⟨hz, hP, hS⟩ := hh
      subst hz
      have hPc := hP.sub (ws' := (wwX4 q_rg rg_a rg_x rg_y rg_s rg_flags rg_p)) [0] rfl
      have hDc := hD.sub (ws' := (wwX4 q_rg rg_a rg_x rg_y rg_s rg_flags rg_p)) [0] (by decide) rfl
      have hKc := hK.sub (tys' := []) [] rfl
      have hFc := va_free (wc := (wwX4 q_rg rg_a rg_x rg_y rg_s rg_flags rg_p)) hD hS hA [0] rfl
      refine va_callv (va_runV (As := [.int (1:Int32), .int (if (rg_a &&& (1:Int32)) = (0:Int32) then (0:Int32) else (1:Int32))]) (rest := []) ⟨hx, hb, hml, hown, hts⟩ (mX4_put l dC dI q_rg H.size rg_a rg_x rg_y rg_s rg_flags rg_p (1:Int32) (if (rg_a &&& (1:Int32)) = (0:Int32) then (0:Int32) else (1:Int32))) (cwV 2 hts (ub_V kMX4_44 kYX4_put kSX4_put kIX4 kBX4_put) rfl rfl rfl (by decide +kernel) ⟨Nat.le_of_ble_eq_true rfl, Nat.le_of_ble_eq_true rfl⟩) ⟨fun a U g mk q => by obtain ⟨q0, q1, qP, qK, qD⟩ := q; exact ⟨q0, q1, qP, va_K.moved (u := U) (U := U.calling g mk a) (Vm.Alike.refl U.vm) qK, qD⟩, va_recv hKc hPc (ci := 4) (q0 := 0) rfl rfl, fun U hU hW => ⟨rfl, by rw [hU], by rw [hU]; exact hPc, va_K.moved hW.alike hKc, hDc.weaken (fun _ _ _ _ => trivial)⟩⟩ rfl rfl hl.1 rfl (lv_room (Nat.le_of_ble_eq_true rfl)) dX4_single_377 ⟨(Nat.zero_le _), (Nat.zero_le _)⟩) hS (fun q _ h => hFc q h) hFc (fun u_377 t H locs ht hvm hw hB hz1 hk1 hS => ?_)
      obtain ⟨hP1, hK1, hD1⟩ := hB
      rw [ht] at hP1
      subst hw
      obtain ⟨hP, hD⟩ := vb_back (wc := (wwX4 q_rg rg_a rg_x rg_y rg_s rg_flags rg_p)) (ws' := (wwX4 q_rg rg_a rg_x rg_y rg_s (fX4_put (1:Int32) (if (rg_a &&& (1:Int32)) = (0:Int32) then (0:Int32) else (1:Int32)) rg_flags) rg_p)) hP hD hD1 [0] [] rfl rfl ae_n rfl rfl hk1 hP1
      refine lv_aload_n hx hb dX4_single_380 rfl (lv_at hl 0 rfl) ?_
      refine lv_aload_n hx hb dX4_single_381 rfl (lv_at hl 0 rfl) ?_
      refine lv_aload_n hx hb dX4_single_382 rfl (lv_at hl 0 rfl) ?_
      refine va_get (D := (dC, dI)) (ci := 4) (v := .int rg_a) (C := RX4) (T := TX4) (N := 6) hx hb hts hiX4 hown hK hP 0 rfl rfl 0 (by decide) (hts _ kFX4_16) (fun _ h9 => h9) rfl dX4_single_383 ?_
      refine lv_iconst (v := 2) hx hb dX4_single_386 (by decide) ?_
      refine lv_idiv hx hb dX4_single_387 (by decide) ?_
      have hPc := hP.sub (ws' := (wwX4 q_rg rg_a rg_x rg_y rg_s (fX4_put (1:Int32) (if (rg_a &&& (1:Int32)) = (0:Int32) then (0:Int32) else (1:Int32)) rg_flags) rg_p)) [0] rfl
      have hDc := hD.sub (ws' := (wwX4 q_rg rg_a rg_x rg_y rg_s (fX4_put (1:Int32) (if (rg_a &&& (1:Int32)) = (0:Int32) then (0:Int32) else (1:Int32)) rg_flags) rg_p)) [0] (by decide) rfl
      have hKc := hK.sub (tys' := []) [] rfl
      have hFc := va_free (wc := (wwX4 q_rg rg_a rg_x rg_y rg_s (fX4_put (1:Int32) (if (rg_a &&& (1:Int32)) = (0:Int32) then (0:Int32) else (1:Int32)) rg_flags) rg_p)) hD hS hA [0] rfl
      refine va_calli (va_runV (As := [.int (rg_a / (2:Int32))]) (rest := [.ref q_rg]) ⟨hx, hb, hml, hown, hts⟩ (mX4_judged l dC dI q_rg H.size rg_a rg_x rg_y rg_s (fX4_put (1:Int32) (if (rg_a &&& (1:Int32)) = (0:Int32) then (0:Int32) else (1:Int32)) rg_flags) rg_p (rg_a / (2:Int32))) (cwV 1 hts (ub_V kMX4_28 kYX4_judged kSX4_judged kIX4 kBX4_judged) rfl rfl rfl (by decide +kernel) ⟨Nat.le_of_ble_eq_true rfl, Nat.le_of_ble_eq_true rfl⟩) ⟨fun a U g mk q => by obtain ⟨q0, q1, qP, qK, qD⟩ := q; exact ⟨q0, q1, qP, va_K.moved (u := U) (U := U.calling g mk a) (Vm.Alike.refl U.vm) qK, qD⟩, va_recv hKc hPc (ci := 4) (q0 := 0) rfl rfl, fun U hU hW => ⟨rfl, by rw [hU], by rw [hU]; exact hPc, va_K.moved hW.alike hKc, hDc.weaken (fun _ _ _ _ => trivial)⟩⟩ rfl rfl hl.1 rfl (lv_room (Nat.le_of_ble_eq_true rfl)) dX4_single_388 ⟨(Nat.zero_le _), (Nat.zero_le _)⟩) hS (fun q _ h => hFc q h) hFc (fun r_388 u_388 t H locs ht hvm hw hB hz1 hk1 hS => ?_)
      obtain ⟨rg_flags_388, rfl⟩ : ∃ z, z = u_388 := ⟨_, rfl⟩
      obtain ⟨hP1, hK1, hD1⟩ := hB
      rw [ht] at hP1
      obtain ⟨hP, hD⟩ := vb_back (wc := (wwX4 q_rg rg_a rg_x rg_y rg_s (fX4_put (1:Int32) (if (rg_a &&& (1:Int32)) = (0:Int32) then (0:Int32) else (1:Int32)) rg_flags) rg_p)) (ws' := (wwX4 q_rg rg_a rg_x rg_y rg_s rg_flags_388 rg_p)) hP hD hD1 [0] [] rfl rfl ae_n rfl rfl hk1 hP1
      rw [← hw] at hF
      dsimp only at hF
      refine va_put (D := (dC, dI)) (ci := 4) (v := .int r_388) (ty := .int) (C := RX4) (T := TX4) (N := 6) hx hb hts hiX4 tyX4 tyX4_ok nmX4 hown hK hP hD hS 0 rfl rfl 0 (by decide) (hts _ kFX4_16) (fun _ h9 => h9) rfl (by decide +kernel) rfl rfl (Nat.le_of_ble_eq_true rfl) dX4_single_391 (fun H locs hP hD hS => ?_)
      have hP : va_P (dC, dI) vwCl (wwX4 q_rg r_388 rg_x rg_y rg_s rg_flags_388 rg_p) H := hP
      have hD : va_D A (wwX4 q_rg r_388 rg_x rg_y rg_s rg_flags_388 rg_p) := hD
      refine lv_goto (tgt := 397) hx hb dX4_single_394 (by decide) ?_
      exact W.vret hx hb hr (fun t ht hW => ⟨⟨(r_388, rg_x, rg_y, rg_flags_388), rfl, hF.symm, by rw [ht]; exact hP, va_K.moved hW.alike hK, hD⟩, hS.F ht⟩) hS.2.2 dX4_single_397
    · refine lv_if_eq (tgt := 376) hx hb dX4_single_369 (by decide) (fun c_369 => ?_) (fun c_369 => ?_)
      · refine lv_iconst (v := 0) hx hb dX4_single_376 (by decide) ?_
        exact J377 _ _ _ ⟨by rw [if_pos c_369], hP, hS⟩
      · refine lv_iconst (v := 1) hx hb dX4_single_372 (by decide) ?_
        refine lv_goto (tgt := 377) hx hb dX4_single_373 (by decide) ?_
        exact J377 _ _ _ ⟨by rw [if_neg c_369], hP, hS⟩
  have hF := hF.trans (if_neg c_1_74)
  by_cases c_1_88 : p1 = (88:Int32)
  · have hF := hF.trans (if_pos c_1_88)
    refine lv_lookup (off := 157) (tgt := 158) hx hb dX4_single_1 (by decide) (by rw [c_1_88]; first | rfl | decide) (by decide) ?_
    refine lv_aload_n hx hb dX4_single_158 rfl (lv_at hl 0 rfl) ?_
    refine lv_iconst (v := 4) hx hb dX4_single_159 (by decide) ?_
    refine lv_iconst (v := 0) hx hb dX4_single_160 (by decide) ?_
    have hPc := hP.sub (ws' := (wwX4 q_rg rg_a rg_x rg_y rg_s rg_flags rg_p)) [0] rfl
    have hDc := hD.sub (ws' := (wwX4 q_rg rg_a rg_x rg_y rg_s rg_flags rg_p)) [0] (by decide) rfl
    have hKc := hK.sub (tys' := []) [] rfl
    have hFc := va_free (wc := (wwX4 q_rg rg_a rg_x rg_y rg_s rg_flags rg_p)) hD hS hA [0] rfl
    refine va_callv (va_runV (As := [.int (4:Int32), .int (0:Int32)]) (rest := []) ⟨hx, hb, hml, hown, hts⟩ (mX4_put l dC dI q_rg s.heap.size rg_a rg_x rg_y rg_s rg_flags rg_p (4:Int32) (0:Int32)) (cwV 2 hts (ub_V kMX4_44 kYX4_put kSX4_put kIX4 kBX4_put) rfl rfl rfl (by decide +kernel) ⟨Nat.le_of_ble_eq_true rfl, Nat.le_of_ble_eq_true rfl⟩) ⟨fun a U g mk q => by obtain ⟨q0, q1, qP, qK, qD⟩ := q; exact ⟨q0, q1, qP, va_K.moved (u := U) (U := U.calling g mk a) (Vm.Alike.refl U.vm) qK, qD⟩, va_recv hKc hPc (ci := 4) (q0 := 0) rfl rfl, fun U hU hW => ⟨rfl, by rw [hU], by rw [hU]; exact hPc, va_K.moved hW.alike hKc, hDc.weaken (fun _ _ _ _ => trivial)⟩⟩ rfl rfl hl.1 rfl (lv_room (Nat.le_of_ble_eq_true rfl)) dX4_single_161 ⟨(Nat.zero_le _), (Nat.zero_le _)⟩) hS (fun q _ h => hFc q h) hFc (fun u_161 t H locs ht hvm hw hB hz1 hk1 hS => ?_)
    obtain ⟨hP1, hK1, hD1⟩ := hB
    rw [ht] at hP1
    subst hw
    obtain ⟨hP, hD⟩ := vb_back (wc := (wwX4 q_rg rg_a rg_x rg_y rg_s rg_flags rg_p)) (ws' := (wwX4 q_rg rg_a rg_x rg_y rg_s (fX4_put (4:Int32) (0:Int32) rg_flags) rg_p)) hP hD hD1 [0] [] rfl rfl ae_n rfl rfl hk1 hP1
    refine lv_goto (tgt := 397) hx hb dX4_single_164 (by decide) ?_
    exact W.vret hx hb hr (fun t ht hW => ⟨⟨(rg_a, rg_x, rg_y, (fX4_put (4:Int32) (0:Int32) rg_flags)), rfl, hF.symm, by rw [ht]; exact hP, va_K.moved hW.alike hK, hD⟩, hS.F ht⟩) hS.2.2 dX4_single_397
  have hF := hF.trans (if_neg c_1_88)
  by_cases c_1_120 : p1 = (120:Int32)
  · have hF := hF.trans (if_pos c_1_120)
    refine lv_lookup (off := 166) (tgt := 167) hx hb dX4_single_1 (by decide) (by rw [c_1_120]; first | rfl | decide) (by decide) ?_
    refine lv_aload_n hx hb dX4_single_167 rfl (lv_at hl 0 rfl) ?_
    refine lv_iconst (v := 4) hx hb dX4_single_168 (by decide) ?_
    refine lv_iconst (v := 1) hx hb dX4_single_169 (by decide) ?_
    have hPc := hP.sub (ws' := (wwX4 q_rg rg_a rg_x rg_y rg_s rg_flags rg_p)) [0] rfl
    have hDc := hD.sub (ws' := (wwX4 q_rg rg_a rg_x rg_y rg_s rg_flags rg_p)) [0] (by decide) rfl
    have hKc := hK.sub (tys' := []) [] rfl
    have hFc := va_free (wc := (wwX4 q_rg rg_a rg_x rg_y rg_s rg_flags rg_p)) hD hS hA [0] rfl
    refine va_callv (va_runV (As := [.int (4:Int32), .int (1:Int32)]) (rest := []) ⟨hx, hb, hml, hown, hts⟩ (mX4_put l dC dI q_rg s.heap.size rg_a rg_x rg_y rg_s rg_flags rg_p (4:Int32) (1:Int32)) (cwV 2 hts (ub_V kMX4_44 kYX4_put kSX4_put kIX4 kBX4_put) rfl rfl rfl (by decide +kernel) ⟨Nat.le_of_ble_eq_true rfl, Nat.le_of_ble_eq_true rfl⟩) ⟨fun a U g mk q => by obtain ⟨q0, q1, qP, qK, qD⟩ := q; exact ⟨q0, q1, qP, va_K.moved (u := U) (U := U.calling g mk a) (Vm.Alike.refl U.vm) qK, qD⟩, va_recv hKc hPc (ci := 4) (q0 := 0) rfl rfl, fun U hU hW => ⟨rfl, by rw [hU], by rw [hU]; exact hPc, va_K.moved hW.alike hKc, hDc.weaken (fun _ _ _ _ => trivial)⟩⟩ rfl rfl hl.1 rfl (lv_room (Nat.le_of_ble_eq_true rfl)) dX4_single_170 ⟨(Nat.zero_le _), (Nat.zero_le _)⟩) hS (fun q _ h => hFc q h) hFc (fun u_170 t H locs ht hvm hw hB hz1 hk1 hS => ?_)
    obtain ⟨hP1, hK1, hD1⟩ := hB
    rw [ht] at hP1
    subst hw
    obtain ⟨hP, hD⟩ := vb_back (wc := (wwX4 q_rg rg_a rg_x rg_y rg_s rg_flags rg_p)) (ws' := (wwX4 q_rg rg_a rg_x rg_y rg_s (fX4_put (4:Int32) (1:Int32) rg_flags) rg_p)) hP hD hD1 [0] [] rfl rfl ae_n rfl rfl hk1 hP1
    refine lv_goto (tgt := 397) hx hb dX4_single_173 (by decide) ?_
    exact W.vret hx hb hr (fun t ht hW => ⟨⟨(rg_a, rg_x, rg_y, (fX4_put (4:Int32) (1:Int32) rg_flags)), rfl, hF.symm, by rw [ht]; exact hP, va_K.moved hW.alike hK, hD⟩, hS.F ht⟩) hS.2.2 dX4_single_397
  have hF := hF.trans (if_neg c_1_120)
  by_cases c_1_136 : p1 = (136:Int32)
  · have hF := hF.trans (if_pos c_1_136)
    refine lv_lookup (off := 306) (tgt := 307) hx hb dX4_single_1 (by decide) (by rw [c_1_136]; first | rfl | decide) (by decide) ?_
    refine lv_aload_n hx hb dX4_single_307 rfl (lv_at hl 0 rfl) ?_
    refine lv_aload_n hx hb dX4_single_308 rfl (lv_at hl 0 rfl) ?_
    refine lv_aload_n hx hb dX4_single_309 rfl (lv_at hl 0 rfl) ?_
    refine va_get (D := (dC, dI)) (ci := 4) (v := .int rg_y) (C := RX4) (T := TX4) (N := 6) hx hb hts hiX4 hown hK hP 0 rfl rfl 2 (by decide) (hts _ kFX4_22) (fun _ h9 => h9) rfl dX4_single_310 ?_
    refine lv_iconst (v := 1) hx hb dX4_single_313 (by decide) ?_
    refine lv_isub hx hb dX4_single_314 ?_
    have hPc := hP.sub (ws' := (wwX4 q_rg rg_a rg_x rg_y rg_s rg_flags rg_p)) [0] rfl
    have hDc := hD.sub (ws' := (wwX4 q_rg rg_a rg_x rg_y rg_s rg_flags rg_p)) [0] (by decide) rfl
    have hKc := hK.sub (tys' := []) [] rfl
    have hFc := va_free (wc := (wwX4 q_rg rg_a rg_x rg_y rg_s rg_flags rg_p)) hD hS hA [0] rfl
    refine va_calli (va_runV (As := [.int (rg_y - (1:Int32))]) (rest := [.ref q_rg]) ⟨hx, hb, hml, hown, hts⟩ (mX4_judged l dC dI q_rg s.heap.size rg_a rg_x rg_y rg_s rg_flags rg_p (rg_y - (1:Int32))) (cwV 1 hts (ub_V kMX4_28 kYX4_judged kSX4_judged kIX4 kBX4_judged) rfl rfl rfl (by decide +kernel) ⟨Nat.le_of_ble_eq_true rfl, Nat.le_of_ble_eq_true rfl⟩) ⟨fun a U g mk q => by obtain ⟨q0, q1, qP, qK, qD⟩ := q; exact ⟨q0, q1, qP, va_K.moved (u := U) (U := U.calling g mk a) (Vm.Alike.refl U.vm) qK, qD⟩, va_recv hKc hPc (ci := 4) (q0 := 0) rfl rfl, fun U hU hW => ⟨rfl, by rw [hU], by rw [hU]; exact hPc, va_K.moved hW.alike hKc, hDc.weaken (fun _ _ _ _ => trivial)⟩⟩ rfl rfl hl.1 rfl (lv_room (Nat.le_of_ble_eq_true rfl)) dX4_single_315 ⟨(Nat.zero_le _), (Nat.zero_le _)⟩) hS (fun q _ h => hFc q h) hFc (fun r_315 u_315 t H locs ht hvm hw hB hz1 hk1 hS => ?_)
    obtain ⟨rg_flags_315, rfl⟩ : ∃ z, z = u_315 := ⟨_, rfl⟩
    obtain ⟨hP1, hK1, hD1⟩ := hB
    rw [ht] at hP1
    obtain ⟨hP, hD⟩ := vb_back (wc := (wwX4 q_rg rg_a rg_x rg_y rg_s rg_flags rg_p)) (ws' := (wwX4 q_rg rg_a rg_x rg_y rg_s rg_flags_315 rg_p)) hP hD hD1 [0] [] rfl rfl ae_n rfl rfl hk1 hP1
    rw [← hw] at hF
    dsimp only at hF
    refine va_put (D := (dC, dI)) (ci := 4) (v := .int r_315) (ty := .int) (C := RX4) (T := TX4) (N := 6) hx hb hts hiX4 tyX4 tyX4_ok nmX4 hown hK hP hD hS 0 rfl rfl 2 (by decide) (hts _ kFX4_22) (fun _ h9 => h9) rfl (by decide +kernel) rfl rfl (Nat.le_of_ble_eq_true rfl) dX4_single_318 (fun H locs hP hD hS => ?_)
    have hP : va_P (dC, dI) vwCl (wwX4 q_rg rg_a rg_x r_315 rg_s rg_flags_315 rg_p) H := hP
    have hD : va_D A (wwX4 q_rg rg_a rg_x r_315 rg_s rg_flags_315 rg_p) := hD
    refine lv_goto (tgt := 397) hx hb dX4_single_321 (by decide) ?_
    exact W.vret hx hb hr (fun t ht hW => ⟨⟨(rg_a, rg_x, r_315, rg_flags_315), rfl, hF.symm, by rw [ht]; exact hP, va_K.moved hW.alike hK, hD⟩, hS.F ht⟩) hS.2.2 dX4_single_397
  have hF := hF.trans (if_neg c_1_136)
  by_cases c_1_138 : p1 = (138:Int32)
  · have hF := hF.trans (if_pos c_1_138)
    refine lv_lookup (off := 210) (tgt := 211) hx hb dX4_single_1 (by decide) (by rw [c_1_138]; first | rfl | decide) (by decide) ?_
    refine lv_aload_n hx hb dX4_single_211 rfl (lv_at hl 0 rfl) ?_
    refine lv_aload_n hx hb dX4_single_212 rfl (lv_at hl 0 rfl) ?_
    refine lv_aload_n hx hb dX4_single_213 rfl (lv_at hl 0 rfl) ?_
    refine va_get (D := (dC, dI)) (ci := 4) (v := .int rg_x) (C := RX4) (T := TX4) (N := 6) hx hb hts hiX4 hown hK hP 0 rfl rfl 1 (by decide) (hts _ kFX4_19) (fun _ h9 => h9) rfl dX4_single_214 ?_
    have hPc := hP.sub (ws' := (wwX4 q_rg rg_a rg_x rg_y rg_s rg_flags rg_p)) [0] rfl
    have hDc := hD.sub (ws' := (wwX4 q_rg rg_a rg_x rg_y rg_s rg_flags rg_p)) [0] (by decide) rfl
    have hKc := hK.sub (tys' := []) [] rfl
    have hFc := va_free (wc := (wwX4 q_rg rg_a rg_x rg_y rg_s rg_flags rg_p)) hD hS hA [0] rfl
    refine va_calli (va_runV (As := [.int rg_x]) (rest := [.ref q_rg]) ⟨hx, hb, hml, hown, hts⟩ (mX4_judged l dC dI q_rg s.heap.size rg_a rg_x rg_y rg_s rg_flags rg_p rg_x) (cwV 1 hts (ub_V kMX4_28 kYX4_judged kSX4_judged kIX4 kBX4_judged) rfl rfl rfl (by decide +kernel) ⟨Nat.le_of_ble_eq_true rfl, Nat.le_of_ble_eq_true rfl⟩) ⟨fun a U g mk q => by obtain ⟨q0, q1, qP, qK, qD⟩ := q; exact ⟨q0, q1, qP, va_K.moved (u := U) (U := U.calling g mk a) (Vm.Alike.refl U.vm) qK, qD⟩, va_recv hKc hPc (ci := 4) (q0 := 0) rfl rfl, fun U hU hW => ⟨rfl, by rw [hU], by rw [hU]; exact hPc, va_K.moved hW.alike hKc, hDc.weaken (fun _ _ _ _ => trivial)⟩⟩ rfl rfl hl.1 rfl (lv_room (Nat.le_of_ble_eq_true rfl)) dX4_single_217 ⟨(Nat.zero_le _), (Nat.zero_le _)⟩) hS (fun q _ h => hFc q h) hFc (fun r_217 u_217 t H locs ht hvm hw hB hz1 hk1 hS => ?_)
    obtain ⟨rg_flags_217, rfl⟩ : ∃ z, z = u_217 := ⟨_, rfl⟩
    obtain ⟨hP1, hK1, hD1⟩ := hB
    rw [ht] at hP1
    obtain ⟨hP, hD⟩ := vb_back (wc := (wwX4 q_rg rg_a rg_x rg_y rg_s rg_flags rg_p)) (ws' := (wwX4 q_rg rg_a rg_x rg_y rg_s rg_flags_217 rg_p)) hP hD hD1 [0] [] rfl rfl ae_n rfl rfl hk1 hP1
    rw [← hw] at hF
    dsimp only at hF
    refine va_put (D := (dC, dI)) (ci := 4) (v := .int r_217) (ty := .int) (C := RX4) (T := TX4) (N := 6) hx hb hts hiX4 tyX4 tyX4_ok nmX4 hown hK hP hD hS 0 rfl rfl 0 (by decide) (hts _ kFX4_16) (fun _ h9 => h9) rfl (by decide +kernel) rfl rfl (Nat.le_of_ble_eq_true rfl) dX4_single_220 (fun H locs hP hD hS => ?_)
    have hP : va_P (dC, dI) vwCl (wwX4 q_rg r_217 rg_x rg_y rg_s rg_flags_217 rg_p) H := hP
    have hD : va_D A (wwX4 q_rg r_217 rg_x rg_y rg_s rg_flags_217 rg_p) := hD
    refine lv_goto (tgt := 397) hx hb dX4_single_223 (by decide) ?_
    exact W.vret hx hb hr (fun t ht hW => ⟨⟨(r_217, rg_x, rg_y, rg_flags_217), rfl, hF.symm, by rw [ht]; exact hP, va_K.moved hW.alike hK, hD⟩, hS.F ht⟩) hS.2.2 dX4_single_397
  have hF := hF.trans (if_neg c_1_138)
  by_cases c_1_152 : p1 = (152:Int32)
  · have hF := hF.trans (if_pos c_1_152)
    refine lv_lookup (off := 240) (tgt := 241) hx hb dX4_single_1 (by decide) (by rw [c_1_152]; first | rfl | decide) (by decide) ?_
    refine lv_aload_n hx hb dX4_single_241 rfl (lv_at hl 0 rfl) ?_
    refine lv_aload_n hx hb dX4_single_242 rfl (lv_at hl 0 rfl) ?_
    refine lv_aload_n hx hb dX4_single_243 rfl (lv_at hl 0 rfl) ?_
    refine va_get (D := (dC, dI)) (ci := 4) (v := .int rg_y) (C := RX4) (T := TX4) (N := 6) hx hb hts hiX4 hown hK hP 0 rfl rfl 2 (by decide) (hts _ kFX4_22) (fun _ h9 => h9) rfl dX4_single_244 ?_
    have hPc := hP.sub (ws' := (wwX4 q_rg rg_a rg_x rg_y rg_s rg_flags rg_p)) [0] rfl
    have hDc := hD.sub (ws' := (wwX4 q_rg rg_a rg_x rg_y rg_s rg_flags rg_p)) [0] (by decide) rfl
    have hKc := hK.sub (tys' := []) [] rfl
    have hFc := va_free (wc := (wwX4 q_rg rg_a rg_x rg_y rg_s rg_flags rg_p)) hD hS hA [0] rfl
    refine va_calli (va_runV (As := [.int rg_y]) (rest := [.ref q_rg]) ⟨hx, hb, hml, hown, hts⟩ (mX4_judged l dC dI q_rg s.heap.size rg_a rg_x rg_y rg_s rg_flags rg_p rg_y) (cwV 1 hts (ub_V kMX4_28 kYX4_judged kSX4_judged kIX4 kBX4_judged) rfl rfl rfl (by decide +kernel) ⟨Nat.le_of_ble_eq_true rfl, Nat.le_of_ble_eq_true rfl⟩) ⟨fun a U g mk q => by obtain ⟨q0, q1, qP, qK, qD⟩ := q; exact ⟨q0, q1, qP, va_K.moved (u := U) (U := U.calling g mk a) (Vm.Alike.refl U.vm) qK, qD⟩, va_recv hKc hPc (ci := 4) (q0 := 0) rfl rfl, fun U hU hW => ⟨rfl, by rw [hU], by rw [hU]; exact hPc, va_K.moved hW.alike hKc, hDc.weaken (fun _ _ _ _ => trivial)⟩⟩ rfl rfl hl.1 rfl (lv_room (Nat.le_of_ble_eq_true rfl)) dX4_single_247 ⟨(Nat.zero_le _), (Nat.zero_le _)⟩) hS (fun q _ h => hFc q h) hFc (fun r_247 u_247 t H locs ht hvm hw hB hz1 hk1 hS => ?_)
    obtain ⟨rg_flags_247, rfl⟩ : ∃ z, z = u_247 := ⟨_, rfl⟩
    obtain ⟨hP1, hK1, hD1⟩ := hB
    rw [ht] at hP1
    obtain ⟨hP, hD⟩ := vb_back (wc := (wwX4 q_rg rg_a rg_x rg_y rg_s rg_flags rg_p)) (ws' := (wwX4 q_rg rg_a rg_x rg_y rg_s rg_flags_247 rg_p)) hP hD hD1 [0] [] rfl rfl ae_n rfl rfl hk1 hP1
    rw [← hw] at hF
    dsimp only at hF
    refine va_put (D := (dC, dI)) (ci := 4) (v := .int r_247) (ty := .int) (C := RX4) (T := TX4) (N := 6) hx hb hts hiX4 tyX4 tyX4_ok nmX4 hown hK hP hD hS 0 rfl rfl 0 (by decide) (hts _ kFX4_16) (fun _ h9 => h9) rfl (by decide +kernel) rfl rfl (Nat.le_of_ble_eq_true rfl) dX4_single_250 (fun H locs hP hD hS => ?_)
    have hP : va_P (dC, dI) vwCl (wwX4 q_rg r_247 rg_x rg_y rg_s rg_flags_247 rg_p) H := hP
    have hD : va_D A (wwX4 q_rg r_247 rg_x rg_y rg_s rg_flags_247 rg_p) := hD
    refine lv_goto (tgt := 397) hx hb dX4_single_253 (by decide) ?_
    exact W.vret hx hb hr (fun t ht hW => ⟨⟨(r_247, rg_x, rg_y, rg_flags_247), rfl, hF.symm, by rw [ht]; exact hP, va_K.moved hW.alike hK, hD⟩, hS.F ht⟩) hS.2.2 dX4_single_397
  have hF := hF.trans (if_neg c_1_152)
  by_cases c_1_168 : p1 = (168:Int32)
  · have hF := hF.trans (if_pos c_1_168)
    refine lv_lookup (off := 225) (tgt := 226) hx hb dX4_single_1 (by decide) (by rw [c_1_168]; first | rfl | decide) (by decide) ?_
    refine lv_aload_n hx hb dX4_single_226 rfl (lv_at hl 0 rfl) ?_
    refine lv_aload_n hx hb dX4_single_227 rfl (lv_at hl 0 rfl) ?_
    refine lv_aload_n hx hb dX4_single_228 rfl (lv_at hl 0 rfl) ?_
    refine va_get (D := (dC, dI)) (ci := 4) (v := .int rg_a) (C := RX4) (T := TX4) (N := 6) hx hb hts hiX4 hown hK hP 0 rfl rfl 0 (by decide) (hts _ kFX4_16) (fun _ h9 => h9) rfl dX4_single_229 ?_
    have hPc := hP.sub (ws' := (wwX4 q_rg rg_a rg_x rg_y rg_s rg_flags rg_p)) [0] rfl
    have hDc := hD.sub (ws' := (wwX4 q_rg rg_a rg_x rg_y rg_s rg_flags rg_p)) [0] (by decide) rfl
    have hKc := hK.sub (tys' := []) [] rfl
    have hFc := va_free (wc := (wwX4 q_rg rg_a rg_x rg_y rg_s rg_flags rg_p)) hD hS hA [0] rfl
    refine va_calli (va_runV (As := [.int rg_a]) (rest := [.ref q_rg]) ⟨hx, hb, hml, hown, hts⟩ (mX4_judged l dC dI q_rg s.heap.size rg_a rg_x rg_y rg_s rg_flags rg_p rg_a) (cwV 1 hts (ub_V kMX4_28 kYX4_judged kSX4_judged kIX4 kBX4_judged) rfl rfl rfl (by decide +kernel) ⟨Nat.le_of_ble_eq_true rfl, Nat.le_of_ble_eq_true rfl⟩) ⟨fun a U g mk q => by obtain ⟨q0, q1, qP, qK, qD⟩ := q; exact ⟨q0, q1, qP, va_K.moved (u := U) (U := U.calling g mk a) (Vm.Alike.refl U.vm) qK, qD⟩, va_recv hKc hPc (ci := 4) (q0 := 0) rfl rfl, fun U hU hW => ⟨rfl, by rw [hU], by rw [hU]; exact hPc, va_K.moved hW.alike hKc, hDc.weaken (fun _ _ _ _ => trivial)⟩⟩ rfl rfl hl.1 rfl (lv_room (Nat.le_of_ble_eq_true rfl)) dX4_single_232 ⟨(Nat.zero_le _), (Nat.zero_le _)⟩) hS (fun q _ h => hFc q h) hFc (fun r_232 u_232 t H locs ht hvm hw hB hz1 hk1 hS => ?_)
    obtain ⟨rg_flags_232, rfl⟩ : ∃ z, z = u_232 := ⟨_, rfl⟩
    obtain ⟨hP1, hK1, hD1⟩ := hB
    rw [ht] at hP1
    obtain ⟨hP, hD⟩ := vb_back (wc := (wwX4 q_rg rg_a rg_x rg_y rg_s rg_flags rg_p)) (ws' := (wwX4 q_rg rg_a rg_x rg_y rg_s rg_flags_232 rg_p)) hP hD hD1 [0] [] rfl rfl ae_n rfl rfl hk1 hP1
    rw [← hw] at hF
    dsimp only at hF
    refine va_put (D := (dC, dI)) (ci := 4) (v := .int r_232) (ty := .int) (C := RX4) (T := TX4) (N := 6) hx hb hts hiX4 tyX4 tyX4_ok nmX4 hown hK hP hD hS 0 rfl rfl 2 (by decide) (hts _ kFX4_22) (fun _ h9 => h9) rfl (by decide +kernel) rfl rfl (Nat.le_of_ble_eq_true rfl) dX4_single_235 (fun H locs hP hD hS => ?_)
    have hP : va_P (dC, dI) vwCl (wwX4 q_rg rg_a rg_x r_232 rg_s rg_flags_232 rg_p) H := hP
    have hD : va_D A (wwX4 q_rg rg_a rg_x r_232 rg_s rg_flags_232 rg_p) := hD
    refine lv_goto (tgt := 397) hx hb dX4_single_238 (by decide) ?_
    exact W.vret hx hb hr (fun t ht hW => ⟨⟨(rg_a, rg_x, r_232, rg_flags_232), rfl, hF.symm, by rw [ht]; exact hP, va_K.moved hW.alike hK, hD⟩, hS.F ht⟩) hS.2.2 dX4_single_397
  have hF := hF.trans (if_neg c_1_168)
  by_cases c_1_170 : p1 = (170:Int32)
  · have hF := hF.trans (if_pos c_1_170)
    refine lv_lookup (off := 195) (tgt := 196) hx hb dX4_single_1 (by decide) (by rw [c_1_170]; first | rfl | decide) (by decide) ?_
    refine lv_aload_n hx hb dX4_single_196 rfl (lv_at hl 0 rfl) ?_
    refine lv_aload_n hx hb dX4_single_197 rfl (lv_at hl 0 rfl) ?_
    refine lv_aload_n hx hb dX4_single_198 rfl (lv_at hl 0 rfl) ?_
    refine va_get (D := (dC, dI)) (ci := 4) (v := .int rg_a) (C := RX4) (T := TX4) (N := 6) hx hb hts hiX4 hown hK hP 0 rfl rfl 0 (by decide) (hts _ kFX4_16) (fun _ h9 => h9) rfl dX4_single_199 ?_
    have hPc := hP.sub (ws' := (wwX4 q_rg rg_a rg_x rg_y rg_s rg_flags rg_p)) [0] rfl
    have hDc := hD.sub (ws' := (wwX4 q_rg rg_a rg_x rg_y rg_s rg_flags rg_p)) [0] (by decide) rfl
    have hKc := hK.sub (tys' := []) [] rfl
    have hFc := va_free (wc := (wwX4 q_rg rg_a rg_x rg_y rg_s rg_flags rg_p)) hD hS hA [0] rfl
    refine va_calli (va_runV (As := [.int rg_a]) (rest := [.ref q_rg]) ⟨hx, hb, hml, hown, hts⟩ (mX4_judged l dC dI q_rg s.heap.size rg_a rg_x rg_y rg_s rg_flags rg_p rg_a) (cwV 1 hts (ub_V kMX4_28 kYX4_judged kSX4_judged kIX4 kBX4_judged) rfl rfl rfl (by decide +kernel) ⟨Nat.le_of_ble_eq_true rfl, Nat.le_of_ble_eq_true rfl⟩) ⟨fun a U g mk q => by obtain ⟨q0, q1, qP, qK, qD⟩ := q; exact ⟨q0, q1, qP, va_K.moved (u := U) (U := U.calling g mk a) (Vm.Alike.refl U.vm) qK, qD⟩, va_recv hKc hPc (ci := 4) (q0 := 0) rfl rfl, fun U hU hW => ⟨rfl, by rw [hU], by rw [hU]; exact hPc, va_K.moved hW.alike hKc, hDc.weaken (fun _ _ _ _ => trivial)⟩⟩ rfl rfl hl.1 rfl (lv_room (Nat.le_of_ble_eq_true rfl)) dX4_single_202 ⟨(Nat.zero_le _), (Nat.zero_le _)⟩) hS (fun q _ h => hFc q h) hFc (fun r_202 u_202 t H locs ht hvm hw hB hz1 hk1 hS => ?_)
    obtain ⟨rg_flags_202, rfl⟩ : ∃ z, z = u_202 := ⟨_, rfl⟩
    obtain ⟨hP1, hK1, hD1⟩ := hB
    rw [ht] at hP1
    obtain ⟨hP, hD⟩ := vb_back (wc := (wwX4 q_rg rg_a rg_x rg_y rg_s rg_flags rg_p)) (ws' := (wwX4 q_rg rg_a rg_x rg_y rg_s rg_flags_202 rg_p)) hP hD hD1 [0] [] rfl rfl ae_n rfl rfl hk1 hP1
    rw [← hw] at hF
    dsimp only at hF
    refine va_put (D := (dC, dI)) (ci := 4) (v := .int r_202) (ty := .int) (C := RX4) (T := TX4) (N := 6) hx hb hts hiX4 tyX4 tyX4_ok nmX4 hown hK hP hD hS 0 rfl rfl 1 (by decide) (hts _ kFX4_19) (fun _ h9 => h9) rfl (by decide +kernel) rfl rfl (Nat.le_of_ble_eq_true rfl) dX4_single_205 (fun H locs hP hD hS => ?_)
    have hP : va_P (dC, dI) vwCl (wwX4 q_rg rg_a r_202 rg_y rg_s rg_flags_202 rg_p) H := hP
    have hD : va_D A (wwX4 q_rg rg_a r_202 rg_y rg_s rg_flags_202 rg_p) := hD
    refine lv_goto (tgt := 397) hx hb dX4_single_208 (by decide) ?_
    exact W.vret hx hb hr (fun t ht hW => ⟨⟨(rg_a, r_202, rg_y, rg_flags_202), rfl, hF.symm, by rw [ht]; exact hP, va_K.moved hW.alike hK, hD⟩, hS.F ht⟩) hS.2.2 dX4_single_397
  have hF := hF.trans (if_neg c_1_170)
  by_cases c_1_200 : p1 = (200:Int32)
  · have hF := hF.trans (if_pos c_1_200)
    refine lv_lookup (off := 272) (tgt := 273) hx hb dX4_single_1 (by decide) (by rw [c_1_200]; first | rfl | decide) (by decide) ?_
    refine lv_aload_n hx hb dX4_single_273 rfl (lv_at hl 0 rfl) ?_
    refine lv_aload_n hx hb dX4_single_274 rfl (lv_at hl 0 rfl) ?_
    refine lv_aload_n hx hb dX4_single_275 rfl (lv_at hl 0 rfl) ?_
    refine va_get (D := (dC, dI)) (ci := 4) (v := .int rg_y) (C := RX4) (T := TX4) (N := 6) hx hb hts hiX4 hown hK hP 0 rfl rfl 2 (by decide) (hts _ kFX4_22) (fun _ h9 => h9) rfl dX4_single_276 ?_
    refine lv_iconst (v := 1) hx hb dX4_single_279 (by decide) ?_
    refine lv_iadd hx hb dX4_single_280 ?_
    have hPc := hP.sub (ws' := (wwX4 q_rg rg_a rg_x rg_y rg_s rg_flags rg_p)) [0] rfl
    have hDc := hD.sub (ws' := (wwX4 q_rg rg_a rg_x rg_y rg_s rg_flags rg_p)) [0] (by decide) rfl
    have hKc := hK.sub (tys' := []) [] rfl
    have hFc := va_free (wc := (wwX4 q_rg rg_a rg_x rg_y rg_s rg_flags rg_p)) hD hS hA [0] rfl
    refine va_calli (va_runV (As := [.int (rg_y + (1:Int32))]) (rest := [.ref q_rg]) ⟨hx, hb, hml, hown, hts⟩ (mX4_judged l dC dI q_rg s.heap.size rg_a rg_x rg_y rg_s rg_flags rg_p (rg_y + (1:Int32))) (cwV 1 hts (ub_V kMX4_28 kYX4_judged kSX4_judged kIX4 kBX4_judged) rfl rfl rfl (by decide +kernel) ⟨Nat.le_of_ble_eq_true rfl, Nat.le_of_ble_eq_true rfl⟩) ⟨fun a U g mk q => by obtain ⟨q0, q1, qP, qK, qD⟩ := q; exact ⟨q0, q1, qP, va_K.moved (u := U) (U := U.calling g mk a) (Vm.Alike.refl U.vm) qK, qD⟩, va_recv hKc hPc (ci := 4) (q0 := 0) rfl rfl, fun U hU hW => ⟨rfl, by rw [hU], by rw [hU]; exact hPc, va_K.moved hW.alike hKc, hDc.weaken (fun _ _ _ _ => trivial)⟩⟩ rfl rfl hl.1 rfl (lv_room (Nat.le_of_ble_eq_true rfl)) dX4_single_281 ⟨(Nat.zero_le _), (Nat.zero_le _)⟩) hS (fun q _ h => hFc q h) hFc (fun r_281 u_281 t H locs ht hvm hw hB hz1 hk1 hS => ?_)
    obtain ⟨rg_flags_281, rfl⟩ : ∃ z, z = u_281 := ⟨_, rfl⟩
    obtain ⟨hP1, hK1, hD1⟩ := hB
    rw [ht] at hP1
    obtain ⟨hP, hD⟩ := vb_back (wc := (wwX4 q_rg rg_a rg_x rg_y rg_s rg_flags rg_p)) (ws' := (wwX4 q_rg rg_a rg_x rg_y rg_s rg_flags_281 rg_p)) hP hD hD1 [0] [] rfl rfl ae_n rfl rfl hk1 hP1
    rw [← hw] at hF
    dsimp only at hF
    refine va_put (D := (dC, dI)) (ci := 4) (v := .int r_281) (ty := .int) (C := RX4) (T := TX4) (N := 6) hx hb hts hiX4 tyX4 tyX4_ok nmX4 hown hK hP hD hS 0 rfl rfl 2 (by decide) (hts _ kFX4_22) (fun _ h9 => h9) rfl (by decide +kernel) rfl rfl (Nat.le_of_ble_eq_true rfl) dX4_single_284 (fun H locs hP hD hS => ?_)
    have hP : va_P (dC, dI) vwCl (wwX4 q_rg rg_a rg_x r_281 rg_s rg_flags_281 rg_p) H := hP
    have hD : va_D A (wwX4 q_rg rg_a rg_x r_281 rg_s rg_flags_281 rg_p) := hD
    refine lv_goto (tgt := 397) hx hb dX4_single_287 (by decide) ?_
    exact W.vret hx hb hr (fun t ht hW => ⟨⟨(rg_a, rg_x, r_281, rg_flags_281), rfl, hF.symm, by rw [ht]; exact hP, va_K.moved hW.alike hK, hD⟩, hS.F ht⟩) hS.2.2 dX4_single_397
  have hF := hF.trans (if_neg c_1_200)
  by_cases c_1_202 : p1 = (202:Int32)
  · have hF := hF.trans (if_pos c_1_202)
    refine lv_lookup (off := 289) (tgt := 290) hx hb dX4_single_1 (by decide) (by rw [c_1_202]; first | rfl | decide) (by decide) ?_
    refine lv_aload_n hx hb dX4_single_290 rfl (lv_at hl 0 rfl) ?_
    refine lv_aload_n hx hb dX4_single_291 rfl (lv_at hl 0 rfl) ?_
    refine lv_aload_n hx hb dX4_single_292 rfl (lv_at hl 0 rfl) ?_
    refine va_get (D := (dC, dI)) (ci := 4) (v := .int rg_x) (C := RX4) (T := TX4) (N := 6) hx hb hts hiX4 hown hK hP 0 rfl rfl 1 (by decide) (hts _ kFX4_19) (fun _ h9 => h9) rfl dX4_single_293 ?_
    refine lv_iconst (v := 1) hx hb dX4_single_296 (by decide) ?_
    refine lv_isub hx hb dX4_single_297 ?_
    have hPc := hP.sub (ws' := (wwX4 q_rg rg_a rg_x rg_y rg_s rg_flags rg_p)) [0] rfl
    have hDc := hD.sub (ws' := (wwX4 q_rg rg_a rg_x rg_y rg_s rg_flags rg_p)) [0] (by decide) rfl
    have hKc := hK.sub (tys' := []) [] rfl
    have hFc := va_free (wc := (wwX4 q_rg rg_a rg_x rg_y rg_s rg_flags rg_p)) hD hS hA [0] rfl
    refine va_calli (va_runV (As := [.int (rg_x - (1:Int32))]) (rest := [.ref q_rg]) ⟨hx, hb, hml, hown, hts⟩ (mX4_judged l dC dI q_rg s.heap.size rg_a rg_x rg_y rg_s rg_flags rg_p (rg_x - (1:Int32))) (cwV 1 hts (ub_V kMX4_28 kYX4_judged kSX4_judged kIX4 kBX4_judged) rfl rfl rfl (by decide +kernel) ⟨Nat.le_of_ble_eq_true rfl, Nat.le_of_ble_eq_true rfl⟩) ⟨fun a U g mk q => by obtain ⟨q0, q1, qP, qK, qD⟩ := q; exact ⟨q0, q1, qP, va_K.moved (u := U) (U := U.calling g mk a) (Vm.Alike.refl U.vm) qK, qD⟩, va_recv hKc hPc (ci := 4) (q0 := 0) rfl rfl, fun U hU hW => ⟨rfl, by rw [hU], by rw [hU]; exact hPc, va_K.moved hW.alike hKc, hDc.weaken (fun _ _ _ _ => trivial)⟩⟩ rfl rfl hl.1 rfl (lv_room (Nat.le_of_ble_eq_true rfl)) dX4_single_298 ⟨(Nat.zero_le _), (Nat.zero_le _)⟩) hS (fun q _ h => hFc q h) hFc (fun r_298 u_298 t H locs ht hvm hw hB hz1 hk1 hS => ?_)
    obtain ⟨rg_flags_298, rfl⟩ : ∃ z, z = u_298 := ⟨_, rfl⟩
    obtain ⟨hP1, hK1, hD1⟩ := hB
    rw [ht] at hP1
    obtain ⟨hP, hD⟩ := vb_back (wc := (wwX4 q_rg rg_a rg_x rg_y rg_s rg_flags rg_p)) (ws' := (wwX4 q_rg rg_a rg_x rg_y rg_s rg_flags_298 rg_p)) hP hD hD1 [0] [] rfl rfl ae_n rfl rfl hk1 hP1
    rw [← hw] at hF
    dsimp only at hF
    refine va_put (D := (dC, dI)) (ci := 4) (v := .int r_298) (ty := .int) (C := RX4) (T := TX4) (N := 6) hx hb hts hiX4 tyX4 tyX4_ok nmX4 hown hK hP hD hS 0 rfl rfl 1 (by decide) (hts _ kFX4_19) (fun _ h9 => h9) rfl (by decide +kernel) rfl rfl (Nat.le_of_ble_eq_true rfl) dX4_single_301 (fun H locs hP hD hS => ?_)
    have hP : va_P (dC, dI) vwCl (wwX4 q_rg rg_a r_298 rg_y rg_s rg_flags_298 rg_p) H := hP
    have hD : va_D A (wwX4 q_rg rg_a r_298 rg_y rg_s rg_flags_298 rg_p) := hD
    refine lv_goto (tgt := 397) hx hb dX4_single_304 (by decide) ?_
    exact W.vret hx hb hr (fun t ht hW => ⟨⟨(rg_a, r_298, rg_y, rg_flags_298), rfl, hF.symm, by rw [ht]; exact hP, va_K.moved hW.alike hK, hD⟩, hS.F ht⟩) hS.2.2 dX4_single_397
  have hF := hF.trans (if_neg c_1_202)
  by_cases c_1_216 : p1 = (216:Int32)
  · have hF := hF.trans (if_pos c_1_216)
    refine lv_lookup (off := 175) (tgt := 176) hx hb dX4_single_1 (by decide) (by rw [c_1_216]; first | rfl | decide) (by decide) ?_
    refine lv_aload_n hx hb dX4_single_176 rfl (lv_at hl 0 rfl) ?_
    refine lv_bipush (v := 8) hx hb dX4_single_177 (by decide) ?_
    refine lv_iconst (v := 0) hx hb dX4_single_179 (by decide) ?_
    have hPc := hP.sub (ws' := (wwX4 q_rg rg_a rg_x rg_y rg_s rg_flags rg_p)) [0] rfl
    have hDc := hD.sub (ws' := (wwX4 q_rg rg_a rg_x rg_y rg_s rg_flags rg_p)) [0] (by decide) rfl
    have hKc := hK.sub (tys' := []) [] rfl
    have hFc := va_free (wc := (wwX4 q_rg rg_a rg_x rg_y rg_s rg_flags rg_p)) hD hS hA [0] rfl
    refine va_callv (va_runV (As := [.int (8:Int32), .int (0:Int32)]) (rest := []) ⟨hx, hb, hml, hown, hts⟩ (mX4_put l dC dI q_rg s.heap.size rg_a rg_x rg_y rg_s rg_flags rg_p (8:Int32) (0:Int32)) (cwV 2 hts (ub_V kMX4_44 kYX4_put kSX4_put kIX4 kBX4_put) rfl rfl rfl (by decide +kernel) ⟨Nat.le_of_ble_eq_true rfl, Nat.le_of_ble_eq_true rfl⟩) ⟨fun a U g mk q => by obtain ⟨q0, q1, qP, qK, qD⟩ := q; exact ⟨q0, q1, qP, va_K.moved (u := U) (U := U.calling g mk a) (Vm.Alike.refl U.vm) qK, qD⟩, va_recv hKc hPc (ci := 4) (q0 := 0) rfl rfl, fun U hU hW => ⟨rfl, by rw [hU], by rw [hU]; exact hPc, va_K.moved hW.alike hKc, hDc.weaken (fun _ _ _ _ => trivial)⟩⟩ rfl rfl hl.1 rfl (lv_room (Nat.le_of_ble_eq_true rfl)) dX4_single_180 ⟨(Nat.zero_le _), (Nat.zero_le _)⟩) hS (fun q _ h => hFc q h) hFc (fun u_180 t H locs ht hvm hw hB hz1 hk1 hS => ?_)
    obtain ⟨hP1, hK1, hD1⟩ := hB
    rw [ht] at hP1
    subst hw
    obtain ⟨hP, hD⟩ := vb_back (wc := (wwX4 q_rg rg_a rg_x rg_y rg_s rg_flags rg_p)) (ws' := (wwX4 q_rg rg_a rg_x rg_y rg_s (fX4_put (8:Int32) (0:Int32) rg_flags) rg_p)) hP hD hD1 [0] [] rfl rfl ae_n rfl rfl hk1 hP1
    refine lv_goto (tgt := 397) hx hb dX4_single_183 (by decide) ?_
    exact W.vret hx hb hr (fun t ht hW => ⟨⟨(rg_a, rg_x, rg_y, (fX4_put (8:Int32) (0:Int32) rg_flags)), rfl, hF.symm, by rw [ht]; exact hP, va_K.moved hW.alike hK, hD⟩, hS.F ht⟩) hS.2.2 dX4_single_397
  have hF := hF.trans (if_neg c_1_216)
  by_cases c_1_232 : p1 = (232:Int32)
  · have hF := hF.trans (if_pos c_1_232)
    refine lv_lookup (off := 255) (tgt := 256) hx hb dX4_single_1 (by decide) (by rw [c_1_232]; first | rfl | decide) (by decide) ?_
    refine lv_aload_n hx hb dX4_single_256 rfl (lv_at hl 0 rfl) ?_
    refine lv_aload_n hx hb dX4_single_257 rfl (lv_at hl 0 rfl) ?_
    refine lv_aload_n hx hb dX4_single_258 rfl (lv_at hl 0 rfl) ?_
    refine va_get (D := (dC, dI)) (ci := 4) (v := .int rg_x) (C := RX4) (T := TX4) (N := 6) hx hb hts hiX4 hown hK hP 0 rfl rfl 1 (by decide) (hts _ kFX4_19) (fun _ h9 => h9) rfl dX4_single_259 ?_
    refine lv_iconst (v := 1) hx hb dX4_single_262 (by decide) ?_
    refine lv_iadd hx hb dX4_single_263 ?_
    have hPc := hP.sub (ws' := (wwX4 q_rg rg_a rg_x rg_y rg_s rg_flags rg_p)) [0] rfl
    have hDc := hD.sub (ws' := (wwX4 q_rg rg_a rg_x rg_y rg_s rg_flags rg_p)) [0] (by decide) rfl
    have hKc := hK.sub (tys' := []) [] rfl
    have hFc := va_free (wc := (wwX4 q_rg rg_a rg_x rg_y rg_s rg_flags rg_p)) hD hS hA [0] rfl
    refine va_calli (va_runV (As := [.int (rg_x + (1:Int32))]) (rest := [.ref q_rg]) ⟨hx, hb, hml, hown, hts⟩ (mX4_judged l dC dI q_rg s.heap.size rg_a rg_x rg_y rg_s rg_flags rg_p (rg_x + (1:Int32))) (cwV 1 hts (ub_V kMX4_28 kYX4_judged kSX4_judged kIX4 kBX4_judged) rfl rfl rfl (by decide +kernel) ⟨Nat.le_of_ble_eq_true rfl, Nat.le_of_ble_eq_true rfl⟩) ⟨fun a U g mk q => by obtain ⟨q0, q1, qP, qK, qD⟩ := q; exact ⟨q0, q1, qP, va_K.moved (u := U) (U := U.calling g mk a) (Vm.Alike.refl U.vm) qK, qD⟩, va_recv hKc hPc (ci := 4) (q0 := 0) rfl rfl, fun U hU hW => ⟨rfl, by rw [hU], by rw [hU]; exact hPc, va_K.moved hW.alike hKc, hDc.weaken (fun _ _ _ _ => trivial)⟩⟩ rfl rfl hl.1 rfl (lv_room (Nat.le_of_ble_eq_true rfl)) dX4_single_264 ⟨(Nat.zero_le _), (Nat.zero_le _)⟩) hS (fun q _ h => hFc q h) hFc (fun r_264 u_264 t H locs ht hvm hw hB hz1 hk1 hS => ?_)
    obtain ⟨rg_flags_264, rfl⟩ : ∃ z, z = u_264 := ⟨_, rfl⟩
    obtain ⟨hP1, hK1, hD1⟩ := hB
    rw [ht] at hP1
    obtain ⟨hP, hD⟩ := vb_back (wc := (wwX4 q_rg rg_a rg_x rg_y rg_s rg_flags rg_p)) (ws' := (wwX4 q_rg rg_a rg_x rg_y rg_s rg_flags_264 rg_p)) hP hD hD1 [0] [] rfl rfl ae_n rfl rfl hk1 hP1
    rw [← hw] at hF
    dsimp only at hF
    refine va_put (D := (dC, dI)) (ci := 4) (v := .int r_264) (ty := .int) (C := RX4) (T := TX4) (N := 6) hx hb hts hiX4 tyX4 tyX4_ok nmX4 hown hK hP hD hS 0 rfl rfl 1 (by decide) (hts _ kFX4_19) (fun _ h9 => h9) rfl (by decide +kernel) rfl rfl (Nat.le_of_ble_eq_true rfl) dX4_single_267 (fun H locs hP hD hS => ?_)
    have hP : va_P (dC, dI) vwCl (wwX4 q_rg rg_a r_264 rg_y rg_s rg_flags_264 rg_p) H := hP
    have hD : va_D A (wwX4 q_rg rg_a r_264 rg_y rg_s rg_flags_264 rg_p) := hD
    refine lv_goto (tgt := 397) hx hb dX4_single_270 (by decide) ?_
    exact W.vret hx hb hr (fun t ht hW => ⟨⟨(rg_a, r_264, rg_y, rg_flags_264), rfl, hF.symm, by rw [ht]; exact hP, va_K.moved hW.alike hK, hD⟩, hS.F ht⟩) hS.2.2 dX4_single_397
  have hF := hF.trans (if_neg c_1_232)
  by_cases c_1_248 : p1 = (248:Int32)
  · have hF := hF.trans (if_pos c_1_248)
    refine lv_lookup (off := 185) (tgt := 186) hx hb dX4_single_1 (by decide) (by rw [c_1_248]; first | rfl | decide) (by decide) ?_
    refine lv_aload_n hx hb dX4_single_186 rfl (lv_at hl 0 rfl) ?_
    refine lv_bipush (v := 8) hx hb dX4_single_187 (by decide) ?_
    refine lv_iconst (v := 1) hx hb dX4_single_189 (by decide) ?_
    have hPc := hP.sub (ws' := (wwX4 q_rg rg_a rg_x rg_y rg_s rg_flags rg_p)) [0] rfl
    have hDc := hD.sub (ws' := (wwX4 q_rg rg_a rg_x rg_y rg_s rg_flags rg_p)) [0] (by decide) rfl
    have hKc := hK.sub (tys' := []) [] rfl
    have hFc := va_free (wc := (wwX4 q_rg rg_a rg_x rg_y rg_s rg_flags rg_p)) hD hS hA [0] rfl
    refine va_callv (va_runV (As := [.int (8:Int32), .int (1:Int32)]) (rest := []) ⟨hx, hb, hml, hown, hts⟩ (mX4_put l dC dI q_rg s.heap.size rg_a rg_x rg_y rg_s rg_flags rg_p (8:Int32) (1:Int32)) (cwV 2 hts (ub_V kMX4_44 kYX4_put kSX4_put kIX4 kBX4_put) rfl rfl rfl (by decide +kernel) ⟨Nat.le_of_ble_eq_true rfl, Nat.le_of_ble_eq_true rfl⟩) ⟨fun a U g mk q => by obtain ⟨q0, q1, qP, qK, qD⟩ := q; exact ⟨q0, q1, qP, va_K.moved (u := U) (U := U.calling g mk a) (Vm.Alike.refl U.vm) qK, qD⟩, va_recv hKc hPc (ci := 4) (q0 := 0) rfl rfl, fun U hU hW => ⟨rfl, by rw [hU], by rw [hU]; exact hPc, va_K.moved hW.alike hKc, hDc.weaken (fun _ _ _ _ => trivial)⟩⟩ rfl rfl hl.1 rfl (lv_room (Nat.le_of_ble_eq_true rfl)) dX4_single_190 ⟨(Nat.zero_le _), (Nat.zero_le _)⟩) hS (fun q _ h => hFc q h) hFc (fun u_190 t H locs ht hvm hw hB hz1 hk1 hS => ?_)
    obtain ⟨hP1, hK1, hD1⟩ := hB
    rw [ht] at hP1
    subst hw
    obtain ⟨hP, hD⟩ := vb_back (wc := (wwX4 q_rg rg_a rg_x rg_y rg_s rg_flags rg_p)) (ws' := (wwX4 q_rg rg_a rg_x rg_y rg_s (fX4_put (8:Int32) (1:Int32) rg_flags) rg_p)) hP hD hD1 [0] [] rfl rfl ae_n rfl rfl hk1 hP1
    refine lv_goto (tgt := 397) hx hb dX4_single_193 (by decide) ?_
    exact W.vret hx hb hr (fun t ht hW => ⟨⟨(rg_a, rg_x, rg_y, (fX4_put (8:Int32) (1:Int32) rg_flags)), rfl, hF.symm, by rw [ht]; exact hP, va_K.moved hW.alike hK, hD⟩, hS.F ht⟩) hS.2.2 dX4_single_397
  have hF := hF.trans (if_neg c_1_248)
  refine lv_lookup (off := 396) (tgt := 397) hx hb dX4_single_1 (by decide) (by show Op.lookupswitch.offset ((10, 323) :: (24, 139) :: (56, 148) :: (74, 360) :: (88, 157) :: (120, 166) :: (136, 306) :: (138, 210) :: (152, 240) :: (168, 225) :: (170, 195) :: (200, 272) :: (202, 289) :: (216, 175) :: (232, 255) :: (248, 185) :: []) 396 _ = _; rw [lv_osw (a := 10) c_1_10 (by decide), lv_osw (a := 24) c_1_24 (by decide), lv_osw (a := 56) c_1_56 (by decide), lv_osw (a := 74) c_1_74 (by decide), lv_osw (a := 88) c_1_88 (by decide), lv_osw (a := 120) c_1_120 (by decide), lv_osw (a := 136) c_1_136 (by decide), lv_osw (a := 138) c_1_138 (by decide), lv_osw (a := 152) c_1_152 (by decide), lv_osw (a := 168) c_1_168 (by decide), lv_osw (a := 170) c_1_170 (by decide), lv_osw (a := 200) c_1_200 (by decide), lv_osw (a := 202) c_1_202 (by decide), lv_osw (a := 216) c_1_216 (by decide), lv_osw (a := 232) c_1_232 (by decide), lv_osw (a := 248) c_1_248 (by decide)]; rfl) (by decide) ?_
  exact W.vret hx hb hr (fun t ht hW => ⟨⟨(rg_a, rg_x, rg_y, rg_flags), rfl, hF.symm, by rw [ht]; exact hP, va_K.moved hW.alike hK, hD⟩, hS.F ht⟩) hS.2.2 dX4_single_397
def fX3_single (pr_code : Int32) (rg_a : Int32) (rg_x : Int32) (rg_y : Int32) (rg_flags : Int32) (rg_p : Int32) (bu_port : Int32) (pi_line : Int32) (pi_control : Int32) (pi_ground : Int32) (pi_border : Int32) (pi_base : Int32) (pi_flag : Int32) (pi_enabled : Int32) (ic_rows : Int32) (ic_keysSeen : Int32) (ic_flags : Int32) (ic_enabled : Int32) (ta_control : Int32) (ta_count : Int32) (tb_control : Int32) (tb_count : Int32) (f_ra : Nat → Int32) (f_rA : Nat → Int32) (f_rc : Nat → Int32) (f_rk : Nat → Int32) (f_co : Nat → Int32) : Int32 × Int32 × Int32 × Int32 × Int32 × Int32 × Int32 × Int32 :=
  match (fX0_read rg_p bu_port pi_line pi_control pi_ground pi_border pi_base pi_flag pi_enabled ic_rows ic_keysSeen ic_flags ic_enabled ta_control ta_count tb_control tb_count f_ra f_rA f_rc f_rk f_co) with
  | (r_11, bu_latest_11, ic_flags_11) =>
   match (fX4_single pr_code rg_a rg_x rg_y rg_flags) with
   | (rg_a_23, rg_x_23, rg_y_23, rg_flags_23) =>
    match fX3_endInstruction with
    | (pr_kind_27, pr_step_27) =>
     (pr_kind_27, pr_step_27, rg_a_23, rg_x_23, rg_y_23, rg_flags_23, bu_latest_11, ic_flags_11)
set_option maxHeartbeats 4000000 in
set_option maxRecDepth 100000 in
theorem mX3_single (l : Launch) (dC : Nat → ClassId) (dI : Nat → Nat → Nat) (q_pr q_rg q_bu q_ra q_rA q_rc q_rk q_pi q_po q_co q_wc q_wo q_ic q_ky q_ta q_tb : Nat) (k_ra k_rA k_rc k_rk k_po k_co k_wc k_wo k_ky : ClassId) (sz : Nat) (pr_stuck pr_waits pr_interruptsBegun pr_kind pr_step pr_code pr_low pr_high pr_changed pr_missing rg_a rg_x rg_y rg_s rg_flags rg_p bu_port bu_latest pi_line pi_cycle pi_control pi_compareLine pi_ground pi_border pi_base pi_flag pi_enabled pi_idle pi_bad pi_glyphLine pi_rowToFetch ic_rows ic_keysSeen ic_flags ic_enabled ta_controlBits ta_control ta_count ta_latch tb_controlBits tb_control tb_count tb_latch : Int32) (f_ra f_rA f_rc f_rk f_po f_co f_wc f_wo f_ky : Nat → Int32) : Met l yX3_single uX3_single ({ frames := 3, cells := 0, slots := 0, locals := 70 }) (va_Pc [.ref q_pr] (fun U => U.heap.size = sz ∧ va_P (dC, dI) vwCl (wwX3 q_pr q_rg q_bu q_ra q_rA q_rc q_rk q_pi q_po q_co q_wc q_wo q_ic q_ky q_ta q_tb k_ra k_rA k_rc k_rk k_po k_co k_wc k_wo k_ky pr_stuck pr_waits pr_interruptsBegun pr_kind pr_step pr_code pr_low pr_high pr_changed pr_missing rg_a rg_x rg_y rg_s rg_flags rg_p bu_port bu_latest pi_line pi_cycle pi_control pi_compareLine pi_ground pi_border pi_base pi_flag pi_enabled pi_idle pi_bad pi_glyphLine pi_rowToFetch ic_rows ic_keysSeen ic_flags ic_enabled ta_controlBits ta_control ta_count ta_latch tb_controlBits tb_control tb_count tb_latch f_ra f_rA f_rc f_rk f_po f_co f_wc f_wo f_ky) U.heap ∧ va_K (dC, dI) vwCl [(k_ra, .int), (k_rA, .int), (k_rc, .int), (k_rk, .int), (k_po, .int), (k_co, .int), (k_wc, .int), (k_wo, .int), (k_ky, .int)] U ∧ va_D (fun _ => True) (wwX3 q_pr q_rg q_bu q_ra q_rA q_rc q_rk q_pi q_po q_co q_wc q_wo q_ic q_ky q_ta q_tb k_ra k_rA k_rc k_rk k_po k_co k_wc k_wo k_ky pr_stuck pr_waits pr_interruptsBegun pr_kind pr_step pr_code pr_low pr_high pr_changed pr_missing rg_a rg_x rg_y rg_s rg_flags rg_p bu_port bu_latest pi_line pi_cycle pi_control pi_compareLine pi_ground pi_border pi_base pi_flag pi_enabled pi_idle pi_bad pi_glyphLine pi_rowToFetch ic_rows ic_keysSeen ic_flags ic_enabled ta_controlBits ta_control ta_count ta_latch tb_controlBits tb_control tb_count tb_latch f_ra f_rA f_rc f_rk f_po f_co f_wc f_wo f_ky))) (va_Qv (fun (u : Int32 × Int32 × Int32 × Int32 × Int32 × Int32 × Int32 × Int32) => u = fX3_single pr_code rg_a rg_x rg_y rg_flags rg_p bu_port pi_line pi_control pi_ground pi_border pi_base pi_flag pi_enabled ic_rows ic_keysSeen ic_flags ic_enabled ta_control ta_count tb_control tb_count f_ra f_rA f_rc f_rk f_co) (fun (u : Int32 × Int32 × Int32 × Int32 × Int32 × Int32 × Int32 × Int32) (t : State) => va_P (dC, dI) vwCl (wwX3 q_pr q_rg q_bu q_ra q_rA q_rc q_rk q_pi q_po q_co q_wc q_wo q_ic q_ky q_ta q_tb k_ra k_rA k_rc k_rk k_po k_co k_wc k_wo k_ky pr_stuck pr_waits pr_interruptsBegun u.1 u.2.1 pr_code pr_low pr_high pr_changed pr_missing u.2.2.1 u.2.2.2.1 u.2.2.2.2.1 rg_s u.2.2.2.2.2.1 rg_p bu_port u.2.2.2.2.2.2.1 pi_line pi_cycle pi_control pi_compareLine pi_ground pi_border pi_base pi_flag pi_enabled pi_idle pi_bad pi_glyphLine pi_rowToFetch ic_rows ic_keysSeen u.2.2.2.2.2.2.2 ic_enabled ta_controlBits ta_control ta_count ta_latch tb_controlBits tb_control tb_count tb_latch f_ra f_rA f_rc f_rk f_po f_co f_wc f_wo f_ky) t.heap ∧ va_K (dC, dI) vwCl [(k_ra, .int), (k_rA, .int), (k_rc, .int), (k_rk, .int), (k_po, .int), (k_co, .int), (k_wc, .int), (k_wo, .int), (k_ky, .int)] t ∧ va_D (va_A (wwX3 q_pr q_rg q_bu q_ra q_rA q_rc q_rk q_pi q_po q_co q_wc q_wo q_ic q_ky q_ta q_tb k_ra k_rA k_rc k_rk k_po k_co k_wc k_wo k_ky pr_stuck pr_waits pr_interruptsBegun pr_kind pr_step pr_code pr_low pr_high pr_changed pr_missing rg_a rg_x rg_y rg_s rg_flags rg_p bu_port bu_latest pi_line pi_cycle pi_control pi_compareLine pi_ground pi_border pi_base pi_flag pi_enabled pi_idle pi_bad pi_glyphLine pi_rowToFetch ic_rows ic_keysSeen ic_flags ic_enabled ta_controlBits ta_control ta_count ta_latch tb_controlBits tb_control tb_count tb_latch f_ra f_rA f_rc f_rk f_po f_co f_wc f_wo f_ky) sz) (wwX3 q_pr q_rg q_bu q_ra q_rA q_rc q_rk q_pi q_po q_co q_wc q_wo q_ic q_ky q_ta q_tb k_ra k_rA k_rc k_rk k_po k_co k_wc k_wo k_ky pr_stuck pr_waits pr_interruptsBegun u.1 u.2.1 pr_code pr_low pr_high pr_changed pr_missing u.2.2.1 u.2.2.2.1 u.2.2.2.2.1 rg_s u.2.2.2.2.2.1 rg_p bu_port u.2.2.2.2.2.2.1 pi_line pi_cycle pi_control pi_compareLine pi_ground pi_border pi_base pi_flag pi_enabled pi_idle pi_bad pi_glyphLine pi_rowToFetch ic_rows ic_keysSeen u.2.2.2.2.2.2.2 ic_enabled ta_controlBits ta_control ta_count ta_latch tb_controlBits tb_control tb_count tb_latch f_ra f_rA f_rc f_rk f_po f_co f_wc f_wo f_ky)) (va_A (wwX3 q_pr q_rg q_bu q_ra q_rA q_rc q_rk q_pi q_po q_co q_wc q_wo q_ic q_ky q_ta q_tb k_ra k_rA k_rc k_rk k_po k_co k_wc k_wo k_ky pr_stuck pr_waits pr_interruptsBegun pr_kind pr_step pr_code pr_low pr_high pr_changed pr_missing rg_a rg_x rg_y rg_s rg_flags rg_p bu_port bu_latest pi_line pi_cycle pi_control pi_compareLine pi_ground pi_border pi_base pi_flag pi_enabled pi_idle pi_bad pi_glyphLine pi_rowToFetch ic_rows ic_keysSeen ic_flags ic_enabled ta_controlBits ta_control ta_count ta_latch tb_controlBits tb_control tb_count tb_latch f_ra f_rA f_rc f_rk f_po f_co f_wc f_wo f_ky) sz)) 0 0 (va_A (wwX3 q_pr q_rg q_bu q_ra q_rA q_rc q_rk q_pi q_po q_co q_wc q_wo q_ic q_ky q_ta q_tb k_ra k_rA k_rc k_rk k_po k_co k_wc k_wo k_ky pr_stuck pr_waits pr_interruptsBegun pr_kind pr_step pr_code pr_low pr_high pr_changed pr_missing rg_a rg_x rg_y rg_s rg_flags rg_p bu_port bu_latest pi_line pi_cycle pi_control pi_compareLine pi_ground pi_border pi_base pi_flag pi_enabled pi_idle pi_bad pi_glyphLine pi_rowToFetch ic_rows ic_keysSeen ic_flags ic_enabled ta_controlBits ta_control ta_count ta_latch tb_controlBits tb_control tb_count tb_latch f_ra f_rA f_rc f_rk f_po f_co f_wc f_wo f_ky) sz) := by
  refine Met.ofW (cc := cX3_single) (maxL := 1) (ret := none) (by decide) rfl ?_
  intro p e s m args below meth c s₁ B hml hv
  obtain ⟨rfl, hsz, hP, hK, hD0⟩ := hv
  have hx := B.exec
  have hb := B.bytes
  have hr := B.returns
  have hts : ∀ w ∈ ub, w.before _ s = true := fun w h => atoms_spec (ws := uX3_single) B.pre w (List.mem_cons_of_mem _ h)
  have hown : s.vm.findClass RX3 = some m.cls := findClass_of_methodNamed B.named
  have hlocks := B.notSynchronized
  subst hsz
  have hD := hD0.self (sz := s.heap.size)
  generalize hAe : va_A (wwX3 q_pr q_rg q_bu q_ra q_rA q_rc q_rk q_pi q_po q_co q_wc q_wo q_ic q_ky q_ta q_tb k_ra k_rA k_rc k_rk k_po k_co k_wc k_wo k_ky pr_stuck pr_waits pr_interruptsBegun pr_kind pr_step pr_code pr_low pr_high pr_changed pr_missing rg_a rg_x rg_y rg_s rg_flags rg_p bu_port bu_latest pi_line pi_cycle pi_control pi_compareLine pi_ground pi_border pi_base pi_flag pi_enabled pi_idle pi_bad pi_glyphLine pi_rowToFetch ic_rows ic_keysSeen ic_flags ic_enabled ta_controlBits ta_control ta_count ta_latch tb_controlBits tb_control tb_count tb_latch f_ra f_rA f_rc f_rk f_po f_co f_wc f_wo f_ky) s.heap.size = A at hD ⊢
  have hA : ∀ q : Nat, s.heap.size ≤ q → A q := fun q h => by rw [← hAe]; exact Or.inr h
  have hS : va_S A s.heap s.heap [] := va_S.rf
  have hl := lv_entry ([.ref q_pr]) (n := 1) (Nat.le_of_ble_eq_true rfl)
  rw [lg_entry_eq]
  generalize (lg_sl ([.ref q_pr]) ++ List.replicate (1 - (lg_sl ([.ref q_pr])).length) Slot.unset).toArray = ls at hl ⊢
  have hl : lv_has ls 1 [(0, .ref q_pr)] := hl
  have hF := fX3_single.eq_1 pr_code rg_a rg_x rg_y rg_flags rg_p bu_port pi_line pi_control pi_ground pi_border pi_base pi_flag pi_enabled ic_rows ic_keysSeen ic_flags ic_enabled ta_control ta_count tb_control tb_count f_ra f_rA f_rc f_rk f_co
  refine lv_aload_n hx hb dX3_single_0 rfl (lv_at hl 0 rfl) ?_
  refine va_get (D := (dC, dI)) (ci := 3) (v := .ref q_bu) (C := RX3) (T := TX3) (N := 14) hx hb hts hiX3 hown hK hP 0 rfl rfl 4 (by decide) (hts _ kFX3_26) (fun _ h9 => h9) rfl dX3_single_1 ?_
  refine lv_aload_n hx hb dX3_single_4 rfl (lv_at hl 0 rfl) ?_
  refine va_get (D := (dC, dI)) (ci := 3) (v := .ref q_rg) (C := RX3) (T := TX3) (N := 14) hx hb hts hiX3 hown hK hP 0 rfl rfl 0 (by decide) (hts _ kFX3_12) (fun _ h9 => h9) rfl dX3_single_5 ?_
  refine va_get (D := (dC, dI)) (ci := 4) (v := .int rg_p) (C := RX4) (T := TX4) (N := 6) hx hb hts hiX4 hown hK hP 1 rfl rfl 5 (by decide) (hts _ kFX3_122) (fun _ h9 => h9) rfl dX3_single_8 ?_
  have hPc := hP.sub (ws' := (wwX0 q_bu q_ra q_rA q_rc q_rk q_pi q_po q_co q_wc q_wo q_ic q_ky q_ta q_tb k_ra k_rA k_rc k_rk k_po k_co k_wc k_wo k_ky bu_port bu_latest pi_line pi_cycle pi_control pi_compareLine pi_ground pi_border pi_base pi_flag pi_enabled pi_idle pi_bad pi_glyphLine pi_rowToFetch ic_rows ic_keysSeen ic_flags ic_enabled ta_controlBits ta_control ta_count ta_latch tb_controlBits tb_control tb_count tb_latch f_ra f_rA f_rc f_rk f_po f_co f_wc f_wo f_ky)) [2, 3, 4, 5, 6, 7, 8, 9, 10, 11, 12, 13, 14, 15] rfl
  have hDc := hD.sub (ws' := (wwX0 q_bu q_ra q_rA q_rc q_rk q_pi q_po q_co q_wc q_wo q_ic q_ky q_ta q_tb k_ra k_rA k_rc k_rk k_po k_co k_wc k_wo k_ky bu_port bu_latest pi_line pi_cycle pi_control pi_compareLine pi_ground pi_border pi_base pi_flag pi_enabled pi_idle pi_bad pi_glyphLine pi_rowToFetch ic_rows ic_keysSeen ic_flags ic_enabled ta_controlBits ta_control ta_count ta_latch tb_controlBits tb_control tb_count tb_latch f_ra f_rA f_rc f_rk f_po f_co f_wc f_wo f_ky)) [2, 3, 4, 5, 6, 7, 8, 9, 10, 11, 12, 13, 14, 15] (by decide) rfl
  have hKc := hK.sub (tys' := [(k_ra, .int), (k_rA, .int), (k_rc, .int), (k_rk, .int), (k_po, .int), (k_co, .int), (k_wc, .int), (k_wo, .int), (k_ky, .int)]) [0, 1, 2, 3, 4, 5, 6, 7, 8] rfl
  have hFc := va_free (wc := (wwX0 q_bu q_ra q_rA q_rc q_rk q_pi q_po q_co q_wc q_wo q_ic q_ky q_ta q_tb k_ra k_rA k_rc k_rk k_po k_co k_wc k_wo k_ky bu_port bu_latest pi_line pi_cycle pi_control pi_compareLine pi_ground pi_border pi_base pi_flag pi_enabled pi_idle pi_bad pi_glyphLine pi_rowToFetch ic_rows ic_keysSeen ic_flags ic_enabled ta_controlBits ta_control ta_count ta_latch tb_controlBits tb_control tb_count tb_latch f_ra f_rA f_rc f_rk f_po f_co f_wc f_wo f_ky)) hD hS hA [2, 3, 4, 5, 6, 7, 8, 9, 10, 11, 12, 13, 14, 15] rfl
  refine va_calli (va_runV (As := [.int rg_p]) (rest := []) ⟨hx, hb, hml, hown, hts⟩ (mX0_read l dC dI q_bu q_ra q_rA q_rc q_rk q_pi q_po q_co q_wc q_wo q_ic q_ky q_ta q_tb k_ra k_rA k_rc k_rk k_po k_co k_wc k_wo k_ky s.heap.size bu_port bu_latest pi_line pi_cycle pi_control pi_compareLine pi_ground pi_border pi_base pi_flag pi_enabled pi_idle pi_bad pi_glyphLine pi_rowToFetch ic_rows ic_keysSeen ic_flags ic_enabled ta_controlBits ta_control ta_count ta_latch tb_controlBits tb_control tb_count tb_latch f_ra f_rA f_rc f_rk f_po f_co f_wc f_wo f_ky rg_p) (cwV 1 hts (ub_V kMX3_125 kYX0_read kSX0_read kIX0 kBX0_read) rfl rfl rfl (by decide +kernel) ⟨Nat.le_of_ble_eq_true rfl, Nat.le_of_ble_eq_true rfl⟩) ⟨fun a U g mk q => by obtain ⟨q0, q1, qP, qK, qD⟩ := q; exact ⟨q0, q1, qP, va_K.moved (u := U) (U := U.calling g mk a) (Vm.Alike.refl U.vm) qK, qD⟩, va_recv hKc hPc (ci := 0) (q0 := 0) rfl rfl, fun U hU hW => ⟨rfl, by rw [hU], by rw [hU]; exact hPc, va_K.moved hW.alike hKc, hDc.weaken (fun _ _ _ _ => trivial)⟩⟩ rfl rfl hl.1 rfl (lv_room (Nat.le_of_ble_eq_true rfl)) dX3_single_11 ⟨(Nat.zero_le _), (Nat.zero_le _)⟩) hS (fun q _ h => hFc q h) hFc (fun r_11 u_11 t H locs ht hvm hw hB hz1 hk1 hS => ?_)
  obtain ⟨bu_latest_11, ic_flags_11⟩ := u_11
  obtain ⟨hP1, hK1, hD1⟩ := hB
  rw [ht] at hP1
  obtain ⟨hP, hD⟩ := vb_back (wc := (wwX0 q_bu q_ra q_rA q_rc q_rk q_pi q_po q_co q_wc q_wo q_ic q_ky q_ta q_tb k_ra k_rA k_rc k_rk k_po k_co k_wc k_wo k_ky bu_port bu_latest pi_line pi_cycle pi_control pi_compareLine pi_ground pi_border pi_base pi_flag pi_enabled pi_idle pi_bad pi_glyphLine pi_rowToFetch ic_rows ic_keysSeen ic_flags ic_enabled ta_controlBits ta_control ta_count ta_latch tb_controlBits tb_control tb_count tb_latch f_ra f_rA f_rc f_rk f_po f_co f_wc f_wo f_ky)) (ws' := (wwX3 q_pr q_rg q_bu q_ra q_rA q_rc q_rk q_pi q_po q_co q_wc q_wo q_ic q_ky q_ta q_tb k_ra k_rA k_rc k_rk k_po k_co k_wc k_wo k_ky pr_stuck pr_waits pr_interruptsBegun pr_kind pr_step pr_code pr_low pr_high pr_changed pr_missing rg_a rg_x rg_y rg_s rg_flags rg_p bu_port bu_latest_11 pi_line pi_cycle pi_control pi_compareLine pi_ground pi_border pi_base pi_flag pi_enabled pi_idle pi_bad pi_glyphLine pi_rowToFetch ic_rows ic_keysSeen ic_flags_11 ic_enabled ta_controlBits ta_control ta_count ta_latch tb_controlBits tb_control tb_count tb_latch f_ra f_rA f_rc f_rk f_po f_co f_wc f_wo f_ky)) hP hD hD1 [2, 3, 4, 5, 6, 7, 8, 9, 10, 11, 12, 13, 14, 15] [0, 1] rfl rfl (ae_c rfl (ae_c rfl ae_n)) rfl rfl hk1 hP1
  rw [← hw] at hF
  dsimp only at hF
  refine lv_pop hx hb dX3_single_14 rfl ?_
  refine lv_aload_n hx hb dX3_single_15 rfl (lv_at hl 0 rfl) ?_
  refine va_get (D := (dC, dI)) (ci := 3) (v := .ref q_rg) (C := RX3) (T := TX3) (N := 14) hx hb hts hiX3 hown hK hP 0 rfl rfl 0 (by decide) (hts _ kFX3_12) (fun _ h9 => h9) rfl dX3_single_16 ?_
  refine lv_aload_n hx hb dX3_single_19 rfl (lv_at hl 0 rfl) ?_
  refine va_get (D := (dC, dI)) (ci := 3) (v := .int pr_code) (C := RX3) (T := TX3) (N := 14) hx hb hts hiX3 hown hK hP 0 rfl rfl 9 (by decide) (hts _ kFX3_119) (fun _ h9 => h9) rfl dX3_single_20 ?_
  have hPc := hP.sub (ws' := (wwX4 q_rg rg_a rg_x rg_y rg_s rg_flags rg_p)) [1] rfl
  have hDc := hD.sub (ws' := (wwX4 q_rg rg_a rg_x rg_y rg_s rg_flags rg_p)) [1] (by decide) rfl
  have hKc := hK.sub (tys' := []) [] rfl
  have hFc := va_free (wc := (wwX4 q_rg rg_a rg_x rg_y rg_s rg_flags rg_p)) hD hS hA [1] rfl
  refine va_callv (va_runV (As := [.int pr_code]) (rest := []) ⟨hx, hb, hml, hown, hts⟩ (mX4_single l dC dI q_rg H.size rg_a rg_x rg_y rg_s rg_flags rg_p pr_code) (cwV 1 hts (ub_V kMX3_171 kYX4_single kSX4_single kIX4 kBX4_single) rfl rfl rfl (by decide +kernel) ⟨Nat.le_of_ble_eq_true rfl, Nat.le_of_ble_eq_true rfl⟩) ⟨fun a U g mk q => by obtain ⟨q0, q1, qP, qK, qD⟩ := q; exact ⟨q0, q1, qP, va_K.moved (u := U) (U := U.calling g mk a) (Vm.Alike.refl U.vm) qK, qD⟩, va_recv hKc hPc (ci := 4) (q0 := 0) rfl rfl, fun U hU hW => ⟨rfl, by rw [hU], by rw [hU]; exact hPc, va_K.moved hW.alike hKc, hDc.weaken (fun _ _ _ _ => trivial)⟩⟩ rfl rfl hl.1 rfl (lv_room (Nat.le_of_ble_eq_true rfl)) dX3_single_23 ⟨(Nat.zero_le _), (Nat.zero_le _)⟩) hS (fun q _ h => hFc q h) hFc (fun u_23 t H locs ht hvm hw hB hz1 hk1 hS => ?_)
  obtain ⟨rg_a_23, rg_x_23, rg_y_23, rg_flags_23⟩ := u_23
  obtain ⟨hP1, hK1, hD1⟩ := hB
  rw [ht] at hP1
  obtain ⟨hP, hD⟩ := vb_back (wc := (wwX4 q_rg rg_a rg_x rg_y rg_s rg_flags rg_p)) (ws' := (wwX3 q_pr q_rg q_bu q_ra q_rA q_rc q_rk q_pi q_po q_co q_wc q_wo q_ic q_ky q_ta q_tb k_ra k_rA k_rc k_rk k_po k_co k_wc k_wo k_ky pr_stuck pr_waits pr_interruptsBegun pr_kind pr_step pr_code pr_low pr_high pr_changed pr_missing rg_a_23 rg_x_23 rg_y_23 rg_s rg_flags_23 rg_p bu_port bu_latest_11 pi_line pi_cycle pi_control pi_compareLine pi_ground pi_border pi_base pi_flag pi_enabled pi_idle pi_bad pi_glyphLine pi_rowToFetch ic_rows ic_keysSeen ic_flags_11 ic_enabled ta_controlBits ta_control ta_count ta_latch tb_controlBits tb_control tb_count tb_latch f_ra f_rA f_rc f_rk f_po f_co f_wc f_wo f_ky)) hP hD hD1 [1] [0, 2, 3, 4, 5, 6, 7, 8, 9, 10, 11, 12, 13, 14, 15] rfl rfl (ae_c rfl (ae_c rfl (ae_c rfl (ae_c rfl (ae_c rfl (ae_c rfl (ae_c rfl (ae_c rfl (ae_c rfl (ae_c rfl (ae_c rfl (ae_c rfl (ae_c rfl (ae_c rfl (ae_c rfl ae_n))))))))))))))) rfl rfl hk1 hP1
  rw [← hw] at hF
  dsimp only at hF
  refine lv_aload_n hx hb dX3_single_26 rfl (lv_at hl 0 rfl) ?_
  have hPc := hP.sub (ws' := (wwX3 q_pr q_rg q_bu q_ra q_rA q_rc q_rk q_pi q_po q_co q_wc q_wo q_ic q_ky q_ta q_tb k_ra k_rA k_rc k_rk k_po k_co k_wc k_wo k_ky pr_stuck pr_waits pr_interruptsBegun pr_kind pr_step pr_code pr_low pr_high pr_changed pr_missing rg_a_23 rg_x_23 rg_y_23 rg_s rg_flags_23 rg_p bu_port bu_latest_11 pi_line pi_cycle pi_control pi_compareLine pi_ground pi_border pi_base pi_flag pi_enabled pi_idle pi_bad pi_glyphLine pi_rowToFetch ic_rows ic_keysSeen ic_flags_11 ic_enabled ta_controlBits ta_control ta_count ta_latch tb_controlBits tb_control tb_count tb_latch f_ra f_rA f_rc f_rk f_po f_co f_wc f_wo f_ky)) [0, 1, 2, 3, 4, 5, 6, 7, 8, 9, 10, 11, 12, 13, 14, 15] rfl
  have hDc := hD.sub (ws' := (wwX3 q_pr q_rg q_bu q_ra q_rA q_rc q_rk q_pi q_po q_co q_wc q_wo q_ic q_ky q_ta q_tb k_ra k_rA k_rc k_rk k_po k_co k_wc k_wo k_ky pr_stuck pr_waits pr_interruptsBegun pr_kind pr_step pr_code pr_low pr_high pr_changed pr_missing rg_a_23 rg_x_23 rg_y_23 rg_s rg_flags_23 rg_p bu_port bu_latest_11 pi_line pi_cycle pi_control pi_compareLine pi_ground pi_border pi_base pi_flag pi_enabled pi_idle pi_bad pi_glyphLine pi_rowToFetch ic_rows ic_keysSeen ic_flags_11 ic_enabled ta_controlBits ta_control ta_count ta_latch tb_controlBits tb_control tb_count tb_latch f_ra f_rA f_rc f_rk f_po f_co f_wc f_wo f_ky)) [0, 1, 2, 3, 4, 5, 6, 7, 8, 9, 10, 11, 12, 13, 14, 15] (by decide) rfl
  have hKc := hK.sub (tys' := [(k_ra, .int), (k_rA, .int), (k_rc, .int), (k_rk, .int), (k_po, .int), (k_co, .int), (k_wc, .int), (k_wo, .int), (k_ky, .int)]) [0, 1, 2, 3, 4, 5, 6, 7, 8] rfl
  have hFc := va_free (wc := (wwX3 q_pr q_rg q_bu q_ra q_rA q_rc q_rk q_pi q_po q_co q_wc q_wo q_ic q_ky q_ta q_tb k_ra k_rA k_rc k_rk k_po k_co k_wc k_wo k_ky pr_stuck pr_waits pr_interruptsBegun pr_kind pr_step pr_code pr_low pr_high pr_changed pr_missing rg_a_23 rg_x_23 rg_y_23 rg_s rg_flags_23 rg_p bu_port bu_latest_11 pi_line pi_cycle pi_control pi_compareLine pi_ground pi_border pi_base pi_flag pi_enabled pi_idle pi_bad pi_glyphLine pi_rowToFetch ic_rows ic_keysSeen ic_flags_11 ic_enabled ta_controlBits ta_control ta_count ta_latch tb_controlBits tb_control tb_count tb_latch f_ra f_rA f_rc f_rk f_po f_co f_wc f_wo f_ky)) hD hS hA [0, 1, 2, 3, 4, 5, 6, 7, 8, 9, 10, 11, 12, 13, 14, 15] rfl
  refine va_callv (va_runV (As := []) (rest := []) ⟨hx, hb, hml, hown, hts⟩ (mX3_endInstruction l dC dI q_pr q_rg q_bu q_ra q_rA q_rc q_rk q_pi q_po q_co q_wc q_wo q_ic q_ky q_ta q_tb k_ra k_rA k_rc k_rk k_po k_co k_wc k_wo k_ky H.size pr_stuck pr_waits pr_interruptsBegun pr_kind pr_step pr_code pr_low pr_high pr_changed pr_missing rg_a_23 rg_x_23 rg_y_23 rg_s rg_flags_23 rg_p bu_port bu_latest_11 pi_line pi_cycle pi_control pi_compareLine pi_ground pi_border pi_base pi_flag pi_enabled pi_idle pi_bad pi_glyphLine pi_rowToFetch ic_rows ic_keysSeen ic_flags_11 ic_enabled ta_controlBits ta_control ta_count ta_latch tb_controlBits tb_control tb_count tb_latch f_ra f_rA f_rc f_rk f_po f_co f_wc f_wo f_ky) (cwV 0 hts (ub_V kMX3_61 kYX3_endInstruction kSX3_endInstruction kIX3 kBX3_endInstruction) rfl rfl rfl (by decide +kernel) ⟨Nat.le_of_ble_eq_true rfl, Nat.le_of_ble_eq_true rfl⟩) ⟨fun a U g mk q => by obtain ⟨q0, q1, qP, qK, qD⟩ := q; exact ⟨q0, q1, qP, va_K.moved (u := U) (U := U.calling g mk a) (Vm.Alike.refl U.vm) qK, qD⟩, va_recv hKc hPc (ci := 3) (q0 := 0) rfl rfl, fun U hU hW => ⟨rfl, by rw [hU], by rw [hU]; exact hPc, va_K.moved hW.alike hKc, hDc.weaken (fun _ _ _ _ => trivial)⟩⟩ rfl rfl hl.1 rfl (lv_room (Nat.le_of_ble_eq_true rfl)) dX3_single_27 ⟨(Nat.zero_le _), (Nat.zero_le _)⟩) hS (fun q _ h => hFc q h) hFc (fun u_27 t H locs ht hvm hw hB hz1 hk1 hS => ?_)
  obtain ⟨pr_kind_27, pr_step_27⟩ := u_27
  obtain ⟨hP1, hK1, hD1⟩ := hB
  rw [ht] at hP1
  obtain ⟨hP, hD⟩ := vb_back (wc := (wwX3 q_pr q_rg q_bu q_ra q_rA q_rc q_rk q_pi q_po q_co q_wc q_wo q_ic q_ky q_ta q_tb k_ra k_rA k_rc k_rk k_po k_co k_wc k_wo k_ky pr_stuck pr_waits pr_interruptsBegun pr_kind pr_step pr_code pr_low pr_high pr_changed pr_missing rg_a_23 rg_x_23 rg_y_23 rg_s rg_flags_23 rg_p bu_port bu_latest_11 pi_line pi_cycle pi_control pi_compareLine pi_ground pi_border pi_base pi_flag pi_enabled pi_idle pi_bad pi_glyphLine pi_rowToFetch ic_rows ic_keysSeen ic_flags_11 ic_enabled ta_controlBits ta_control ta_count ta_latch tb_controlBits tb_control tb_count tb_latch f_ra f_rA f_rc f_rk f_po f_co f_wc f_wo f_ky)) (ws' := (wwX3 q_pr q_rg q_bu q_ra q_rA q_rc q_rk q_pi q_po q_co q_wc q_wo q_ic q_ky q_ta q_tb k_ra k_rA k_rc k_rk k_po k_co k_wc k_wo k_ky pr_stuck pr_waits pr_interruptsBegun pr_kind_27 pr_step_27 pr_code pr_low pr_high pr_changed pr_missing rg_a_23 rg_x_23 rg_y_23 rg_s rg_flags_23 rg_p bu_port bu_latest_11 pi_line pi_cycle pi_control pi_compareLine pi_ground pi_border pi_base pi_flag pi_enabled pi_idle pi_bad pi_glyphLine pi_rowToFetch ic_rows ic_keysSeen ic_flags_11 ic_enabled ta_controlBits ta_control ta_count ta_latch tb_controlBits tb_control tb_count tb_latch f_ra f_rA f_rc f_rk f_po f_co f_wc f_wo f_ky)) hP hD hD1 [0, 1, 2, 3, 4, 5, 6, 7, 8, 9, 10, 11, 12, 13, 14, 15] [] rfl rfl ae_n rfl rfl hk1 hP1
  rw [← hw] at hF
  dsimp only at hF
  exact W.vret hx hb hr (fun t ht hW => ⟨⟨(pr_kind_27, pr_step_27, rg_a_23, rg_x_23, rg_y_23, rg_flags_23, bu_latest_11, ic_flags_11), rfl, hF.symm, by rw [ht]; exact hP, va_K.moved hW.alike hK, hD⟩, hS.F ht⟩) hS.2.2 dX3_single_30
def fX4_compare (p1 : Int32) (p2 : Int32) (rg_flags : Int32) : Int32 :=
  match (fX4_judged (p1 - p2) rg_flags) with
  | (r_4, rg_flags_4) =>
   (fX4_put (1:Int32) (if p1 < p2 then (0:Int32) else (1:Int32)) rg_flags_4)
set_option maxHeartbeats 4000000 in
set_option maxRecDepth 100000 in
theorem mX4_compare (l : Launch) (dC : Nat → ClassId) (dI : Nat → Nat → Nat) (q_rg : Nat) (sz : Nat) (rg_a rg_x rg_y rg_s rg_flags rg_p : Int32) (p1 p2 : Int32) : Met l yX4_compare uX4_compare ({ frames := 1, cells := 0, slots := 0, locals := 22 }) (va_Pc [.ref q_rg, .int p1, .int p2] (fun U => U.heap.size = sz ∧ va_P (dC, dI) vwCl (wwX4 q_rg rg_a rg_x rg_y rg_s rg_flags rg_p) U.heap ∧ va_K (dC, dI) vwCl [] U ∧ va_D (fun _ => True) (wwX4 q_rg rg_a rg_x rg_y rg_s rg_flags rg_p))) (va_Qv (fun (u : Int32) => u = fX4_compare p1 p2 rg_flags) (fun (u : Int32) (t : State) => va_P (dC, dI) vwCl (wwX4 q_rg rg_a rg_x rg_y rg_s u rg_p) t.heap ∧ va_K (dC, dI) vwCl [] t ∧ va_D (va_A (wwX4 q_rg rg_a rg_x rg_y rg_s rg_flags rg_p) sz) (wwX4 q_rg rg_a rg_x rg_y rg_s u rg_p)) (va_A (wwX4 q_rg rg_a rg_x rg_y rg_s rg_flags rg_p) sz)) 0 0 (va_A (wwX4 q_rg rg_a rg_x rg_y rg_s rg_flags rg_p) sz) := by
  refine Met.ofW (cc := cX4_compare) (maxL := 3) (ret := none) (by decide) rfl ?_
  intro p e s m args below meth c s₁ B hml hv
  obtain ⟨rfl, hsz, hP, hK, hD0⟩ := hv
  have hx := B.exec
  have hb := B.bytes
  have hr := B.returns
  have hts : ∀ w ∈ ub, w.before _ s = true := fun w h => atoms_spec (ws := uX4_compare) B.pre w (List.mem_cons_of_mem _ h)
  have hown : s.vm.findClass RX4 = some m.cls := findClass_of_methodNamed B.named
  have hlocks := B.notSynchronized
  subst hsz
  have hD := hD0.self (sz := s.heap.size)
  generalize hAe : va_A (wwX4 q_rg rg_a rg_x rg_y rg_s rg_flags rg_p) s.heap.size = A at hD ⊢
  have hA : ∀ q : Nat, s.heap.size ≤ q → A q := fun q h => by rw [← hAe]; exact Or.inr h
  have hS : va_S A s.heap s.heap [] := va_S.rf
  have hl := lv_entry ([.ref q_rg, .int p1, .int p2]) (n := 3) (Nat.le_of_ble_eq_true rfl)
  rw [lg_entry_eq]
  generalize (lg_sl ([.ref q_rg, .int p1, .int p2]) ++ List.replicate (3 - (lg_sl ([.ref q_rg, .int p1, .int p2])).length) Slot.unset).toArray = ls at hl ⊢
  have hl : lv_has ls 3 [(0, .ref q_rg), (1, .int p1), (2, .int p2)] := hl
  have hF := fX4_compare.eq_1 p1 p2 rg_flags
  refine lv_aload_n hx hb dX4_compare_0 rfl (lv_at hl 0 rfl) ?_
  refine lv_iload_n hx hb dX4_compare_1 rfl (lv_at hl 1 rfl) ?_
  refine lv_iload_n hx hb dX4_compare_2 rfl (lv_at hl 2 rfl) ?_
  refine lv_isub hx hb dX4_compare_3 ?_
  have hPc := hP.sub (ws' := (wwX4 q_rg rg_a rg_x rg_y rg_s rg_flags rg_p)) [0] rfl
  have hDc := hD.sub (ws' := (wwX4 q_rg rg_a rg_x rg_y rg_s rg_flags rg_p)) [0] (by decide) rfl
  have hKc := hK.sub (tys' := []) [] rfl
  have hFc := va_free (wc := (wwX4 q_rg rg_a rg_x rg_y rg_s rg_flags rg_p)) hD hS hA [0] rfl
  refine va_calli (va_runV (As := [.int (p1 - p2)]) (rest := []) ⟨hx, hb, hml, hown, hts⟩ (mX4_judged l dC dI q_rg s.heap.size rg_a rg_x rg_y rg_s rg_flags rg_p (p1 - p2)) (cwV 1 hts (ub_V kMX4_28 kYX4_judged kSX4_judged kIX4 kBX4_judged) rfl rfl rfl (by decide +kernel) ⟨Nat.le_of_ble_eq_true rfl, Nat.le_of_ble_eq_true rfl⟩) ⟨fun a U g mk q => by obtain ⟨q0, q1, qP, qK, qD⟩ := q; exact ⟨q0, q1, qP, va_K.moved (u := U) (U := U.calling g mk a) (Vm.Alike.refl U.vm) qK, qD⟩, va_recv hKc hPc (ci := 4) (q0 := 0) rfl rfl, fun U hU hW => ⟨rfl, by rw [hU], by rw [hU]; exact hPc, va_K.moved hW.alike hKc, hDc.weaken (fun _ _ _ _ => trivial)⟩⟩ rfl rfl hl.1 rfl (lv_room (Nat.le_of_ble_eq_true rfl)) dX4_compare_4 ⟨(Nat.zero_le _), (Nat.zero_le _)⟩) hS (fun q _ h => hFc q h) hFc (fun r_4 u_4 t H locs ht hvm hw hB hz1 hk1 hS => ?_)
  obtain ⟨rg_flags_4, rfl⟩ : ∃ z, z = u_4 := ⟨_, rfl⟩
  obtain ⟨hP1, hK1, hD1⟩ := hB
  rw [ht] at hP1
  obtain ⟨hP, hD⟩ := vb_back (wc := (wwX4 q_rg rg_a rg_x rg_y rg_s rg_flags rg_p)) (ws' := (wwX4 q_rg rg_a rg_x rg_y rg_s rg_flags_4 rg_p)) hP hD hD1 [0] [] rfl rfl ae_n rfl rfl hk1 hP1
  rw [← hw] at hF
  dsimp only at hF
  refine lv_pop hx hb dX4_compare_7 rfl ?_
  refine lv_aload_n hx hb dX4_compare_8 rfl (lv_at hl 0 rfl) ?_
  refine lv_iconst (v := 1) hx hb dX4_compare_9 (by decide) ?_
  refine lv_iload_n hx hb dX4_compare_10 rfl (lv_at hl 1 rfl) ?_
  refine lv_iload_n hx hb dX4_compare_11 rfl (lv_at hl 2 rfl) ?_
  refine vj_join (j := 20) (rest := [.int (1:Int32), .ref q_rg]) (Hyp := fun z H locs => z = (if p1 < p2 then (0:Int32) else (1:Int32)) ∧ va_P (dC, dI) vwCl (wwX4 q_rg rg_a rg_x rg_y rg_s rg_flags_4 rg_p) H ∧ va_S A s.heap H locs) (fun z H locs hh => ?_) (fun J20 => ?_)
  · obtain ⟨hz, hP, hS⟩ := hh
    subst hz
    have hPc := hP.sub (ws' := (wwX4 q_rg rg_a rg_x rg_y rg_s rg_flags_4 rg_p)) [0] rfl
    have hDc := hD.sub (ws' := (wwX4 q_rg rg_a rg_x rg_y rg_s rg_flags_4 rg_p)) [0] (by decide) rfl
    have hKc := hK.sub (tys' := []) [] rfl
    have hFc := va_free (wc := (wwX4 q_rg rg_a rg_x rg_y rg_s rg_flags_4 rg_p)) hD hS hA [0] rfl
    refine va_callv (va_runV (As := [.int (1:Int32), .int (if p1 < p2 then (0:Int32) else (1:Int32))]) (rest := []) ⟨hx, hb, hml, hown, hts⟩ (mX4_put l dC dI q_rg H.size rg_a rg_x rg_y rg_s rg_flags_4 rg_p (1:Int32) (if p1 < p2 then (0:Int32) else (1:Int32))) (cwV 2 hts (ub_V kMX4_44 kYX4_put kSX4_put kIX4 kBX4_put) rfl rfl rfl (by decide +kernel) ⟨Nat.le_of_ble_eq_true rfl, Nat.le_of_ble_eq_true rfl⟩) ⟨fun a U g mk q => by obtain ⟨q0, q1, qP, qK, qD⟩ := q; exact ⟨q0, q1, qP, va_K.moved (u := U) (U := U.calling g mk a) (Vm.Alike.refl U.vm) qK, qD⟩, va_recv hKc hPc (ci := 4) (q0 := 0) rfl rfl, fun U hU hW => ⟨rfl, by rw [hU], by rw [hU]; exact hPc, va_K.moved hW.alike hKc, hDc.weaken (fun _ _ _ _ => trivial)⟩⟩ rfl rfl hl.1 rfl (lv_room (Nat.le_of_ble_eq_true rfl)) dX4_compare_20 ⟨(Nat.zero_le _), (Nat.zero_le _)⟩) hS (fun q _ h => hFc q h) hFc (fun u_20 t H locs ht hvm hw hB hz1 hk1 hS => ?_)
    obtain ⟨hP1, hK1, hD1⟩ := hB
    rw [ht] at hP1
    subst hw
    obtain ⟨hP, hD⟩ := vb_back (wc := (wwX4 q_rg rg_a rg_x rg_y rg_s rg_flags_4 rg_p)) (ws' := (wwX4 q_rg rg_a rg_x rg_y rg_s (fX4_put (1:Int32) (if p1 < p2 then (0:Int32) else (1:Int32)) rg_flags_4) rg_p)) hP hD hD1 [0] [] rfl rfl ae_n rfl rfl hk1 hP1
    exact W.vret hx hb hr (fun t ht hW => ⟨⟨(fX4_put (1:Int32) (if p1 < p2 then (0:Int32) else (1:Int32)) rg_flags_4), rfl, hF.symm, by rw [ht]; exact hP, va_K.moved hW.alike hK, hD⟩, hS.F ht⟩) hS.2.2 dX4_compare_23
  · refine lv_icmp_lt (tgt := 19) hx hb dX4_compare_12 (by decide) (fun c_12 => ?_) (fun c_12 => ?_)
    · refine lv_iconst (v := 0) hx hb dX4_compare_19 (by decide) ?_
      exact J20 _ _ _ ⟨by rw [if_pos c_12], hP, hS⟩
    · refine lv_iconst (v := 1) hx hb dX4_compare_15 (by decide) ?_
      refine lv_goto (tgt := 20) hx hb dX4_compare_16 (by decide) ?_
      exact J20 _ _ _ ⟨by rw [if_neg c_12], hP, hS⟩
def fX4_decimalSum (p1 : Int32) (p2 : Int32) (p3 : Int32) : Int32 :=
  if (((p1 &&& (15:Int32)) + (p2 &&& (15:Int32))) + p3) ≤ (9:Int32) then
   if (((p1 >>> ((4:Int32) &&& (31:Int32))) + (p2 >>> ((4:Int32) &&& (31:Int32)))) + (0:Int32)) ≤ (9:Int32) then
    (((16:Int32) * (((p1 >>> ((4:Int32) &&& (31:Int32))) + (p2 >>> ((4:Int32) &&& (31:Int32)))) + (0:Int32))) + ((((p1 &&& (15:Int32)) + (p2 &&& (15:Int32))) + p3) &&& (15:Int32)))
   else
    (((16:Int32) * ((((p1 >>> ((4:Int32) &&& (31:Int32))) + (p2 >>> ((4:Int32) &&& (31:Int32)))) + (0:Int32)) + (6:Int32))) + ((((p1 &&& (15:Int32)) + (p2 &&& (15:Int32))) + p3) &&& (15:Int32)))
  else
   if (((p1 >>> ((4:Int32) &&& (31:Int32))) + (p2 >>> ((4:Int32) &&& (31:Int32)))) + (if ((((p1 &&& (15:Int32)) + (p2 &&& (15:Int32))) + p3) + (6:Int32)) ≤ (15:Int32) then (0:Int32) else (1:Int32))) ≤ (9:Int32) then
    (((16:Int32) * (((p1 >>> ((4:Int32) &&& (31:Int32))) + (p2 >>> ((4:Int32) &&& (31:Int32)))) + (if ((((p1 &&& (15:Int32)) + (p2 &&& (15:Int32))) + p3) + (6:Int32)) ≤ (15:Int32) then (0:Int32) else (1:Int32)))) + (((((p1 &&& (15:Int32)) + (p2 &&& (15:Int32))) + p3) + (6:Int32)) &&& (15:Int32)))
   else
    (((16:Int32) * ((((p1 >>> ((4:Int32) &&& (31:Int32))) + (p2 >>> ((4:Int32) &&& (31:Int32)))) + (if ((((p1 &&& (15:Int32)) + (p2 &&& (15:Int32))) + p3) + (6:Int32)) ≤ (15:Int32) then (0:Int32) else (1:Int32))) + (6:Int32))) + (((((p1 &&& (15:Int32)) + (p2 &&& (15:Int32))) + p3) + (6:Int32)) &&& (15:Int32)))
set_option maxHeartbeats 4000000 in
set_option maxRecDepth 100000 in
theorem mX4_decimalSum (l : Launch) (dC : Nat → ClassId) (dI : Nat → Nat → Nat) (sz : Nat) (p1 p2 p3 : Int32) : Met l yX4_decimalSum uX4_decimalSum ({ frames := 0, cells := 0, slots := 0, locals := 0 }) (va_Pc [.int p1, .int p2, .int p3] (fun U => U.heap.size = sz ∧ va_P (dC, dI) vwCl ([] : va_W) U.heap ∧ va_K (dC, dI) vwCl [] U ∧ va_D (fun _ => True) ([] : va_W))) (va_Qi (fun (r : Int32) (u : Unit) => r = fX4_decimalSum p1 p2 p3) (fun (u : Unit) (t : State) => va_P (dC, dI) vwCl ([] : va_W) t.heap ∧ va_K (dC, dI) vwCl [] t ∧ va_D (va_A ([] : va_W) sz) ([] : va_W)) (va_A ([] : va_W) sz)) 0 0 (va_A ([] : va_W) sz) := by
  refine Met.ofW (cc := cX4_decimalSum) (maxL := 5) (ret := (some .int)) (by decide) rfl ?_
  intro p e s m args below meth c s₁ B hml hv
  obtain ⟨rfl, hsz, hP, hK, hD0⟩ := hv
  have hx := B.exec
  have hb := B.bytes
  have hr := B.returns
  have hts : ∀ w ∈ ub, w.before _ s = true := fun w h => atoms_spec (ws := uX4_decimalSum) B.pre w (List.mem_cons_of_mem _ h)
  have hown : s.vm.findClass RX4 = some m.cls := findClass_of_methodNamed B.named
  have hlocks := B.notSynchronized
  subst hsz
  have hD := hD0.self (sz := s.heap.size)
  generalize hAe : va_A ([] : va_W) s.heap.size = A at hD ⊢
  have hA : ∀ q : Nat, s.heap.size ≤ q → A q := fun q h => by rw [← hAe]; exact Or.inr h
  have hS : va_S A s.heap s.heap [] := va_S.rf
  have hl := lv_entry ([.int p1, .int p2, .int p3]) (n := 5) (Nat.le_of_ble_eq_true rfl)
  rw [lg_entry_eq]
  generalize (lg_sl ([.int p1, .int p2, .int p3]) ++ List.replicate (5 - (lg_sl ([.int p1, .int p2, .int p3])).length) Slot.unset).toArray = ls at hl ⊢
  have hl : lv_has ls 5 [(0, .int p1), (1, .int p2), (2, .int p3)] := hl
  have hF := fX4_decimalSum.eq_1 p1 p2 p3
  refine lv_iload_n hx hb dX4_decimalSum_0 rfl (lv_at hl 0 rfl) ?_
  refine lv_bipush (v := 15) hx hb dX4_decimalSum_1 (by decide) ?_
  refine lv_iand hx hb dX4_decimalSum_3 ?_
  refine lv_iload_n hx hb dX4_decimalSum_4 rfl (lv_at hl 1 rfl) ?_
  refine lv_bipush (v := 15) hx hb dX4_decimalSum_5 (by decide) ?_
  refine lv_iand hx hb dX4_decimalSum_7 ?_
  refine lv_iadd hx hb dX4_decimalSum_8 ?_
  refine lv_iload_n hx hb dX4_decimalSum_9 rfl (lv_at hl 2 rfl) ?_
  refine lv_iadd hx hb dX4_decimalSum_10 ?_
  refine lv_istore_n (lv' := [(3, .int (((p1 &&& (15:Int32)) + (p2 &&& (15:Int32))) + p3)), (0, .int p1), (1, .int p2), (2, .int p3)]) hx hb dX4_decimalSum_11 rfl hl (by decide) rfl (fun ls hl => ?_)
  refine lv_iload_n hx hb dX4_decimalSum_12 rfl (lv_at hl 0 rfl) ?_
  refine lv_bipush (v := 9) hx hb dX4_decimalSum_13 (by decide) ?_
  refine lv_icmp_le (tgt := 21) hx hb dX4_decimalSum_15 (by decide) (fun c_15 => ?_) (fun c_15 => ?_)
  · have hF := hF.trans (if_pos c_15)
    refine lv_iload_n hx hb dX4_decimalSum_21 rfl (lv_at hl 1 rfl) ?_
    refine lv_iconst (v := 4) hx hb dX4_decimalSum_22 (by decide) ?_
    refine lv_ishr hx hb dX4_decimalSum_23 ?_
    refine lv_iload_n hx hb dX4_decimalSum_24 rfl (lv_at hl 2 rfl) ?_
    refine lv_iconst (v := 4) hx hb dX4_decimalSum_25 (by decide) ?_
    refine lv_ishr hx hb dX4_decimalSum_26 ?_
    refine lv_iadd hx hb dX4_decimalSum_27 ?_
    refine lv_iload_n hx hb dX4_decimalSum_28 rfl (lv_at hl 0 rfl) ?_
    refine lv_bipush (v := 15) hx hb dX4_decimalSum_29 (by decide) ?_
    refine lv_icmp_le (tgt := 38) hx hb dX4_decimalSum_31 (by decide) (fun c_31 => ?_) (fun c_31 => by exact (show False from by have h1 : ¬ ((((p1 &&& (15:Int32)) + (p2 &&& (15:Int32))) + p3)).toInt ≤ ((15:Int32)).toInt := fun q => c_31 (Int32.le_iff_toInt_le.mpr q); have h2 := Int32.le_iff_toInt_le.mp c_15; have k0 : (9:Int32).toInt = 9 := (by decide); have k1 : (15:Int32).toInt = 15 := (by decide); omega).elim)
    refine lv_iconst (v := 0) hx hb dX4_decimalSum_38 (by decide) ?_
    refine lv_iadd hx hb dX4_decimalSum_39 ?_
    refine lv_istore (lv' := [(4, .int (((p1 >>> ((4:Int32) &&& (31:Int32))) + (p2 >>> ((4:Int32) &&& (31:Int32)))) + (0:Int32))), (3, .int (((p1 &&& (15:Int32)) + (p2 &&& (15:Int32))) + p3)), (0, .int p1), (1, .int p2), (2, .int p3)]) hx hb dX4_decimalSum_40 hl (by decide) rfl (fun ls hl => ?_)
    refine lv_iload hx hb dX4_decimalSum_42 (lv_at hl 0 rfl) ?_
    refine lv_bipush (v := 9) hx hb dX4_decimalSum_44 (by decide) ?_
    refine lv_icmp_le (tgt := 52) hx hb dX4_decimalSum_46 (by decide) (fun c_46 => ?_) (fun c_46 => ?_)
    · have hF := hF.trans (if_pos c_46)
      refine lv_bipush (v := 16) hx hb dX4_decimalSum_52 (by decide) ?_
      refine lv_iload hx hb dX4_decimalSum_54 (lv_at hl 0 rfl) ?_
      refine lv_imul hx hb dX4_decimalSum_56 ?_
      refine lv_iload_n hx hb dX4_decimalSum_57 rfl (lv_at hl 1 rfl) ?_
      refine lv_bipush (v := 15) hx hb dX4_decimalSum_58 (by decide) ?_
      refine lv_iand hx hb dX4_decimalSum_60 ?_
      refine lv_iadd hx hb dX4_decimalSum_61 ?_
      exact W.iret (v := (((16:Int32) * (((p1 >>> ((4:Int32) &&& (31:Int32))) + (p2 >>> ((4:Int32) &&& (31:Int32)))) + (0:Int32))) + ((((p1 &&& (15:Int32)) + (p2 &&& (15:Int32))) + p3) &&& (15:Int32)))) hx hb hr (fun t ht hW => ⟨⟨(((16:Int32) * (((p1 >>> ((4:Int32) &&& (31:Int32))) + (p2 >>> ((4:Int32) &&& (31:Int32)))) + (0:Int32))) + ((((p1 &&& (15:Int32)) + (p2 &&& (15:Int32))) + p3) &&& (15:Int32))), (), rfl, hF.symm, by rw [ht]; exact hP, va_K.moved hW.alike hK, hD⟩, hS.F ht⟩) hS.2.2 dX4_decimalSum_62
    · have hF := hF.trans (if_neg c_46)
      refine lv_iinc (v := ((((p1 >>> ((4:Int32) &&& (31:Int32))) + (p2 >>> ((4:Int32) &&& (31:Int32)))) + (0:Int32)) + (6:Int32))) (lv' := [(4, .int ((((p1 >>> ((4:Int32) &&& (31:Int32))) + (p2 >>> ((4:Int32) &&& (31:Int32)))) + (0:Int32)) + (6:Int32))), (3, .int (((p1 &&& (15:Int32)) + (p2 &&& (15:Int32))) + p3)), (0, .int p1), (1, .int p2), (2, .int p3)]) hx hb dX4_decimalSum_49 hl (k := 0) rfl rfl (by decide) rfl (fun ls hl => ?_)
      refine lv_bipush (v := 16) hx hb dX4_decimalSum_52 (by decide) ?_
      refine lv_iload hx hb dX4_decimalSum_54 (lv_at hl 0 rfl) ?_
      refine lv_imul hx hb dX4_decimalSum_56 ?_
      refine lv_iload_n hx hb dX4_decimalSum_57 rfl (lv_at hl 1 rfl) ?_
      refine lv_bipush (v := 15) hx hb dX4_decimalSum_58 (by decide) ?_
      refine lv_iand hx hb dX4_decimalSum_60 ?_
      refine lv_iadd hx hb dX4_decimalSum_61 ?_
      exact W.iret (v := (((16:Int32) * ((((p1 >>> ((4:Int32) &&& (31:Int32))) + (p2 >>> ((4:Int32) &&& (31:Int32)))) + (0:Int32)) + (6:Int32))) + ((((p1 &&& (15:Int32)) + (p2 &&& (15:Int32))) + p3) &&& (15:Int32)))) hx hb hr (fun t ht hW => ⟨⟨(((16:Int32) * ((((p1 >>> ((4:Int32) &&& (31:Int32))) + (p2 >>> ((4:Int32) &&& (31:Int32)))) + (0:Int32)) + (6:Int32))) + ((((p1 &&& (15:Int32)) + (p2 &&& (15:Int32))) + p3) &&& (15:Int32))), (), rfl, hF.symm, by rw [ht]; exact hP, va_K.moved hW.alike hK, hD⟩, hS.F ht⟩) hS.2.2 dX4_decimalSum_62
  · have hF := hF.trans (if_neg c_15)
    refine lv_iinc (v := ((((p1 &&& (15:Int32)) + (p2 &&& (15:Int32))) + p3) + (6:Int32))) (lv' := [(3, .int ((((p1 &&& (15:Int32)) + (p2 &&& (15:Int32))) + p3) + (6:Int32))), (0, .int p1), (1, .int p2), (2, .int p3)]) hx hb dX4_decimalSum_18 hl (k := 0) rfl rfl (by decide) rfl (fun ls hl => ?_)
    refine lv_iload_n hx hb dX4_decimalSum_21 rfl (lv_at hl 1 rfl) ?_
    refine lv_iconst (v := 4) hx hb dX4_decimalSum_22 (by decide) ?_
    refine lv_ishr hx hb dX4_decimalSum_23 ?_
    refine lv_iload_n hx hb dX4_decimalSum_24 rfl (lv_at hl 2 rfl) ?_
    refine lv_iconst (v := 4) hx hb dX4_decimalSum_25 (by decide) ?_
    refine lv_ishr hx hb dX4_decimalSum_26 ?_
    refine lv_iadd hx hb dX4_decimalSum_27 ?_
    refine lv_iload_n hx hb dX4_decimalSum_28 rfl (lv_at hl 0 rfl) ?_
    refine lv_bipush (v := 15) hx hb dX4_decimalSum_29 (by decide) ?_
    refine vj_join (j := 39) (rest := [.int ((p1 >>> ((4:Int32) &&& (31:Int32))) + (p2 >>> ((4:Int32) &&& (31:Int32))))]) (Hyp := fun z H locs => z = (if ((((p1 &&& (15:Int32)) + (p2 &&& (15:Int32))) + p3) + (6:Int32)) ≤ (15:Int32) then (0:Int32) else (1:Int32)) ∧ va_P (dC, dI) vwCl ([] : va_W) H ∧ va_S A s.heap H locs) (fun z H locs hh => ?_) (fun J39 => ?_)
    · obtain ⟨hz, hP, hS⟩ := hh
      subst hz
      refine lv_iadd hx hb dX4_decimalSum_39 ?_
      refine lv_istore (lv' := [(4, .int (((p1 >>> ((4:Int32) &&& (31:Int32))) + (p2 >>> ((4:Int32) &&& (31:Int32)))) + (if ((((p1 &&& (15:Int32)) + (p2 &&& (15:Int32))) + p3) + (6:Int32)) ≤ (15:Int32) then (0:Int32) else (1:Int32)))), (3, .int ((((p1 &&& (15:Int32)) + (p2 &&& (15:Int32))) + p3) + (6:Int32))), (0, .int p1), (1, .int p2), (2, .int p3)]) hx hb dX4_decimalSum_40 hl (by decide) rfl (fun ls hl => ?_)
      refine lv_iload hx hb dX4_decimalSum_42 (lv_at hl 0 rfl) ?_
      refine lv_bipush (v := 9) hx hb dX4_decimalSum_44 (by decide) ?_
      refine lv_icmp_le (tgt := 52) hx hb dX4_decimalSum_46 (by decide) (fun c_46 => ?_) (fun c_46 => ?_)
      · have hF := hF.trans (if_pos c_46)
        refine lv_bipush (v := 16) hx hb dX4_decimalSum_52 (by decide) ?_
        refine lv_iload hx hb dX4_decimalSum_54 (lv_at hl 0 rfl) ?_
        refine lv_imul hx hb dX4_decimalSum_56 ?_
        refine lv_iload_n hx hb dX4_decimalSum_57 rfl (lv_at hl 1 rfl) ?_
        refine lv_bipush (v := 15) hx hb dX4_decimalSum_58 (by decide) ?_
        refine lv_iand hx hb dX4_decimalSum_60 ?_
        refine lv_iadd hx hb dX4_decimalSum_61 ?_
        exact W.iret (v := (((16:Int32) * (((p1 >>> ((4:Int32) &&& (31:Int32))) + (p2 >>> ((4:Int32) &&& (31:Int32)))) + (if ((((p1 &&& (15:Int32)) + (p2 &&& (15:Int32))) + p3) + (6:Int32)) ≤ (15:Int32) then (0:Int32) else (1:Int32)))) + (((((p1 &&& (15:Int32)) + (p2 &&& (15:Int32))) + p3) + (6:Int32)) &&& (15:Int32)))) hx hb hr (fun t ht hW => ⟨⟨(((16:Int32) * (((p1 >>> ((4:Int32) &&& (31:Int32))) + (p2 >>> ((4:Int32) &&& (31:Int32)))) + (if ((((p1 &&& (15:Int32)) + (p2 &&& (15:Int32))) + p3) + (6:Int32)) ≤ (15:Int32) then (0:Int32) else (1:Int32)))) + (((((p1 &&& (15:Int32)) + (p2 &&& (15:Int32))) + p3) + (6:Int32)) &&& (15:Int32))), (), rfl, hF.symm, by rw [ht]; exact hP, va_K.moved hW.alike hK, hD⟩, hS.F ht⟩) hS.2.2 dX4_decimalSum_62
      · have hF := hF.trans (if_neg c_46)
        refine lv_iinc (v := ((((p1 >>> ((4:Int32) &&& (31:Int32))) + (p2 >>> ((4:Int32) &&& (31:Int32)))) + (if ((((p1 &&& (15:Int32)) + (p2 &&& (15:Int32))) + p3) + (6:Int32)) ≤ (15:Int32) then (0:Int32) else (1:Int32))) + (6:Int32))) (lv' := [(4, .int ((((p1 >>> ((4:Int32) &&& (31:Int32))) + (p2 >>> ((4:Int32) &&& (31:Int32)))) + (if ((((p1 &&& (15:Int32)) + (p2 &&& (15:Int32))) + p3) + (6:Int32)) ≤ (15:Int32) then (0:Int32) else (1:Int32))) + (6:Int32))), (3, .int ((((p1 &&& (15:Int32)) + (p2 &&& (15:Int32))) + p3) + (6:Int32))), (0, .int p1), (1, .int p2), (2, .int p3)]) hx hb dX4_decimalSum_49 hl (k := 0) rfl rfl (by decide) rfl (fun ls hl => ?_)
        refine lv_bipush (v := 16) hx hb dX4_decimalSum_52 (by decide) ?_
        refine lv_iload hx hb dX4_decimalSum_54 (lv_at hl 0 rfl) ?_
        refine lv_imul hx hb dX4_decimalSum_56 ?_
        refine lv_iload_n hx hb dX4_decimalSum_57 rfl (lv_at hl 1 rfl) ?_
        refine lv_bipush (v := 15) hx hb dX4_decimalSum_58 (by decide) ?_
        refine lv_iand hx hb dX4_decimalSum_60 ?_
        refine lv_iadd hx hb dX4_decimalSum_61 ?_
        exact W.iret (v := (((16:Int32) * ((((p1 >>> ((4:Int32) &&& (31:Int32))) + (p2 >>> ((4:Int32) &&& (31:Int32)))) + (if ((((p1 &&& (15:Int32)) + (p2 &&& (15:Int32))) + p3) + (6:Int32)) ≤ (15:Int32) then (0:Int32) else (1:Int32))) + (6:Int32))) + (((((p1 &&& (15:Int32)) + (p2 &&& (15:Int32))) + p3) + (6:Int32)) &&& (15:Int32)))) hx hb hr (fun t ht hW => ⟨⟨(((16:Int32) * ((((p1 >>> ((4:Int32) &&& (31:Int32))) + (p2 >>> ((4:Int32) &&& (31:Int32)))) + (if ((((p1 &&& (15:Int32)) + (p2 &&& (15:Int32))) + p3) + (6:Int32)) ≤ (15:Int32) then (0:Int32) else (1:Int32))) + (6:Int32))) + (((((p1 &&& (15:Int32)) + (p2 &&& (15:Int32))) + p3) + (6:Int32)) &&& (15:Int32))), (), rfl, hF.symm, by rw [ht]; exact hP, va_K.moved hW.alike hK, hD⟩, hS.F ht⟩) hS.2.2 dX4_decimalSum_62
    · refine lv_icmp_le (tgt := 38) hx hb dX4_decimalSum_31 (by decide) (fun c_31 => ?_) (fun c_31 => ?_)
      · refine lv_iconst (v := 0) hx hb dX4_decimalSum_38 (by decide) ?_
        exact J39 _ _ _ ⟨by rw [if_pos c_31], hP, hS⟩
      · refine lv_iconst (v := 1) hx hb dX4_decimalSum_34 (by decide) ?_
        refine lv_goto (tgt := 39) hx hb dX4_decimalSum_35 (by decide) ?_
        exact J39 _ _ _ ⟨by rw [if_neg c_31], hP, hS⟩
def fX4_add (p1 : Int32) (p2 : Int32) (rg_a : Int32) (rg_flags : Int32) : Int32 × Int32 :=
  match (fX4_judged ((rg_a + p1) + (rg_flags &&& (1:Int32))) rg_flags) with
  | (r_25, rg_flags_25) =>
   if p2 = (0:Int32) then
    (r_25, (fX4_put (1:Int32) (if ((rg_a + p1) + (rg_flags &&& (1:Int32))) ≤ (255:Int32) then (0:Int32) else (1:Int32)) (fX4_put (64:Int32) (if ((rg_a ^^^ p1) &&& (128:Int32)) = (0:Int32) then (if ((rg_a ^^^ r_25) &&& (128:Int32)) = (0:Int32) then (0:Int32) else (1:Int32)) else (0:Int32)) rg_flags_25)))
   else
    (((fX4_decimalSum rg_a p1 (rg_flags &&& (1:Int32))) &&& (255:Int32)), (fX4_put (1:Int32) (if (fX4_decimalSum rg_a p1 (rg_flags &&& (1:Int32))) ≤ (255:Int32) then (0:Int32) else (1:Int32)) (fX4_put (64:Int32) (if ((rg_a ^^^ p1) &&& (128:Int32)) = (0:Int32) then (if ((rg_a ^^^ r_25) &&& (128:Int32)) = (0:Int32) then (0:Int32) else (1:Int32)) else (0:Int32)) rg_flags_25)))
set_option maxHeartbeats 4000000 in
set_option maxRecDepth 100000 in
theorem mX4_add (l : Launch) (dC : Nat → ClassId) (dI : Nat → Nat → Nat) (q_rg : Nat) (sz : Nat) (rg_a rg_x rg_y rg_s rg_flags rg_p : Int32) (p1 p2 : Int32) : Met l yX4_add uX4_add ({ frames := 1, cells := 0, slots := 0, locals := 24 }) (va_Pc [.ref q_rg, .int p1, .int p2] (fun U => U.heap.size = sz ∧ va_P (dC, dI) vwCl (wwX4 q_rg rg_a rg_x rg_y rg_s rg_flags rg_p) U.heap ∧ va_K (dC, dI) vwCl [] U ∧ va_D (fun _ => True) (wwX4 q_rg rg_a rg_x rg_y rg_s rg_flags rg_p))) (va_Qv (fun (u : Int32 × Int32) => u = fX4_add p1 p2 rg_a rg_flags) (fun (u : Int32 × Int32) (t : State) => va_P (dC, dI) vwCl (wwX4 q_rg u.1 rg_x rg_y rg_s u.2 rg_p) t.heap ∧ va_K (dC, dI) vwCl [] t ∧ va_D (va_A (wwX4 q_rg rg_a rg_x rg_y rg_s rg_flags rg_p) sz) (wwX4 q_rg u.1 rg_x rg_y rg_s u.2 rg_p)) (va_A (wwX4 q_rg rg_a rg_x rg_y rg_s rg_flags rg_p) sz)) 0 0 (va_A (wwX4 q_rg rg_a rg_x rg_y rg_s rg_flags rg_p) sz) := by
  refine Met.ofW (cc := cX4_add) (maxL := 6) (ret := none) (by decide) rfl ?_
  intro p e s m args below meth c s₁ B hml hv
  obtain ⟨rfl, hsz, hP, hK, hD0⟩ := hv
  have hx := B.exec
  have hb := B.bytes
  have hr := B.returns
  have hts : ∀ w ∈ ub, w.before _ s = true := fun w h => atoms_spec (ws := uX4_add) B.pre w (List.mem_cons_of_mem _ h)
  have hown : s.vm.findClass RX4 = some m.cls := findClass_of_methodNamed B.named
  have hlocks := B.notSynchronized
  subst hsz
  have hD := hD0.self (sz := s.heap.size)
  generalize hAe : va_A (wwX4 q_rg rg_a rg_x rg_y rg_s rg_flags rg_p) s.heap.size = A at hD ⊢
  have hA : ∀ q : Nat, s.heap.size ≤ q → A q := fun q h => by rw [← hAe]; exact Or.inr h
  have hS : va_S A s.heap s.heap [] := va_S.rf
  have hl := lv_entry ([.ref q_rg, .int p1, .int p2]) (n := 6) (Nat.le_of_ble_eq_true rfl)
  rw [lg_entry_eq]
  generalize (lg_sl ([.ref q_rg, .int p1, .int p2]) ++ List.replicate (6 - (lg_sl ([.ref q_rg, .int p1, .int p2])).length) Slot.unset).toArray = ls at hl ⊢
  have hl : lv_has ls 6 [(0, .ref q_rg), (1, .int p1), (2, .int p2)] := hl
  have hF := fX4_add.eq_1 p1 p2 rg_a rg_flags
  refine lv_aload_n hx hb dX4_add_0 rfl (lv_at hl 0 rfl) ?_
  refine va_get (D := (dC, dI)) (ci := 4) (v := .int rg_a) (C := RX4) (T := TX4) (N := 6) hx hb hts hiX4 hown hK hP 0 rfl rfl 0 (by decide) (hts _ kFX4_16) (fun _ h9 => h9) rfl dX4_add_1 ?_
  refine lv_istore_n (lv' := [(3, .int rg_a), (0, .ref q_rg), (1, .int p1), (2, .int p2)]) hx hb dX4_add_4 rfl hl (by decide) rfl (fun ls hl => ?_)
  refine lv_aload_n hx hb dX4_add_5 rfl (lv_at hl 1 rfl) ?_
  refine va_get (D := (dC, dI)) (ci := 4) (v := .int rg_flags) (C := RX4) (T := TX4) (N := 6) hx hb hts hiX4 hown hK hP 0 rfl rfl 4 (by decide) (hts _ kFX4_13) (fun _ h9 => h9) rfl dX4_add_6 ?_
  refine lv_iconst (v := 1) hx hb dX4_add_9 (by decide) ?_
  refine lv_iand hx hb dX4_add_10 ?_
  refine lv_istore (lv' := [(4, .int (rg_flags &&& (1:Int32))), (3, .int rg_a), (0, .ref q_rg), (1, .int p1), (2, .int p2)]) hx hb dX4_add_11 hl (by decide) rfl (fun ls hl => ?_)
  refine lv_iload_n hx hb dX4_add_13 rfl (lv_at hl 1 rfl) ?_
  refine lv_iload_n hx hb dX4_add_14 rfl (lv_at hl 3 rfl) ?_
  refine lv_iadd hx hb dX4_add_15 ?_
  refine lv_iload hx hb dX4_add_16 (lv_at hl 0 rfl) ?_
  refine lv_iadd hx hb dX4_add_18 ?_
  refine lv_istore (lv' := [(5, .int ((rg_a + p1) + (rg_flags &&& (1:Int32)))), (4, .int (rg_flags &&& (1:Int32))), (3, .int rg_a), (0, .ref q_rg), (1, .int p1), (2, .int p2)]) hx hb dX4_add_19 hl (by decide) rfl (fun ls hl => ?_)
  refine lv_aload_n hx hb dX4_add_21 rfl (lv_at hl 3 rfl) ?_
  refine lv_aload_n hx hb dX4_add_22 rfl (lv_at hl 3 rfl) ?_
  refine lv_iload hx hb dX4_add_23 (lv_at hl 0 rfl) ?_
  have hPc := hP.sub (ws' := (wwX4 q_rg rg_a rg_x rg_y rg_s rg_flags rg_p)) [0] rfl
  have hDc := hD.sub (ws' := (wwX4 q_rg rg_a rg_x rg_y rg_s rg_flags rg_p)) [0] (by decide) rfl
  have hKc := hK.sub (tys' := []) [] rfl
  have hFc := va_free (wc := (wwX4 q_rg rg_a rg_x rg_y rg_s rg_flags rg_p)) hD hS hA [0] rfl
  refine va_calli (va_runV (As := [.int ((rg_a + p1) + (rg_flags &&& (1:Int32)))]) (rest := [.ref q_rg]) ⟨hx, hb, hml, hown, hts⟩ (mX4_judged l dC dI q_rg s.heap.size rg_a rg_x rg_y rg_s rg_flags rg_p ((rg_a + p1) + (rg_flags &&& (1:Int32)))) (cwV 1 hts (ub_V kMX4_28 kYX4_judged kSX4_judged kIX4 kBX4_judged) rfl rfl rfl (by decide +kernel) ⟨Nat.le_of_ble_eq_true rfl, Nat.le_of_ble_eq_true rfl⟩) ⟨fun a U g mk q => by obtain ⟨q0, q1, qP, qK, qD⟩ := q; exact ⟨q0, q1, qP, va_K.moved (u := U) (U := U.calling g mk a) (Vm.Alike.refl U.vm) qK, qD⟩, va_recv hKc hPc (ci := 4) (q0 := 0) rfl rfl, fun U hU hW => ⟨rfl, by rw [hU], by rw [hU]; exact hPc, va_K.moved hW.alike hKc, hDc.weaken (fun _ _ _ _ => trivial)⟩⟩ rfl rfl hl.1 rfl (lv_room (Nat.le_of_ble_eq_true rfl)) dX4_add_25 ⟨(Nat.zero_le _), (Nat.zero_le _)⟩) hS (fun q _ h => hFc q h) hFc (fun r_25 u_25 t H locs ht hvm hw hB hz1 hk1 hS => ?_)
  obtain ⟨rg_flags_25, rfl⟩ : ∃ z, z = u_25 := ⟨_, rfl⟩
  obtain ⟨hP1, hK1, hD1⟩ := hB
  rw [ht] at hP1
  obtain ⟨hP, hD⟩ := vb_back (wc := (wwX4 q_rg rg_a rg_x rg_y rg_s rg_flags rg_p)) (ws' := (wwX4 q_rg rg_a rg_x rg_y rg_s rg_flags_25 rg_p)) hP hD hD1 [0] [] rfl rfl ae_n rfl rfl hk1 hP1
  rw [← hw] at hF
  dsimp only at hF
  refine va_put (D := (dC, dI)) (ci := 4) (v := .int r_25) (ty := .int) (C := RX4) (T := TX4) (N := 6) hx hb hts hiX4 tyX4 tyX4_ok nmX4 hown hK hP hD hS 0 rfl rfl 0 (by decide) (hts _ kFX4_16) (fun _ h9 => h9) rfl (by decide +kernel) rfl rfl (Nat.le_of_ble_eq_true rfl) dX4_add_28 (fun H locs hP hD hS => ?_)
  have hP : va_P (dC, dI) vwCl (wwX4 q_rg r_25 rg_x rg_y rg_s rg_flags_25 rg_p) H := hP
  have hD : va_D A (wwX4 q_rg r_25 rg_x rg_y rg_s rg_flags_25 rg_p) := hD
  refine lv_aload_n hx hb dX4_add_31 rfl (lv_at hl 3 rfl) ?_
  refine lv_bipush (v := 64) hx hb dX4_add_32 (by decide) ?_
  refine lv_iload_n hx hb dX4_add_34 rfl (lv_at hl 2 rfl) ?_
  refine lv_iload_n hx hb dX4_add_35 rfl (lv_at hl 4 rfl) ?_
  refine lv_ixor hx hb dX4_add_36 ?_
  refine lv_sipush (v := 128) hx hb dX4_add_37 (by decide) ?_
  refine lv_iand hx hb dX4_add_40 ?_
  refine vj_join (j := 62) (rest := [.int (64:Int32), .ref q_rg]) (Hyp := fun z H locs => z = (if ((rg_a ^^^ p1) &&& (128:Int32)) = (0:Int32) then (if ((rg_a ^^^ r_25) &&& (128:Int32)) = (0:Int32) then (0:Int32) else (1:Int32)) else (0:Int32)) ∧ va_P (dC, dI) vwCl (wwX4 q_rg r_25 rg_x rg_y rg_s rg_flags_25 rg_p) H ∧ va_S A s.heap H locs) (fun z H locs hh => ?_) (fun J62 => ?_)
  · obtain ⟨hz, hP, hS⟩ := hh
    subst hz
    have hPc := hP.sub (ws' := (wwX4 q_rg r_25 rg_x rg_y rg_s rg_flags_25 rg_p)) [0] rfl
    have hDc := hD.sub (ws' := (wwX4 q_rg r_25 rg_x rg_y rg_s rg_flags_25 rg_p)) [0] (by decide) rfl
    have hKc := hK.sub (tys' := []) [] rfl
    have hFc := va_free (wc := (wwX4 q_rg r_25 rg_x rg_y rg_s rg_flags_25 rg_p)) hD hS hA [0] rfl
    refine va_callv (va_runV (As := [.int (64:Int32), .int (if ((rg_a ^^^ p1) &&& (128:Int32)) = (0:Int32) then (if ((rg_a ^^^ r_25) &&& (128:Int32)) = (0:Int32) then (0:Int32) else (1:Int32)) else (0:Int32))]) (rest := []) ⟨hx, hb, hml, hown, hts⟩ (mX4_put l dC dI q_rg H.size r_25 rg_x rg_y rg_s rg_flags_25 rg_p (64:Int32) (if ((rg_a ^^^ p1) &&& (128:Int32)) = (0:Int32) then (if ((rg_a ^^^ r_25) &&& (128:Int32)) = (0:Int32) then (0:Int32) else (1:Int32)) else (0:Int32))) (cwV 2 hts (ub_V kMX4_44 kYX4_put kSX4_put kIX4 kBX4_put) rfl rfl rfl (by decide +kernel) ⟨Nat.le_of_ble_eq_true rfl, Nat.le_of_ble_eq_true rfl⟩) ⟨fun a U g mk q => by obtain ⟨q0, q1, qP, qK, qD⟩ := q; exact ⟨q0, q1, qP, va_K.moved (u := U) (U := U.calling g mk a) (Vm.Alike.refl U.vm) qK, qD⟩, va_recv hKc hPc (ci := 4) (q0 := 0) rfl rfl, fun U hU hW => ⟨rfl, by rw [hU], by rw [hU]; exact hPc, va_K.moved hW.alike hKc, hDc.weaken (fun _ _ _ _ => trivial)⟩⟩ rfl rfl hl.1 rfl (lv_room (Nat.le_of_ble_eq_true rfl)) dX4_add_62 ⟨(Nat.zero_le _), (Nat.zero_le _)⟩) hS (fun q _ h => hFc q h) hFc (fun u_62 t H locs ht hvm hw hB hz1 hk1 hS => ?_)
    obtain ⟨hP1, hK1, hD1⟩ := hB
    rw [ht] at hP1
    subst hw
    obtain ⟨hP, hD⟩ := vb_back (wc := (wwX4 q_rg r_25 rg_x rg_y rg_s rg_flags_25 rg_p)) (ws' := (wwX4 q_rg r_25 rg_x rg_y rg_s (fX4_put (64:Int32) (if ((rg_a ^^^ p1) &&& (128:Int32)) = (0:Int32) then (if ((rg_a ^^^ r_25) &&& (128:Int32)) = (0:Int32) then (0:Int32) else (1:Int32)) else (0:Int32)) rg_flags_25) rg_p)) hP hD hD1 [0] [] rfl rfl ae_n rfl rfl hk1 hP1
    refine lv_iload_n hx hb dX4_add_65 rfl (lv_at hl 5 rfl) ?_
    refine lv_if_eq (tgt := 88) hx hb dX4_add_66 (by decide) (fun c_66 => ?_) (fun c_66 => ?_)
    · have hF := hF.trans (if_pos c_66)
      refine lv_aload_n hx hb dX4_add_88 rfl (lv_at hl 3 rfl) ?_
      refine lv_iconst (v := 1) hx hb dX4_add_89 (by decide) ?_
      refine lv_iload hx hb dX4_add_90 (lv_at hl 0 rfl) ?_
      refine lv_sipush (v := 255) hx hb dX4_add_92 (by decide) ?_
      refine vj_join (j := 103) (rest := [.int (1:Int32), .ref q_rg]) (Hyp := fun z H locs => z = (if ((rg_a + p1) + (rg_flags &&& (1:Int32))) ≤ (255:Int32) then (0:Int32) else (1:Int32)) ∧ va_P (dC, dI) vwCl (wwX4 q_rg r_25 rg_x rg_y rg_s (fX4_put (64:Int32) (if ((rg_a ^^^ p1) &&& (128:Int32)) = (0:Int32) then (if ((rg_a ^^^ r_25) &&& (128:Int32)) = (0:Int32) then (0:Int32) else (1:Int32)) else (0:Int32)) rg_flags_25) rg_p) H ∧ va_S A s.heap H locs) (fun z H locs hh => ?_) (fun J103 => ?_)
      · obtain ⟨hz, hP, hS⟩ := hh
        subst hz
        have hPc := hP.sub (ws' := (wwX4 q_rg r_25 rg_x rg_y rg_s (fX4_put (64:Int32) (if ((rg_a ^^^ p1) &&& (128:Int32)) = (0:Int32) then (if ((rg_a ^^^ r_25) &&& (128:Int32)) = (0:Int32) then (0:Int32) else (1:Int32)) else (0:Int32)) rg_flags_25) rg_p)) [0] rfl
        have hDc := hD.sub (ws' := (wwX4 q_rg r_25 rg_x rg_y rg_s (fX4_put (64:Int32) (if ((rg_a ^^^ p1) &&& (128:Int32)) = (0:Int32) then (if ((rg_a ^^^ r_25) &&& (128:Int32)) = (0:Int32) then (0:Int32) else (1:Int32)) else (0:Int32)) rg_flags_25) rg_p)) [0] (by decide) rfl
        have hKc := hK.sub (tys' := []) [] rfl
        have hFc := va_free (wc := (wwX4 q_rg r_25 rg_x rg_y rg_s (fX4_put (64:Int32) (if ((rg_a ^^^ p1) &&& (128:Int32)) = (0:Int32) then (if ((rg_a ^^^ r_25) &&& (128:Int32)) = (0:Int32) then (0:Int32) else (1:Int32)) else (0:Int32)) rg_flags_25) rg_p)) hD hS hA [0] rfl
        refine va_callv (va_runV (As := [.int (1:Int32), .int (if ((rg_a + p1) + (rg_flags &&& (1:Int32))) ≤ (255:Int32) then (0:Int32) else (1:Int32))]) (rest := []) ⟨hx, hb, hml, hown, hts⟩ (mX4_put l dC dI q_rg H.size r_25 rg_x rg_y rg_s (fX4_put (64:Int32) (if ((rg_a ^^^ p1) &&& (128:Int32)) = (0:Int32) then (if ((rg_a ^^^ r_25) &&& (128:Int32)) = (0:Int32) then (0:Int32) else (1:Int32)) else (0:Int32)) rg_flags_25) rg_p (1:Int32) (if ((rg_a + p1) + (rg_flags &&& (1:Int32))) ≤ (255:Int32) then (0:Int32) else (1:Int32))) (cwV 2 hts (ub_V kMX4_44 kYX4_put kSX4_put kIX4 kBX4_put) rfl rfl rfl (by decide +kernel) ⟨Nat.le_of_ble_eq_true rfl, Nat.le_of_ble_eq_true rfl⟩) ⟨fun a U g mk q => by obtain ⟨q0, q1, qP, qK, qD⟩ := q; exact ⟨q0, q1, qP, va_K.moved (u := U) (U := U.calling g mk a) (Vm.Alike.refl U.vm) qK, qD⟩, va_recv hKc hPc (ci := 4) (q0 := 0) rfl rfl, fun U hU hW => ⟨rfl, by rw [hU], by rw [hU]; exact hPc, va_K.moved hW.alike hKc, hDc.weaken (fun _ _ _ _ => trivial)⟩⟩ rfl rfl hl.1 rfl (lv_room (Nat.le_of_ble_eq_true rfl)) dX4_add_103 ⟨(Nat.zero_le _), (Nat.zero_le _)⟩) hS (fun q _ h => hFc q h) hFc (fun u_103 t H locs ht hvm hw hB hz1 hk1 hS => ?_)
        obtain ⟨hP1, hK1, hD1⟩ := hB
        rw [ht] at hP1
        subst hw
        obtain ⟨hP, hD⟩ := vb_back (wc := (wwX4 q_rg r_25 rg_x rg_y rg_s (fX4_put (64:Int32) (if ((rg_a ^^^ p1) &&& (128:Int32)) = (0:Int32) then (if ((rg_a ^^^ r_25) &&& (128:Int32)) = (0:Int32) then (0:Int32) else (1:Int32)) else (0:Int32)) rg_flags_25) rg_p)) (ws' := (wwX4 q_rg r_25 rg_x rg_y rg_s (fX4_put (1:Int32) (if ((rg_a + p1) + (rg_flags &&& (1:Int32))) ≤ (255:Int32) then (0:Int32) else (1:Int32)) (fX4_put (64:Int32) (if ((rg_a ^^^ p1) &&& (128:Int32)) = (0:Int32) then (if ((rg_a ^^^ r_25) &&& (128:Int32)) = (0:Int32) then (0:Int32) else (1:Int32)) else (0:Int32)) rg_flags_25)) rg_p)) hP hD hD1 [0] [] rfl rfl ae_n rfl rfl hk1 hP1
        exact W.vret hx hb hr (fun t ht hW => ⟨⟨(r_25, (fX4_put (1:Int32) (if ((rg_a + p1) + (rg_flags &&& (1:Int32))) ≤ (255:Int32) then (0:Int32) else (1:Int32)) (fX4_put (64:Int32) (if ((rg_a ^^^ p1) &&& (128:Int32)) = (0:Int32) then (if ((rg_a ^^^ r_25) &&& (128:Int32)) = (0:Int32) then (0:Int32) else (1:Int32)) else (0:Int32)) rg_flags_25))), rfl, hF.symm, by rw [ht]; exact hP, va_K.moved hW.alike hK, hD⟩, hS.F ht⟩) hS.2.2 dX4_add_106
      · refine lv_icmp_le (tgt := 102) hx hb dX4_add_95 (by decide) (fun c_95 => ?_) (fun c_95 => ?_)
        · refine lv_iconst (v := 0) hx hb dX4_add_102 (by decide) ?_
          exact J103 _ _ _ ⟨by rw [if_pos c_95], hP, hS⟩
        · refine lv_iconst (v := 1) hx hb dX4_add_98 (by decide) ?_
          refine lv_goto (tgt := 103) hx hb dX4_add_99 (by decide) ?_
          exact J103 _ _ _ ⟨by rw [if_neg c_95], hP, hS⟩
    · have hF := hF.trans (if_neg c_66)
      refine lv_iload_n hx hb dX4_add_69 rfl (lv_at hl 2 rfl) ?_
      refine lv_iload_n hx hb dX4_add_70 rfl (lv_at hl 4 rfl) ?_
      refine lv_iload hx hb dX4_add_71 (lv_at hl 1 rfl) ?_
      have hPc := hP.sub (ws' := ([] : va_W)) [] rfl
      have hDc := hD.sub (ws' := ([] : va_W)) [] (by decide) rfl
      have hKc := hK.sub (tys' := []) [] rfl
      have hFc := va_free (wc := ([] : va_W)) hD hS hA [] rfl
      refine va_calli (va_runS (As := [.int rg_a, .int p1, .int (rg_flags &&& (1:Int32))]) (rest := []) ⟨hx, hb, hml, hown, hts⟩ (mX4_decimalSum l dC dI H.size rg_a p1 (rg_flags &&& (1:Int32))) (va_cwS 3 hts (ub_S kMX4_47 kTX4_decimalSum kIX4 kBX4_decimalSum) rfl rfl rfl (by decide +kernel) ⟨Nat.le_of_ble_eq_true rfl, Nat.le_of_ble_eq_true rfl⟩) ⟨fun a U g mk q => by obtain ⟨q0, q1, qP, qK, qD⟩ := q; exact ⟨q0, q1, qP, va_K.moved (u := U) (U := U.calling g mk a) (Vm.Alike.refl U.vm) qK, qD⟩, fun U hU hW => ⟨rfl, by rw [hU], by rw [hU]; exact hPc, va_K.moved hW.alike hKc, hDc.weaken (fun _ _ _ _ => trivial)⟩⟩ rfl rfl hl.1 rfl (lv_room (Nat.le_of_ble_eq_true rfl)) dX4_add_73 ⟨(Nat.zero_le _), (Nat.zero_le _)⟩) hS (fun q _ h => hFc q h) hFc (fun r_73 u_73 t H locs ht hvm hw hB hz1 hk1 hS => ?_)
      obtain ⟨hP1, hK1, hD1⟩ := hB
      rw [ht] at hP1
      subst hw
      obtain ⟨hP, hD⟩ := vb_back (wc := ([] : va_W)) (ws' := (wwX4 q_rg r_25 rg_x rg_y rg_s (fX4_put (64:Int32) (if ((rg_a ^^^ p1) &&& (128:Int32)) = (0:Int32) then (if ((rg_a ^^^ r_25) &&& (128:Int32)) = (0:Int32) then (0:Int32) else (1:Int32)) else (0:Int32)) rg_flags_25) rg_p)) hP hD hD1 [] [0] rfl rfl (ae_c rfl ae_n) rfl rfl hk1 hP1
      refine lv_istore (lv' := [(5, .int (fX4_decimalSum rg_a p1 (rg_flags &&& (1:Int32)))), (4, .int (rg_flags &&& (1:Int32))), (3, .int rg_a), (0, .ref q_rg), (1, .int p1), (2, .int p2)]) hx hb dX4_add_76 hl (by decide) rfl (fun ls hl => ?_)
      refine lv_aload_n hx hb dX4_add_78 rfl (lv_at hl 3 rfl) ?_
      refine lv_iload hx hb dX4_add_79 (lv_at hl 0 rfl) ?_
      refine lv_sipush (v := 255) hx hb dX4_add_81 (by decide) ?_
      refine lv_iand hx hb dX4_add_84 ?_
      refine va_put (D := (dC, dI)) (ci := 4) (v := .int ((fX4_decimalSum rg_a p1 (rg_flags &&& (1:Int32))) &&& (255:Int32))) (ty := .int) (C := RX4) (T := TX4) (N := 6) hx hb hts hiX4 tyX4 tyX4_ok nmX4 hown hK hP hD hS 0 rfl rfl 0 (by decide) (hts _ kFX4_16) (fun _ h9 => h9) rfl (by decide +kernel) rfl rfl (Nat.le_of_ble_eq_true rfl) dX4_add_85 (fun H locs hP hD hS => ?_)
      have hP : va_P (dC, dI) vwCl (wwX4 q_rg ((fX4_decimalSum rg_a p1 (rg_flags &&& (1:Int32))) &&& (255:Int32)) rg_x rg_y rg_s (fX4_put (64:Int32) (if ((rg_a ^^^ p1) &&& (128:Int32)) = (0:Int32) then (if ((rg_a ^^^ r_25) &&& (128:Int32)) = (0:Int32) then (0:Int32) else (1:Int32)) else (0:Int32)) rg_flags_25) rg_p) H := hP
      have hD : va_D A (wwX4 q_rg ((fX4_decimalSum rg_a p1 (rg_flags &&& (1:Int32))) &&& (255:Int32)) rg_x rg_y rg_s (fX4_put (64:Int32) (if ((rg_a ^^^ p1) &&& (128:Int32)) = (0:Int32) then (if ((rg_a ^^^ r_25) &&& (128:Int32)) = (0:Int32) then (0:Int32) else (1:Int32)) else (0:Int32)) rg_flags_25) rg_p) := hD
      refine lv_aload_n hx hb dX4_add_88 rfl (lv_at hl 3 rfl) ?_
      refine lv_iconst (v := 1) hx hb dX4_add_89 (by decide) ?_
      refine lv_iload hx hb dX4_add_90 (lv_at hl 0 rfl) ?_
      refine lv_sipush (v := 255) hx hb dX4_add_92 (by decide) ?_
      refine vj_join (j := 103) (rest := [.int (1:Int32), .ref q_rg]) (Hyp := fun z H locs => z = (if (fX4_decimalSum rg_a p1 (rg_flags &&& (1:Int32))) ≤ (255:Int32) then (0:Int32) else (1:Int32)) ∧ va_P (dC, dI) vwCl (wwX4 q_rg ((fX4_decimalSum rg_a p1 (rg_flags &&& (1:Int32))) &&& (255:Int32)) rg_x rg_y rg_s (fX4_put (64:Int32) (if ((rg_a ^^^ p1) &&& (128:Int32)) = (0:Int32) then (if ((rg_a ^^^ r_25) &&& (128:Int32)) = (0:Int32) then (0:Int32) else (1:Int32)) else (0:Int32)) rg_flags_25) rg_p) H ∧ va_S A s.heap H locs) (fun z H locs hh => ?_) (fun J103 => ?_)
      · obtain ⟨hz, hP, hS⟩ := hh
        subst hz
        have hPc := hP.sub (ws' := (wwX4 q_rg ((fX4_decimalSum rg_a p1 (rg_flags &&& (1:Int32))) &&& (255:Int32)) rg_x rg_y rg_s (fX4_put (64:Int32) (if ((rg_a ^^^ p1) &&& (128:Int32)) = (0:Int32) then (if ((rg_a ^^^ r_25) &&& (128:Int32)) = (0:Int32) then (0:Int32) else (1:Int32)) else (0:Int32)) rg_flags_25) rg_p)) [0] rfl
        have hDc := hD.sub (ws' := (wwX4 q_rg ((fX4_decimalSum rg_a p1 (rg_flags &&& (1:Int32))) &&& (255:Int32)) rg_x rg_y rg_s (fX4_put (64:Int32) (if ((rg_a ^^^ p1) &&& (128:Int32)) = (0:Int32) then (if ((rg_a ^^^ r_25) &&& (128:Int32)) = (0:Int32) then (0:Int32) else (1:Int32)) else (0:Int32)) rg_flags_25) rg_p)) [0] (by decide) rfl
        have hKc := hK.sub (tys' := []) [] rfl
        have hFc := va_free (wc := (wwX4 q_rg ((fX4_decimalSum rg_a p1 (rg_flags &&& (1:Int32))) &&& (255:Int32)) rg_x rg_y rg_s (fX4_put (64:Int32) (if ((rg_a ^^^ p1) &&& (128:Int32)) = (0:Int32) then (if ((rg_a ^^^ r_25) &&& (128:Int32)) = (0:Int32) then (0:Int32) else (1:Int32)) else (0:Int32)) rg_flags_25) rg_p)) hD hS hA [0] rfl
        refine va_callv (va_runV (As := [.int (1:Int32), .int (if (fX4_decimalSum rg_a p1 (rg_flags &&& (1:Int32))) ≤ (255:Int32) then (0:Int32) else (1:Int32))]) (rest := []) ⟨hx, hb, hml, hown, hts⟩ (mX4_put l dC dI q_rg H.size ((fX4_decimalSum rg_a p1 (rg_flags &&& (1:Int32))) &&& (255:Int32)) rg_x rg_y rg_s (fX4_put (64:Int32) (if ((rg_a ^^^ p1) &&& (128:Int32)) = (0:Int32) then (if ((rg_a ^^^ r_25) &&& (128:Int32)) = (0:Int32) then (0:Int32) else (1:Int32)) else (0:Int32)) rg_flags_25) rg_p (1:Int32) (if (fX4_decimalSum rg_a p1 (rg_flags &&& (1:Int32))) ≤ (255:Int32) then (0:Int32) else (1:Int32))) (cwV 2 hts (ub_V kMX4_44 kYX4_put kSX4_put kIX4 kBX4_put) rfl rfl rfl (by decide +kernel) ⟨Nat.le_of_ble_eq_true rfl, Nat.le_of_ble_eq_true rfl⟩) ⟨fun a U g mk q => by obtain ⟨q0, q1, qP, qK, qD⟩ := q; exact ⟨q0, q1, qP, va_K.moved (u := U) (U := U.calling g mk a) (Vm.Alike.refl U.vm) qK, qD⟩, va_recv hKc hPc (ci := 4) (q0 := 0) rfl rfl, fun U hU hW => ⟨rfl, by rw [hU], by rw [hU]; exact hPc, va_K.moved hW.alike hKc, hDc.weaken (fun _ _ _ _ => trivial)⟩⟩ rfl rfl hl.1 rfl (lv_room (Nat.le_of_ble_eq_true rfl)) dX4_add_103 ⟨(Nat.zero_le _), (Nat.zero_le _)⟩) hS (fun q _ h => hFc q h) hFc (fun u_103 t H locs ht hvm hw hB hz1 hk1 hS => ?_)
        obtain ⟨hP1, hK1, hD1⟩ := hB
        rw [ht] at hP1
        subst hw
        obtain ⟨hP, hD⟩ := vb_back (wc := (wwX4 q_rg ((fX4_decimalSum rg_a p1 (rg_flags &&& (1:Int32))) &&& (255:Int32)) rg_x rg_y rg_s (fX4_put (64:Int32) (if ((rg_a ^^^ p1) &&& (128:Int32)) = (0:Int32) then (if ((rg_a ^^^ r_25) &&& (128:Int32)) = (0:Int32) then (0:Int32) else (1:Int32)) else (0:Int32)) rg_flags_25) rg_p)) (ws' := (wwX4 q_rg ((fX4_decimalSum rg_a p1 (rg_flags &&& (1:Int32))) &&& (255:Int32)) rg_x rg_y rg_s (fX4_put (1:Int32) (if (fX4_decimalSum rg_a p1 (rg_flags &&& (1:Int32))) ≤ (255:Int32) then (0:Int32) else (1:Int32)) (fX4_put (64:Int32) (if ((rg_a ^^^ p1) &&& (128:Int32)) = (0:Int32) then (if ((rg_a ^^^ r_25) &&& (128:Int32)) = (0:Int32) then (0:Int32) else (1:Int32)) else (0:Int32)) rg_flags_25)) rg_p)) hP hD hD1 [0] [] rfl rfl ae_n rfl rfl hk1 hP1
        exact W.vret hx hb hr (fun t ht hW => ⟨⟨(((fX4_decimalSum rg_a p1 (rg_flags &&& (1:Int32))) &&& (255:Int32)), (fX4_put (1:Int32) (if (fX4_decimalSum rg_a p1 (rg_flags &&& (1:Int32))) ≤ (255:Int32) then (0:Int32) else (1:Int32)) (fX4_put (64:Int32) (if ((rg_a ^^^ p1) &&& (128:Int32)) = (0:Int32) then (if ((rg_a ^^^ r_25) &&& (128:Int32)) = (0:Int32) then (0:Int32) else (1:Int32)) else (0:Int32)) rg_flags_25))), rfl, hF.symm, by rw [ht]; exact hP, va_K.moved hW.alike hK, hD⟩, hS.F ht⟩) hS.2.2 dX4_add_106
      · refine lv_icmp_le (tgt := 102) hx hb dX4_add_95 (by decide) (fun c_95 => ?_) (fun c_95 => ?_)
        · refine lv_iconst (v := 0) hx hb dX4_add_102 (by decide) ?_
          exact J103 _ _ _ ⟨by rw [if_pos c_95], hP, hS⟩
        · refine lv_iconst (v := 1) hx hb dX4_add_98 (by decide) ?_
          refine lv_goto (tgt := 103) hx hb dX4_add_99 (by decide) ?_
          exact J103 _ _ _ ⟨by rw [if_neg c_95], hP, hS⟩
  · refine lv_if_ne (tgt := 61) hx hb dX4_add_41 (by decide) (fun c_41 => ?_) (fun c_41 => ?_)
    · refine lv_iconst (v := 0) hx hb dX4_add_61 (by decide) ?_
      exact J62 _ _ _ ⟨by rw [if_neg c_41], hP, hS⟩
    · refine lv_iload_n hx hb dX4_add_44 rfl (lv_at hl 2 rfl) ?_
      refine lv_aload_n hx hb dX4_add_45 rfl (lv_at hl 3 rfl) ?_
      refine va_get (D := (dC, dI)) (ci := 4) (v := .int r_25) (C := RX4) (T := TX4) (N := 6) hx hb hts hiX4 hown hK hP 0 rfl rfl 0 (by decide) (hts _ kFX4_16) (fun _ h9 => h9) rfl dX4_add_46 ?_
      refine lv_ixor hx hb dX4_add_49 ?_
      refine lv_sipush (v := 128) hx hb dX4_add_50 (by decide) ?_
      refine lv_iand hx hb dX4_add_53 ?_
      refine lv_if_eq (tgt := 61) hx hb dX4_add_54 (by decide) (fun c_54 => ?_) (fun c_54 => ?_)
      · refine lv_iconst (v := 0) hx hb dX4_add_61 (by decide) ?_
        exact J62 _ _ _ ⟨by rw [if_pos c_41, if_pos c_54], hP, hS⟩
      · refine lv_iconst (v := 1) hx hb dX4_add_57 (by decide) ?_
        refine lv_goto (tgt := 62) hx hb dX4_add_58 (by decide) ?_
        exact J62 _ _ _ ⟨by rw [if_pos c_41, if_neg c_54], hP, hS⟩
def fX4_calculate (p1 : Int32) (p2 : Int32) (rg_a : Int32) (rg_flags : Int32) : Int32 × Int32 :=
  if p1 = (0:Int32) then
   match (fX4_judged (rg_a ||| p2) rg_flags) with
   | (r_56, rg_flags_56) =>
    (r_56, rg_flags_56)
  else
   if p1 = (1:Int32) then
    match (fX4_judged (rg_a &&& p2) rg_flags) with
    | (r_73, rg_flags_73) =>
     (r_73, rg_flags_73)
   else
    if p1 = (2:Int32) then
     match (fX4_judged (rg_a ^^^ p2) rg_flags) with
     | (r_90, rg_flags_90) =>
      (r_90, rg_flags_90)
    else
     if p1 = (3:Int32) then
      match (fX4_add p2 (fX4_has (8:Int32) rg_flags) rg_a rg_flags) with
      | (rg_a_107, rg_flags_107) =>
       (rg_a_107, rg_flags_107)
     else
      if p1 = (5:Int32) then
       match (fX4_judged p2 rg_flags) with
       | (r_116, rg_flags_116) =>
        (r_116, rg_flags_116)
      else
       if p1 = (6:Int32) then
        (rg_a, (fX4_compare rg_a p2 rg_flags))
       else
        if p1 = (7:Int32) then
         match (fX4_add ((255:Int32) - p2) (0:Int32) rg_a rg_flags) with
         | (rg_a_144, rg_flags_144) =>
          (rg_a_144, rg_flags_144)
        else
         (rg_a, rg_flags)
set_option maxHeartbeats 4000000 in
set_option maxRecDepth 100000 in
theorem mX4_calculate (l : Launch) (dC : Nat → ClassId) (dI : Nat → Nat → Nat) (q_rg : Nat) (sz : Nat) (rg_a rg_x rg_y rg_s rg_flags rg_p : Int32) (p1 p2 : Int32) : Met l yX4_calculate uX4_calculate ({ frames := 2, cells := 0, slots := 0, locals := 49 }) (va_Pc [.ref q_rg, .int p1, .int p2] (fun U => U.heap.size = sz ∧ va_P (dC, dI) vwCl (wwX4 q_rg rg_a rg_x rg_y rg_s rg_flags rg_p) U.heap ∧ va_K (dC, dI) vwCl [] U ∧ va_D (fun _ => True) (wwX4 q_rg rg_a rg_x rg_y rg_s rg_flags rg_p))) (va_Qv (fun (u : Int32 × Int32) => u = fX4_calculate p1 p2 rg_a rg_flags) (fun (u : Int32 × Int32) (t : State) => va_P (dC, dI) vwCl (wwX4 q_rg u.1 rg_x rg_y rg_s u.2 rg_p) t.heap ∧ va_K (dC, dI) vwCl [] t ∧ va_D (va_A (wwX4 q_rg rg_a rg_x rg_y rg_s rg_flags rg_p) sz) (wwX4 q_rg u.1 rg_x rg_y rg_s u.2 rg_p)) (va_A (wwX4 q_rg rg_a rg_x rg_y rg_s rg_flags rg_p) sz)) 0 0 (va_A (wwX4 q_rg rg_a rg_x rg_y rg_s rg_flags rg_p) sz) := by
  refine Met.ofW (cc := cX4_calculate) (maxL := 3) (ret := none) (by decide) rfl ?_
  intro p e s m args below meth c s₁ B hml hv
  obtain ⟨rfl, hsz, hP, hK, hD0⟩ := hv
  have hx := B.exec
  have hb := B.bytes
  have hr := B.returns
  have hts : ∀ w ∈ ub, w.before _ s = true := fun w h => atoms_spec (ws := uX4_calculate) B.pre w (List.mem_cons_of_mem _ h)
  have hown : s.vm.findClass RX4 = some m.cls := findClass_of_methodNamed B.named
  have hlocks := B.notSynchronized
  subst hsz
  have hD := hD0.self (sz := s.heap.size)
  generalize hAe : va_A (wwX4 q_rg rg_a rg_x rg_y rg_s rg_flags rg_p) s.heap.size = A at hD ⊢
  have hA : ∀ q : Nat, s.heap.size ≤ q → A q := fun q h => by rw [← hAe]; exact Or.inr h
  have hS : va_S A s.heap s.heap [] := va_S.rf
  have hl := lv_entry ([.ref q_rg, .int p1, .int p2]) (n := 3) (Nat.le_of_ble_eq_true rfl)
  rw [lg_entry_eq]
  generalize (lg_sl ([.ref q_rg, .int p1, .int p2]) ++ List.replicate (3 - (lg_sl ([.ref q_rg, .int p1, .int p2])).length) Slot.unset).toArray = ls at hl ⊢
  have hl : lv_has ls 3 [(0, .ref q_rg), (1, .int p1), (2, .int p2)] := hl
  have hF := fX4_calculate.eq_1 p1 p2 rg_a rg_flags
  refine lv_iload_n hx hb dX4_calculate_0 rfl (lv_at hl 1 rfl) ?_
  by_cases c_1_0 : p1 = (0:Int32)
  · have hF := hF.trans (if_pos c_1_0)
    refine lv_tableIn (off := 47) (tgt := 48) hx hb dX4_calculate_1 (by rw [c_1_0]; decide) (by rw [c_1_0]; decide) (by rw [c_1_0]; first | rfl | decide) (by decide) ?_
    refine lv_aload_n hx hb dX4_calculate_48 rfl (lv_at hl 0 rfl) ?_
    refine lv_aload_n hx hb dX4_calculate_49 rfl (lv_at hl 0 rfl) ?_
    refine lv_aload_n hx hb dX4_calculate_50 rfl (lv_at hl 0 rfl) ?_
    refine va_get (D := (dC, dI)) (ci := 4) (v := .int rg_a) (C := RX4) (T := TX4) (N := 6) hx hb hts hiX4 hown hK hP 0 rfl rfl 0 (by decide) (hts _ kFX4_16) (fun _ h9 => h9) rfl dX4_calculate_51 ?_
    refine lv_iload_n hx hb dX4_calculate_54 rfl (lv_at hl 2 rfl) ?_
    refine lv_ior hx hb dX4_calculate_55 ?_
    have hPc := hP.sub (ws' := (wwX4 q_rg rg_a rg_x rg_y rg_s rg_flags rg_p)) [0] rfl
    have hDc := hD.sub (ws' := (wwX4 q_rg rg_a rg_x rg_y rg_s rg_flags rg_p)) [0] (by decide) rfl
    have hKc := hK.sub (tys' := []) [] rfl
    have hFc := va_free (wc := (wwX4 q_rg rg_a rg_x rg_y rg_s rg_flags rg_p)) hD hS hA [0] rfl
    refine va_calli (va_runV (As := [.int (rg_a ||| p2)]) (rest := [.ref q_rg]) ⟨hx, hb, hml, hown, hts⟩ (mX4_judged l dC dI q_rg s.heap.size rg_a rg_x rg_y rg_s rg_flags rg_p (rg_a ||| p2)) (cwV 1 hts (ub_V kMX4_28 kYX4_judged kSX4_judged kIX4 kBX4_judged) rfl rfl rfl (by decide +kernel) ⟨Nat.le_of_ble_eq_true rfl, Nat.le_of_ble_eq_true rfl⟩) ⟨fun a U g mk q => by obtain ⟨q0, q1, qP, qK, qD⟩ := q; exact ⟨q0, q1, qP, va_K.moved (u := U) (U := U.calling g mk a) (Vm.Alike.refl U.vm) qK, qD⟩, va_recv hKc hPc (ci := 4) (q0 := 0) rfl rfl, fun U hU hW => ⟨rfl, by rw [hU], by rw [hU]; exact hPc, va_K.moved hW.alike hKc, hDc.weaken (fun _ _ _ _ => trivial)⟩⟩ rfl rfl hl.1 rfl (lv_room (Nat.le_of_ble_eq_true rfl)) dX4_calculate_56 ⟨(Nat.zero_le _), (Nat.zero_le _)⟩) hS (fun q _ h => hFc q h) hFc (fun r_56 u_56 t H locs ht hvm hw hB hz1 hk1 hS => ?_)
    obtain ⟨rg_flags_56, rfl⟩ : ∃ z, z = u_56 := ⟨_, rfl⟩
    obtain ⟨hP1, hK1, hD1⟩ := hB
    rw [ht] at hP1
    obtain ⟨hP, hD⟩ := vb_back (wc := (wwX4 q_rg rg_a rg_x rg_y rg_s rg_flags rg_p)) (ws' := (wwX4 q_rg rg_a rg_x rg_y rg_s rg_flags_56 rg_p)) hP hD hD1 [0] [] rfl rfl ae_n rfl rfl hk1 hP1
    rw [← hw] at hF
    dsimp only at hF
    refine va_put (D := (dC, dI)) (ci := 4) (v := .int r_56) (ty := .int) (C := RX4) (T := TX4) (N := 6) hx hb hts hiX4 tyX4 tyX4_ok nmX4 hown hK hP hD hS 0 rfl rfl 0 (by decide) (hts _ kFX4_16) (fun _ h9 => h9) rfl (by decide +kernel) rfl rfl (Nat.le_of_ble_eq_true rfl) dX4_calculate_59 (fun H locs hP hD hS => ?_)
    have hP : va_P (dC, dI) vwCl (wwX4 q_rg r_56 rg_x rg_y rg_s rg_flags_56 rg_p) H := hP
    have hD : va_D A (wwX4 q_rg r_56 rg_x rg_y rg_s rg_flags_56 rg_p) := hD
    refine lv_goto (tgt := 150) hx hb dX4_calculate_62 (by decide) ?_
    exact W.vret hx hb hr (fun t ht hW => ⟨⟨(r_56, rg_flags_56), rfl, hF.symm, by rw [ht]; exact hP, va_K.moved hW.alike hK, hD⟩, hS.F ht⟩) hS.2.2 dX4_calculate_150
  have hF := hF.trans (if_neg c_1_0)
  by_cases c_1_1 : p1 = (1:Int32)
  · have hF := hF.trans (if_pos c_1_1)
    refine lv_tableIn (off := 64) (tgt := 65) hx hb dX4_calculate_1 (by rw [c_1_1]; decide) (by rw [c_1_1]; decide) (by rw [c_1_1]; first | rfl | decide) (by decide) ?_
    refine lv_aload_n hx hb dX4_calculate_65 rfl (lv_at hl 0 rfl) ?_
    refine lv_aload_n hx hb dX4_calculate_66 rfl (lv_at hl 0 rfl) ?_
    refine lv_aload_n hx hb dX4_calculate_67 rfl (lv_at hl 0 rfl) ?_
    refine va_get (D := (dC, dI)) (ci := 4) (v := .int rg_a) (C := RX4) (T := TX4) (N := 6) hx hb hts hiX4 hown hK hP 0 rfl rfl 0 (by decide) (hts _ kFX4_16) (fun _ h9 => h9) rfl dX4_calculate_68 ?_
    refine lv_iload_n hx hb dX4_calculate_71 rfl (lv_at hl 2 rfl) ?_
    refine lv_iand hx hb dX4_calculate_72 ?_
    have hPc := hP.sub (ws' := (wwX4 q_rg rg_a rg_x rg_y rg_s rg_flags rg_p)) [0] rfl
    have hDc := hD.sub (ws' := (wwX4 q_rg rg_a rg_x rg_y rg_s rg_flags rg_p)) [0] (by decide) rfl
    have hKc := hK.sub (tys' := []) [] rfl
    have hFc := va_free (wc := (wwX4 q_rg rg_a rg_x rg_y rg_s rg_flags rg_p)) hD hS hA [0] rfl
    refine va_calli (va_runV (As := [.int (rg_a &&& p2)]) (rest := [.ref q_rg]) ⟨hx, hb, hml, hown, hts⟩ (mX4_judged l dC dI q_rg s.heap.size rg_a rg_x rg_y rg_s rg_flags rg_p (rg_a &&& p2)) (cwV 1 hts (ub_V kMX4_28 kYX4_judged kSX4_judged kIX4 kBX4_judged) rfl rfl rfl (by decide +kernel) ⟨Nat.le_of_ble_eq_true rfl, Nat.le_of_ble_eq_true rfl⟩) ⟨fun a U g mk q => by obtain ⟨q0, q1, qP, qK, qD⟩ := q; exact ⟨q0, q1, qP, va_K.moved (u := U) (U := U.calling g mk a) (Vm.Alike.refl U.vm) qK, qD⟩, va_recv hKc hPc (ci := 4) (q0 := 0) rfl rfl, fun U hU hW => ⟨rfl, by rw [hU], by rw [hU]; exact hPc, va_K.moved hW.alike hKc, hDc.weaken (fun _ _ _ _ => trivial)⟩⟩ rfl rfl hl.1 rfl (lv_room (Nat.le_of_ble_eq_true rfl)) dX4_calculate_73 ⟨(Nat.zero_le _), (Nat.zero_le _)⟩) hS (fun q _ h => hFc q h) hFc (fun r_73 u_73 t H locs ht hvm hw hB hz1 hk1 hS => ?_)
    obtain ⟨rg_flags_73, rfl⟩ : ∃ z, z = u_73 := ⟨_, rfl⟩
    obtain ⟨hP1, hK1, hD1⟩ := hB
    rw [ht] at hP1
    obtain ⟨hP, hD⟩ := vb_back (wc := (wwX4 q_rg rg_a rg_x rg_y rg_s rg_flags rg_p)) (ws' := (wwX4 q_rg rg_a rg_x rg_y rg_s rg_flags_73 rg_p)) hP hD hD1 [0] [] rfl rfl ae_n rfl rfl hk1 hP1
    rw [← hw] at hF
    dsimp only at hF
    refine va_put (D := (dC, dI)) (ci := 4) (v := .int r_73) (ty := .int) (C := RX4) (T := TX4) (N := 6) hx hb hts hiX4 tyX4 tyX4_ok nmX4 hown hK hP hD hS 0 rfl rfl 0 (by decide) (hts _ kFX4_16) (fun _ h9 => h9) rfl (by decide +kernel) rfl rfl (Nat.le_of_ble_eq_true rfl) dX4_calculate_76 (fun H locs hP hD hS => ?_)
    have hP : va_P (dC, dI) vwCl (wwX4 q_rg r_73 rg_x rg_y rg_s rg_flags_73 rg_p) H := hP
    have hD : va_D A (wwX4 q_rg r_73 rg_x rg_y rg_s rg_flags_73 rg_p) := hD
    refine lv_goto (tgt := 150) hx hb dX4_calculate_79 (by decide) ?_
    exact W.vret hx hb hr (fun t ht hW => ⟨⟨(r_73, rg_flags_73), rfl, hF.symm, by rw [ht]; exact hP, va_K.moved hW.alike hK, hD⟩, hS.F ht⟩) hS.2.2 dX4_calculate_150
  have hF := hF.trans (if_neg c_1_1)
  by_cases c_1_2 : p1 = (2:Int32)
  · have hF := hF.trans (if_pos c_1_2)
    refine lv_tableIn (off := 81) (tgt := 82) hx hb dX4_calculate_1 (by rw [c_1_2]; decide) (by rw [c_1_2]; decide) (by rw [c_1_2]; first | rfl | decide) (by decide) ?_
    refine lv_aload_n hx hb dX4_calculate_82 rfl (lv_at hl 0 rfl) ?_
    refine lv_aload_n hx hb dX4_calculate_83 rfl (lv_at hl 0 rfl) ?_
    refine lv_aload_n hx hb dX4_calculate_84 rfl (lv_at hl 0 rfl) ?_
    refine va_get (D := (dC, dI)) (ci := 4) (v := .int rg_a) (C := RX4) (T := TX4) (N := 6) hx hb hts hiX4 hown hK hP 0 rfl rfl 0 (by decide) (hts _ kFX4_16) (fun _ h9 => h9) rfl dX4_calculate_85 ?_
    refine lv_iload_n hx hb dX4_calculate_88 rfl (lv_at hl 2 rfl) ?_
    refine lv_ixor hx hb dX4_calculate_89 ?_
    have hPc := hP.sub (ws' := (wwX4 q_rg rg_a rg_x rg_y rg_s rg_flags rg_p)) [0] rfl
    have hDc := hD.sub (ws' := (wwX4 q_rg rg_a rg_x rg_y rg_s rg_flags rg_p)) [0] (by decide) rfl
    have hKc := hK.sub (tys' := []) [] rfl
    have hFc := va_free (wc := (wwX4 q_rg rg_a rg_x rg_y rg_s rg_flags rg_p)) hD hS hA [0] rfl
    refine va_calli (va_runV (As := [.int (rg_a ^^^ p2)]) (rest := [.ref q_rg]) ⟨hx, hb, hml, hown, hts⟩ (mX4_judged l dC dI q_rg s.heap.size rg_a rg_x rg_y rg_s rg_flags rg_p (rg_a ^^^ p2)) (cwV 1 hts (ub_V kMX4_28 kYX4_judged kSX4_judged kIX4 kBX4_judged) rfl rfl rfl (by decide +kernel) ⟨Nat.le_of_ble_eq_true rfl, Nat.le_of_ble_eq_true rfl⟩) ⟨fun a U g mk q => by obtain ⟨q0, q1, qP, qK, qD⟩ := q; exact ⟨q0, q1, qP, va_K.moved (u := U) (U := U.calling g mk a) (Vm.Alike.refl U.vm) qK, qD⟩, va_recv hKc hPc (ci := 4) (q0 := 0) rfl rfl, fun U hU hW => ⟨rfl, by rw [hU], by rw [hU]; exact hPc, va_K.moved hW.alike hKc, hDc.weaken (fun _ _ _ _ => trivial)⟩⟩ rfl rfl hl.1 rfl (lv_room (Nat.le_of_ble_eq_true rfl)) dX4_calculate_90 ⟨(Nat.zero_le _), (Nat.zero_le _)⟩) hS (fun q _ h => hFc q h) hFc (fun r_90 u_90 t H locs ht hvm hw hB hz1 hk1 hS => ?_)
    obtain ⟨rg_flags_90, rfl⟩ : ∃ z, z = u_90 := ⟨_, rfl⟩
    obtain ⟨hP1, hK1, hD1⟩ := hB
    rw [ht] at hP1
    obtain ⟨hP, hD⟩ := vb_back (wc := (wwX4 q_rg rg_a rg_x rg_y rg_s rg_flags rg_p)) (ws' := (wwX4 q_rg rg_a rg_x rg_y rg_s rg_flags_90 rg_p)) hP hD hD1 [0] [] rfl rfl ae_n rfl rfl hk1 hP1
    rw [← hw] at hF
    dsimp only at hF
    refine va_put (D := (dC, dI)) (ci := 4) (v := .int r_90) (ty := .int) (C := RX4) (T := TX4) (N := 6) hx hb hts hiX4 tyX4 tyX4_ok nmX4 hown hK hP hD hS 0 rfl rfl 0 (by decide) (hts _ kFX4_16) (fun _ h9 => h9) rfl (by decide +kernel) rfl rfl (Nat.le_of_ble_eq_true rfl) dX4_calculate_93 (fun H locs hP hD hS => ?_)
    have hP : va_P (dC, dI) vwCl (wwX4 q_rg r_90 rg_x rg_y rg_s rg_flags_90 rg_p) H := hP
    have hD : va_D A (wwX4 q_rg r_90 rg_x rg_y rg_s rg_flags_90 rg_p) := hD
    refine lv_goto (tgt := 150) hx hb dX4_calculate_96 (by decide) ?_
    exact W.vret hx hb hr (fun t ht hW => ⟨⟨(r_90, rg_flags_90), rfl, hF.symm, by rw [ht]; exact hP, va_K.moved hW.alike hK, hD⟩, hS.F ht⟩) hS.2.2 dX4_calculate_150
  have hF := hF.trans (if_neg c_1_2)
  by_cases c_1_3 : p1 = (3:Int32)
  · have hF := hF.trans (if_pos c_1_3)
    refine lv_tableIn (off := 98) (tgt := 99) hx hb dX4_calculate_1 (by rw [c_1_3]; decide) (by rw [c_1_3]; decide) (by rw [c_1_3]; first | rfl | decide) (by decide) ?_
    refine lv_aload_n hx hb dX4_calculate_99 rfl (lv_at hl 0 rfl) ?_
    refine lv_iload_n hx hb dX4_calculate_100 rfl (lv_at hl 2 rfl) ?_
    refine lv_aload_n hx hb dX4_calculate_101 rfl (lv_at hl 0 rfl) ?_
    refine lv_bipush (v := 8) hx hb dX4_calculate_102 (by decide) ?_
    have hPc := hP.sub (ws' := (wwX4 q_rg rg_a rg_x rg_y rg_s rg_flags rg_p)) [0] rfl
    have hDc := hD.sub (ws' := (wwX4 q_rg rg_a rg_x rg_y rg_s rg_flags rg_p)) [0] (by decide) rfl
    have hKc := hK.sub (tys' := []) [] rfl
    have hFc := va_free (wc := (wwX4 q_rg rg_a rg_x rg_y rg_s rg_flags rg_p)) hD hS hA [0] rfl
    refine va_calli (va_runV (As := [.int (8:Int32)]) (rest := [.int p2, .ref q_rg]) ⟨hx, hb, hml, hown, hts⟩ (mX4_has l dC dI q_rg s.heap.size rg_a rg_x rg_y rg_s rg_flags rg_p (8:Int32)) (cwV 1 hts (ub_V kMX4_32 kYX4_has kSX4_has kIX4 kBX4_has) rfl rfl rfl (by decide +kernel) ⟨Nat.le_of_ble_eq_true rfl, Nat.le_of_ble_eq_true rfl⟩) ⟨fun a U g mk q => by obtain ⟨q0, q1, qP, qK, qD⟩ := q; exact ⟨q0, q1, qP, va_K.moved (u := U) (U := U.calling g mk a) (Vm.Alike.refl U.vm) qK, qD⟩, va_recv hKc hPc (ci := 4) (q0 := 0) rfl rfl, fun U hU hW => ⟨rfl, by rw [hU], by rw [hU]; exact hPc, va_K.moved hW.alike hKc, hDc.weaken (fun _ _ _ _ => trivial)⟩⟩ rfl rfl hl.1 rfl (lv_room (Nat.le_of_ble_eq_true rfl)) dX4_calculate_104 ⟨(Nat.zero_le _), (Nat.zero_le _)⟩) hS (fun q _ h => hFc q h) hFc (fun r_104 u_104 t H locs ht hvm hw hB hz1 hk1 hS => ?_)
    obtain ⟨hP1, hK1, hD1⟩ := hB
    rw [ht] at hP1
    subst hw
    obtain ⟨hP, hD⟩ := vb_back (wc := (wwX4 q_rg rg_a rg_x rg_y rg_s rg_flags rg_p)) (ws' := (wwX4 q_rg rg_a rg_x rg_y rg_s rg_flags rg_p)) hP hD hD1 [0] [] rfl rfl ae_n rfl rfl hk1 hP1
    have hPc := hP.sub (ws' := (wwX4 q_rg rg_a rg_x rg_y rg_s rg_flags rg_p)) [0] rfl
    have hDc := hD.sub (ws' := (wwX4 q_rg rg_a rg_x rg_y rg_s rg_flags rg_p)) [0] (by decide) rfl
    have hKc := hK.sub (tys' := []) [] rfl
    have hFc := va_free (wc := (wwX4 q_rg rg_a rg_x rg_y rg_s rg_flags rg_p)) hD hS hA [0] rfl
    refine va_callv (va_runV (As := [.int p2, .int (fX4_has (8:Int32) rg_flags)]) (rest := []) ⟨hx, hb, hml, hown, hts⟩ (mX4_add l dC dI q_rg H.size rg_a rg_x rg_y rg_s rg_flags rg_p p2 (fX4_has (8:Int32) rg_flags)) (cwV 2 hts (ub_V kMX4_36 kYX4_add kSX4_add kIX4 kBX4_add) rfl rfl rfl (by decide +kernel) ⟨Nat.le_of_ble_eq_true rfl, Nat.le_of_ble_eq_true rfl⟩) ⟨fun a U g mk q => by obtain ⟨q0, q1, qP, qK, qD⟩ := q; exact ⟨q0, q1, qP, va_K.moved (u := U) (U := U.calling g mk a) (Vm.Alike.refl U.vm) qK, qD⟩, va_recv hKc hPc (ci := 4) (q0 := 0) rfl rfl, fun U hU hW => ⟨rfl, by rw [hU], by rw [hU]; exact hPc, va_K.moved hW.alike hKc, hDc.weaken (fun _ _ _ _ => trivial)⟩⟩ rfl rfl hl.1 rfl (lv_room (Nat.le_of_ble_eq_true rfl)) dX4_calculate_107 ⟨(Nat.zero_le _), (Nat.zero_le _)⟩) hS (fun q _ h => hFc q h) hFc (fun u_107 t H locs ht hvm hw hB hz1 hk1 hS => ?_)
    obtain ⟨rg_a_107, rg_flags_107⟩ := u_107
    obtain ⟨hP1, hK1, hD1⟩ := hB
    rw [ht] at hP1
    obtain ⟨hP, hD⟩ := vb_back (wc := (wwX4 q_rg rg_a rg_x rg_y rg_s rg_flags rg_p)) (ws' := (wwX4 q_rg rg_a_107 rg_x rg_y rg_s rg_flags_107 rg_p)) hP hD hD1 [0] [] rfl rfl ae_n rfl rfl hk1 hP1
    rw [← hw] at hF
    dsimp only at hF
    refine lv_goto (tgt := 150) hx hb dX4_calculate_110 (by decide) ?_
    exact W.vret hx hb hr (fun t ht hW => ⟨⟨(rg_a_107, rg_flags_107), rfl, hF.symm, by rw [ht]; exact hP, va_K.moved hW.alike hK, hD⟩, hS.F ht⟩) hS.2.2 dX4_calculate_150
  have hF := hF.trans (if_neg c_1_3)
  by_cases c_1_5 : p1 = (5:Int32)
  · have hF := hF.trans (if_pos c_1_5)
    refine lv_tableIn (off := 112) (tgt := 113) hx hb dX4_calculate_1 (by rw [c_1_5]; decide) (by rw [c_1_5]; decide) (by rw [c_1_5]; first | rfl | decide) (by decide) ?_
    refine lv_aload_n hx hb dX4_calculate_113 rfl (lv_at hl 0 rfl) ?_
    refine lv_aload_n hx hb dX4_calculate_114 rfl (lv_at hl 0 rfl) ?_
    refine lv_iload_n hx hb dX4_calculate_115 rfl (lv_at hl 2 rfl) ?_
    have hPc := hP.sub (ws' := (wwX4 q_rg rg_a rg_x rg_y rg_s rg_flags rg_p)) [0] rfl
    have hDc := hD.sub (ws' := (wwX4 q_rg rg_a rg_x rg_y rg_s rg_flags rg_p)) [0] (by decide) rfl
    have hKc := hK.sub (tys' := []) [] rfl
    have hFc := va_free (wc := (wwX4 q_rg rg_a rg_x rg_y rg_s rg_flags rg_p)) hD hS hA [0] rfl
    refine va_calli (va_runV (As := [.int p2]) (rest := [.ref q_rg]) ⟨hx, hb, hml, hown, hts⟩ (mX4_judged l dC dI q_rg s.heap.size rg_a rg_x rg_y rg_s rg_flags rg_p p2) (cwV 1 hts (ub_V kMX4_28 kYX4_judged kSX4_judged kIX4 kBX4_judged) rfl rfl rfl (by decide +kernel) ⟨Nat.le_of_ble_eq_true rfl, Nat.le_of_ble_eq_true rfl⟩) ⟨fun a U g mk q => by obtain ⟨q0, q1, qP, qK, qD⟩ := q; exact ⟨q0, q1, qP, va_K.moved (u := U) (U := U.calling g mk a) (Vm.Alike.refl U.vm) qK, qD⟩, va_recv hKc hPc (ci := 4) (q0 := 0) rfl rfl, fun U hU hW => ⟨rfl, by rw [hU], by rw [hU]; exact hPc, va_K.moved hW.alike hKc, hDc.weaken (fun _ _ _ _ => trivial)⟩⟩ rfl rfl hl.1 rfl (lv_room (Nat.le_of_ble_eq_true rfl)) dX4_calculate_116 ⟨(Nat.zero_le _), (Nat.zero_le _)⟩) hS (fun q _ h => hFc q h) hFc (fun r_116 u_116 t H locs ht hvm hw hB hz1 hk1 hS => ?_)
    obtain ⟨rg_flags_116, rfl⟩ : ∃ z, z = u_116 := ⟨_, rfl⟩
    obtain ⟨hP1, hK1, hD1⟩ := hB
    rw [ht] at hP1
    obtain ⟨hP, hD⟩ := vb_back (wc := (wwX4 q_rg rg_a rg_x rg_y rg_s rg_flags rg_p)) (ws' := (wwX4 q_rg rg_a rg_x rg_y rg_s rg_flags_116 rg_p)) hP hD hD1 [0] [] rfl rfl ae_n rfl rfl hk1 hP1
    rw [← hw] at hF
    dsimp only at hF
    refine va_put (D := (dC, dI)) (ci := 4) (v := .int r_116) (ty := .int) (C := RX4) (T := TX4) (N := 6) hx hb hts hiX4 tyX4 tyX4_ok nmX4 hown hK hP hD hS 0 rfl rfl 0 (by decide) (hts _ kFX4_16) (fun _ h9 => h9) rfl (by decide +kernel) rfl rfl (Nat.le_of_ble_eq_true rfl) dX4_calculate_119 (fun H locs hP hD hS => ?_)
    have hP : va_P (dC, dI) vwCl (wwX4 q_rg r_116 rg_x rg_y rg_s rg_flags_116 rg_p) H := hP
    have hD : va_D A (wwX4 q_rg r_116 rg_x rg_y rg_s rg_flags_116 rg_p) := hD
    refine lv_goto (tgt := 150) hx hb dX4_calculate_122 (by decide) ?_
    exact W.vret hx hb hr (fun t ht hW => ⟨⟨(r_116, rg_flags_116), rfl, hF.symm, by rw [ht]; exact hP, va_K.moved hW.alike hK, hD⟩, hS.F ht⟩) hS.2.2 dX4_calculate_150
  have hF := hF.trans (if_neg c_1_5)
  by_cases c_1_6 : p1 = (6:Int32)
  · have hF := hF.trans (if_pos c_1_6)
    refine lv_tableIn (off := 124) (tgt := 125) hx hb dX4_calculate_1 (by rw [c_1_6]; decide) (by rw [c_1_6]; decide) (by rw [c_1_6]; first | rfl | decide) (by decide) ?_
    refine lv_aload_n hx hb dX4_calculate_125 rfl (lv_at hl 0 rfl) ?_
    refine lv_aload_n hx hb dX4_calculate_126 rfl (lv_at hl 0 rfl) ?_
    refine va_get (D := (dC, dI)) (ci := 4) (v := .int rg_a) (C := RX4) (T := TX4) (N := 6) hx hb hts hiX4 hown hK hP 0 rfl rfl 0 (by decide) (hts _ kFX4_16) (fun _ h9 => h9) rfl dX4_calculate_127 ?_
    refine lv_iload_n hx hb dX4_calculate_130 rfl (lv_at hl 2 rfl) ?_
    have hPc := hP.sub (ws' := (wwX4 q_rg rg_a rg_x rg_y rg_s rg_flags rg_p)) [0] rfl
    have hDc := hD.sub (ws' := (wwX4 q_rg rg_a rg_x rg_y rg_s rg_flags rg_p)) [0] (by decide) rfl
    have hKc := hK.sub (tys' := []) [] rfl
    have hFc := va_free (wc := (wwX4 q_rg rg_a rg_x rg_y rg_s rg_flags rg_p)) hD hS hA [0] rfl
    refine va_callv (va_runV (As := [.int rg_a, .int p2]) (rest := []) ⟨hx, hb, hml, hown, hts⟩ (mX4_compare l dC dI q_rg s.heap.size rg_a rg_x rg_y rg_s rg_flags rg_p rg_a p2) (cwV 2 hts (ub_V kMX4_40 kYX4_compare kSX4_compare kIX4 kBX4_compare) rfl rfl rfl (by decide +kernel) ⟨Nat.le_of_ble_eq_true rfl, Nat.le_of_ble_eq_true rfl⟩) ⟨fun a U g mk q => by obtain ⟨q0, q1, qP, qK, qD⟩ := q; exact ⟨q0, q1, qP, va_K.moved (u := U) (U := U.calling g mk a) (Vm.Alike.refl U.vm) qK, qD⟩, va_recv hKc hPc (ci := 4) (q0 := 0) rfl rfl, fun U hU hW => ⟨rfl, by rw [hU], by rw [hU]; exact hPc, va_K.moved hW.alike hKc, hDc.weaken (fun _ _ _ _ => trivial)⟩⟩ rfl rfl hl.1 rfl (lv_room (Nat.le_of_ble_eq_true rfl)) dX4_calculate_131 ⟨(Nat.zero_le _), (Nat.zero_le _)⟩) hS (fun q _ h => hFc q h) hFc (fun u_131 t H locs ht hvm hw hB hz1 hk1 hS => ?_)
    obtain ⟨hP1, hK1, hD1⟩ := hB
    rw [ht] at hP1
    subst hw
    obtain ⟨hP, hD⟩ := vb_back (wc := (wwX4 q_rg rg_a rg_x rg_y rg_s rg_flags rg_p)) (ws' := (wwX4 q_rg rg_a rg_x rg_y rg_s (fX4_compare rg_a p2 rg_flags) rg_p)) hP hD hD1 [0] [] rfl rfl ae_n rfl rfl hk1 hP1
    refine lv_goto (tgt := 150) hx hb dX4_calculate_134 (by decide) ?_
    exact W.vret hx hb hr (fun t ht hW => ⟨⟨(rg_a, (fX4_compare rg_a p2 rg_flags)), rfl, hF.symm, by rw [ht]; exact hP, va_K.moved hW.alike hK, hD⟩, hS.F ht⟩) hS.2.2 dX4_calculate_150
  have hF := hF.trans (if_neg c_1_6)
  by_cases c_1_7 : p1 = (7:Int32)
  · have hF := hF.trans (if_pos c_1_7)
    refine lv_tableIn (off := 136) (tgt := 137) hx hb dX4_calculate_1 (by rw [c_1_7]; decide) (by rw [c_1_7]; decide) (by rw [c_1_7]; first | rfl | decide) (by decide) ?_
    refine lv_aload_n hx hb dX4_calculate_137 rfl (lv_at hl 0 rfl) ?_
    refine lv_sipush (v := 255) hx hb dX4_calculate_138 (by decide) ?_
    refine lv_iload_n hx hb dX4_calculate_141 rfl (lv_at hl 2 rfl) ?_
    refine lv_isub hx hb dX4_calculate_142 ?_
    refine lv_iconst (v := 0) hx hb dX4_calculate_143 (by decide) ?_
    have hPc := hP.sub (ws' := (wwX4 q_rg rg_a rg_x rg_y rg_s rg_flags rg_p)) [0] rfl
    have hDc := hD.sub (ws' := (wwX4 q_rg rg_a rg_x rg_y rg_s rg_flags rg_p)) [0] (by decide) rfl
    have hKc := hK.sub (tys' := []) [] rfl
    have hFc := va_free (wc := (wwX4 q_rg rg_a rg_x rg_y rg_s rg_flags rg_p)) hD hS hA [0] rfl
    refine va_callv (va_runV (As := [.int ((255:Int32) - p2), .int (0:Int32)]) (rest := []) ⟨hx, hb, hml, hown, hts⟩ (mX4_add l dC dI q_rg s.heap.size rg_a rg_x rg_y rg_s rg_flags rg_p ((255:Int32) - p2) (0:Int32)) (cwV 2 hts (ub_V kMX4_36 kYX4_add kSX4_add kIX4 kBX4_add) rfl rfl rfl (by decide +kernel) ⟨Nat.le_of_ble_eq_true rfl, Nat.le_of_ble_eq_true rfl⟩) ⟨fun a U g mk q => by obtain ⟨q0, q1, qP, qK, qD⟩ := q; exact ⟨q0, q1, qP, va_K.moved (u := U) (U := U.calling g mk a) (Vm.Alike.refl U.vm) qK, qD⟩, va_recv hKc hPc (ci := 4) (q0 := 0) rfl rfl, fun U hU hW => ⟨rfl, by rw [hU], by rw [hU]; exact hPc, va_K.moved hW.alike hKc, hDc.weaken (fun _ _ _ _ => trivial)⟩⟩ rfl rfl hl.1 rfl (lv_room (Nat.le_of_ble_eq_true rfl)) dX4_calculate_144 ⟨(Nat.zero_le _), (Nat.zero_le _)⟩) hS (fun q _ h => hFc q h) hFc (fun u_144 t H locs ht hvm hw hB hz1 hk1 hS => ?_)
    obtain ⟨rg_a_144, rg_flags_144⟩ := u_144
    obtain ⟨hP1, hK1, hD1⟩ := hB
    rw [ht] at hP1
    obtain ⟨hP, hD⟩ := vb_back (wc := (wwX4 q_rg rg_a rg_x rg_y rg_s rg_flags rg_p)) (ws' := (wwX4 q_rg rg_a_144 rg_x rg_y rg_s rg_flags_144 rg_p)) hP hD hD1 [0] [] rfl rfl ae_n rfl rfl hk1 hP1
    rw [← hw] at hF
    dsimp only at hF
    refine lv_goto (tgt := 150) hx hb dX4_calculate_147 (by decide) ?_
    exact W.vret hx hb hr (fun t ht hW => ⟨⟨(rg_a_144, rg_flags_144), rfl, hF.symm, by rw [ht]; exact hP, va_K.moved hW.alike hK, hD⟩, hS.F ht⟩) hS.2.2 dX4_calculate_150
  have hF := hF.trans (if_neg c_1_7)
  refine vt_dflt (tgt := 150) hx hb dX4_calculate_1 (fun x_ h1 h2 h3 => by have n0 := lv_neT (a := 0) c_1_0 rfl; have n1 := lv_neT (a := 1) c_1_1 rfl; have n2 := lv_neT (a := 2) c_1_2 rfl; have n3 := lv_neT (a := 3) c_1_3 rfl; have n5 := lv_neT (a := 5) c_1_5 rfl; have n6 := lv_neT (a := 6) c_1_6 rfl; have n7 := lv_neT (a := 7) c_1_7 rfl; have h4 : x_ = 4 := (by omega); rcases h4 with rfl <;> rfl) (by decide) ?_
  exact W.vret hx hb hr (fun t ht hW => ⟨⟨(rg_a, rg_flags), rfl, hF.symm, by rw [ht]; exact hP, va_K.moved hW.alike hK, hD⟩, hS.F ht⟩) hS.2.2 dX4_calculate_150
