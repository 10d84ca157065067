def fX3_endInstruction : Int32 × Int32 :=
  ((0:Int32), (0:Int32))
set_option maxHeartbeats 4000000 in
set_option maxRecDepth 100000 in
theorem mX3_endInstruction (l : Launch) (dC : Nat → ClassId) (dI : Nat → Nat → Nat) (q_pr q_rg q_bu q_ra q_rA q_rc q_rk q_pi q_po q_co q_wc q_wo q_ic q_ky q_ta q_tb : Nat) (k_ra k_rA k_rc k_rk k_po k_co k_wc k_wo k_ky : ClassId) (sz : Nat) (pr_stuck pr_waits pr_interruptsBegun pr_kind pr_step pr_code pr_low pr_high pr_changed pr_missing rg_a rg_x rg_y rg_s rg_flags rg_p bu_port bu_latest pi_line pi_cycle pi_control pi_compareLine pi_ground pi_border pi_base pi_flag pi_enabled pi_idle pi_bad pi_glyphLine pi_rowToFetch ic_rows ic_keysSeen ic_flags ic_enabled ta_controlBits ta_control ta_count ta_latch tb_controlBits tb_control tb_count tb_latch : Int32) (f_ra f_rA f_rc f_rk f_po f_co f_wc f_wo f_ky : Nat → Int32) : Met l yX3_endInstruction uX3_endInstruction ({ frames := 0, cells := 0, slots := 0, locals := 0 }) (va_Pc [.ref q_pr] (fun U => U.heap.size = sz ∧ va_P (dC, dI) vwCl (wwX3 q_pr q_rg q_bu q_ra q_rA q_rc q_rk q_pi q_po q_co q_wc q_wo q_ic q_ky q_ta q_tb k_ra k_rA k_rc k_rk k_po k_co k_wc k_wo k_ky pr_stuck pr_waits pr_interruptsBegun pr_kind pr_step pr_code pr_low pr_high pr_changed pr_missing rg_a rg_x rg_y rg_s rg_flags rg_p bu_port bu_latest pi_line pi_cycle pi_control pi_compareLine pi_ground pi_border pi_base pi_flag pi_enabled pi_idle pi_bad pi_glyphLine pi_rowToFetch ic_rows ic_keysSeen ic_flags ic_enabled ta_controlBits ta_control ta_count ta_latch tb_controlBits tb_control tb_count tb_latch f_ra f_rA f_rc f_rk f_po f_co f_wc f_wo f_ky) U.heap ∧ va_K (dC, dI) vwCl [(k_ra, .int), (k_rA, .int), (k_rc, .int), (k_rk, .int), (k_po, .int), (k_co, .int), (k_wc, .int), (k_wo, .int), (k_ky, .int)] U ∧ va_D (fun _ => True) (wwX3 q_pr q_rg q_bu q_ra q_rA q_rc q_rk q_pi q_po q_co q_wc q_wo q_ic q_ky q_ta q_tb k_ra k_rA k_rc k_rk k_po k_co k_wc k_wo k_ky pr_stuck pr_waits pr_interruptsBegun pr_kind pr_step pr_code pr_low pr_high pr_changed pr_missing rg_a rg_x rg_y rg_s rg_flags rg_p bu_port bu_latest pi_line pi_cycle pi_control pi_compareLine pi_ground pi_border pi_base pi_flag pi_enabled pi_idle pi_bad pi_glyphLine pi_rowToFetch ic_rows ic_keysSeen ic_flags ic_enabled ta_controlBits ta_control ta_count ta_latch tb_controlBits tb_control tb_count tb_latch f_ra f_rA f_rc f_rk f_po f_co f_wc f_wo f_ky))) (va_Qv (fun (u : Int32 × Int32) => u = fX3_endInstruction) (fun (u : Int32 × Int32) (t : State) => va_P (dC, dI) vwCl (wwX3 q_pr q_rg q_bu q_ra q_rA q_rc q_rk q_pi q_po q_co q_wc q_wo q_ic q_ky q_ta q_tb k_ra k_rA k_rc k_rk k_po k_co k_wc k_wo k_ky pr_stuck pr_waits pr_interruptsBegun u.1 u.2 pr_code pr_low pr_high pr_changed pr_missing rg_a rg_x rg_y rg_s rg_flags rg_p bu_port bu_latest pi_line pi_cycle pi_control pi_compareLine pi_ground pi_border pi_base pi_flag pi_enabled pi_idle pi_bad pi_glyphLine pi_rowToFetch ic_rows ic_keysSeen ic_flags ic_enabled ta_controlBits ta_control ta_count ta_latch tb_controlBits tb_control tb_count tb_latch f_ra f_rA f_rc f_rk f_po f_co f_wc f_wo f_ky) t.heap ∧ va_K (dC, dI) vwCl [(k_ra, .int), (k_rA, .int), (k_rc, .int), (k_rk, .int), (k_po, .int), (k_co, .int), (k_wc, .int), (k_wo, .int), (k_ky, .int)] t ∧ va_D (va_A (wwX3 q_pr q_rg q_bu q_ra q_rA q_rc q_rk q_pi q_po q_co q_wc q_wo q_ic q_ky q_ta q_tb k_ra k_rA k_rc k_rk k_po k_co k_wc k_wo k_ky pr_stuck pr_waits pr_interruptsBegun pr_kind pr_step pr_code pr_low pr_high pr_changed pr_missing rg_a rg_x rg_y rg_s rg_flags rg_p bu_port bu_latest pi_line pi_cycle pi_control pi_compareLine pi_ground pi_border pi_base pi_flag pi_enabled pi_idle pi_bad pi_glyphLine pi_rowToFetch ic_rows ic_keysSeen ic_flags ic_enabled ta_controlBits ta_control ta_count ta_latch tb_controlBits tb_control tb_count tb_latch f_ra f_rA f_rc f_rk f_po f_co f_wc f_wo f_ky) sz) (wwX3 q_pr q_rg q_bu q_ra q_rA q_rc q_rk q_pi q_po q_co q_wc q_wo q_ic q_ky q_ta q_tb k_ra k_rA k_rc k_rk k_po k_co k_wc k_wo k_ky pr_stuck pr_waits pr_interruptsBegun u.1 u.2 pr_code pr_low pr_high pr_changed pr_missing rg_a rg_x rg_y rg_s rg_flags rg_p bu_port bu_latest pi_line pi_cycle pi_control pi_compareLine pi_ground pi_border pi_base pi_flag pi_enabled pi_idle pi_bad pi_glyphLine pi_rowToFetch ic_rows ic_keysSeen ic_flags ic_enabled ta_controlBits ta_control ta_count ta_latch tb_controlBits tb_control tb_count tb_latch f_ra f_rA f_rc f_rk f_po f_co f_wc f_wo f_ky)) (va_A (wwX3 q_pr q_rg q_bu q_ra q_rA q_rc q_rk q_pi q_po q_co q_wc q_wo q_ic q_ky q_ta q_tb k_ra k_rA k_rc k_rk k_po k_co k_wc k_wo k_ky pr_stuck pr_waits pr_interruptsBegun pr_kind pr_step pr_code pr_low pr_high pr_changed pr_missing rg_a rg_x rg_y rg_s rg_flags rg_p bu_port bu_latest pi_line pi_cycle pi_control pi_compareLine pi_ground pi_border pi_base pi_flag pi_enabled pi_idle pi_bad pi_glyphLine pi_rowToFetch ic_rows ic_keysSeen ic_flags ic_enabled ta_controlBits ta_control ta_count ta_latch tb_controlBits tb_control tb_count tb_latch f_ra f_rA f_rc f_rk f_po f_co f_wc f_wo f_ky) sz)) 0 0 (va_A (wwX3 q_pr q_rg q_bu q_ra q_rA q_rc q_rk q_pi q_po q_co q_wc q_wo q_ic q_ky q_ta q_tb k_ra k_rA k_rc k_rk k_po k_co k_wc k_wo k_ky pr_stuck pr_waits pr_interruptsBegun pr_kind pr_step pr_code pr_low pr_high pr_changed pr_missing rg_a rg_x rg_y rg_s rg_flags rg_p bu_port bu_latest pi_line pi_cycle pi_control pi_compareLine pi_ground pi_border pi_base pi_flag pi_enabled pi_idle pi_bad pi_glyphLine pi_rowToFetch ic_rows ic_keysSeen ic_flags ic_enabled ta_controlBits ta_control ta_count ta_latch tb_controlBits tb_control tb_count tb_latch f_ra f_rA f_rc f_rk f_po f_co f_wc f_wo f_ky) sz) := by
  refine Met.ofW (cc := cX3_endInstruction) (maxL := 1) (ret := none) (by decide) rfl ?_
  intro p e s m args below meth c s₁ B hml hv
  obtain ⟨rfl, hsz, hP, hK, hD0⟩ := hv
  have hx := B.exec
  have hb := B.bytes
  have hr := B.returns
  have hts : ∀ w ∈ ub, w.before _ s = true := fun w h => atoms_spec (ws := uX3_endInstruction) B.pre w (List.mem_cons_of_mem _ h)
  have hown : s.vm.findClass RX3 = some m.cls := findClass_of_methodNamed B.named
  have hlocks := B.notSynchronized
  subst hsz
  have hD := hD0.self (sz := s.heap.size)
  generalize hAe : va_A (wwX3 q_pr q_rg q_bu q_ra q_rA q_rc q_rk q_pi q_po q_co q_wc q_wo q_ic q_ky q_ta q_tb k_ra k_rA k_rc k_rk k_po k_co k_wc k_wo k_ky pr_stuck pr_waits pr_interruptsBegun pr_kind pr_step pr_code pr_low pr_high pr_changed pr_missing rg_a rg_x rg_y rg_s rg_flags rg_p bu_port bu_latest pi_line pi_cycle pi_control pi_compareLine pi_ground pi_border pi_base pi_flag pi_enabled pi_idle pi_bad pi_glyphLine pi_rowToFetch ic_rows ic_keysSeen ic_flags ic_enabled ta_controlBits ta_control ta_count ta_latch tb_controlBits tb_control tb_count tb_latch f_ra f_rA f_rc f_rk f_po f_co f_wc f_wo f_ky) s.heap.size = A at hD ⊢
  have hA : ∀ q : Nat, s.heap.size ≤ q → A q := fun q h => by rw [← hAe]; exact Or.inr h
  have hS : va_S A s.heap s.heap [] := va_S.rf
  have hl := lv_entry ([.ref q_pr]) (n := 1) (Nat.le_of_ble_eq_true rfl)
  rw [lg_entry_eq]
  generalize (lg_sl ([.ref q_pr]) ++ List.replicate (1 - (lg_sl ([.ref q_pr])).length) Slot.unset).toArray = ls at hl ⊢
  have hl : lv_has ls 1 [(0, .ref q_pr)] := hl
  have hF := fX3_endInstruction.eq_1
  refine lv_aload_n hx hb dX3_endInstruction_0 rfl (lv_at hl 0 rfl) ?_
  refine lv_iconst (v := 0) hx hb dX3_endInstruction_1 (by decide) ?_
  refine va_put (D := (dC, dI)) (ci := 3) (v := .int (0:Int32)) (ty := .int) (C := RX3) (T := TX3) (N := 14) hx hb hts hiX3 tyX3 tyX3_ok nmX3 hown hK hP hD hS 0 rfl rfl 7 (by decide) (hts _ kFX3_22) (fun _ h9 => h9) rfl (by decide +kernel) rfl rfl (Nat.le_of_ble_eq_true rfl) dX3_endInstruction_2 (fun H locs hP hD hS => ?_)
  have hP : va_P (dC, dI) vwCl (wwX3 q_pr q_rg q_bu q_ra q_rA q_rc q_rk q_pi q_po q_co q_wc q_wo q_ic q_ky q_ta q_tb k_ra k_rA k_rc k_rk k_po k_co k_wc k_wo k_ky pr_stuck pr_waits pr_interruptsBegun (0:Int32) pr_step pr_code pr_low pr_high pr_changed pr_missing rg_a rg_x rg_y rg_s rg_flags rg_p bu_port bu_latest pi_line pi_cycle pi_control pi_compareLine pi_ground pi_border pi_base pi_flag pi_enabled pi_idle pi_bad pi_glyphLine pi_rowToFetch ic_rows ic_keysSeen ic_flags ic_enabled ta_controlBits ta_control ta_count ta_latch tb_controlBits tb_control tb_count tb_latch f_ra f_rA f_rc f_rk f_po f_co f_wc f_wo f_ky) H := hP
  have hD : va_D A (wwX3 q_pr q_rg q_bu q_ra q_rA q_rc q_rk q_pi q_po q_co q_wc q_wo q_ic q_ky q_ta q_tb k_ra k_rA k_rc k_rk k_po k_co k_wc k_wo k_ky pr_stuck pr_waits pr_interruptsBegun (0:Int32) pr_step pr_code pr_low pr_high pr_changed pr_missing rg_a rg_x rg_y rg_s rg_flags rg_p bu_port bu_latest pi_line pi_cycle pi_control pi_compareLine pi_ground pi_border pi_base pi_flag pi_enabled pi_idle pi_bad pi_glyphLine pi_rowToFetch ic_rows ic_keysSeen ic_flags ic_enabled ta_controlBits ta_control ta_count ta_latch tb_controlBits tb_control tb_count tb_latch f_ra f_rA f_rc f_rk f_po f_co f_wc f_wo f_ky) := hD
  refine lv_aload_n hx hb dX3_endInstruction_5 rfl (lv_at hl 0 rfl) ?_
  refine lv_iconst (v := 0) hx hb dX3_endInstruction_6 (by decide) ?_
  refine va_put (D := (dC, dI)) (ci := 3) (v := .int (0:Int32)) (ty := .int) (C := RX3) (T := TX3) (N := 14) hx hb hts hiX3 tyX3 tyX3_ok nmX3 hown hK hP hD hS 0 rfl rfl 8 (by decide) (hts _ kFX3_68) (fun _ h9 => h9) rfl (by decide +kernel) rfl rfl (Nat.le_of_ble_eq_true rfl) dX3_endInstruction_7 (fun H locs hP hD hS => ?_)
  have hP : va_P (dC, dI) vwCl (wwX3 q_pr q_rg q_bu q_ra q_rA q_rc q_rk q_pi q_po q_co q_wc q_wo q_ic q_ky q_ta q_tb k_ra k_rA k_rc k_rk k_po k_co k_wc k_wo k_ky pr_stuck pr_waits pr_interruptsBegun (0:Int32) (0:Int32) pr_code pr_low pr_high pr_changed pr_missing rg_a rg_x rg_y rg_s rg_flags rg_p bu_port bu_latest pi_line pi_cycle pi_control pi_compareLine pi_ground pi_border pi_base pi_flag pi_enabled pi_idle pi_bad pi_glyphLine pi_rowToFetch ic_rows ic_keysSeen ic_flags ic_enabled ta_controlBits ta_control ta_count ta_latch tb_controlBits tb_control tb_count tb_latch f_ra f_rA f_rc f_rk f_po f_co f_wc f_wo f_ky) H := hP
  have hD : va_D A (wwX3 q_pr q_rg q_bu q_ra q_rA q_rc q_rk q_pi q_po q_co q_wc q_wo q_ic q_ky q_ta q_tb k_ra k_rA k_rc k_rk k_po k_co k_wc k_wo k_ky pr_stuck pr_waits pr_interruptsBegun (0:Int32) (0:Int32) pr_code pr_low pr_high pr_changed pr_missing rg_a rg_x rg_y rg_s rg_flags rg_p bu_port bu_latest pi_line pi_cycle pi_control pi_compareLine pi_ground pi_border pi_base pi_flag pi_enabled pi_idle pi_bad pi_glyphLine pi_rowToFetch ic_rows ic_keysSeen ic_flags ic_enabled ta_controlBits ta_control ta_count ta_latch tb_controlBits tb_control tb_count tb_latch f_ra f_rA f_rc f_rk f_po f_co f_wc f_wo f_ky) := hD
  exact W.vret hx hb hr (fun t ht hW => ⟨⟨((0:Int32), (0:Int32)), rfl, hF.symm, by rw [ht]; exact hP, va_K.moved hW.alike hK, hD⟩, hS.F ht⟩) hS.2.2 dX3_endInstruction_10
def fX3_restart (bu_port : Int32) (pi_line : Int32) (pi_control : Int32) (pi_ground : Int32) (pi_border : Int32) (pi_base : Int32) (pi_flag : Int32) (pi_enabled : Int32) (ic_rows : Int32) (ic_keysSeen : Int32) (ic_flags : Int32) (ic_enabled : Int32) (ta_control : Int32) (ta_count : Int32) (tb_control : Int32) (tb_count : Int32) (f_ra : Nat → Int32) (f_rA : Nat → Int32) (f_rc : Nat → Int32) (f_rk : Nat → Int32) (f_co : Nat → Int32) : Int32 × Int32 × Int32 × Int32 × Int32 × Int32 × Int32 × Int32 × Int32 × Int32 × Int32 × Int32 :=
  match (fX4_reset (fX3_word (fX0_peek (8188:Int32) bu_port pi_line pi_control pi_ground pi_border pi_base pi_flag pi_enabled ic_rows ic_keysSeen ic_flags ic_enabled ta_control ta_count tb_control tb_count f_ra f_rA f_rc f_rk f_co) (fX0_peek (8189:Int32) bu_port pi_line pi_control pi_ground pi_border pi_base pi_flag pi_enabled ic_rows ic_keysSeen ic_flags ic_enabled ta_control ta_count tb_control tb_count f_ra f_rA f_rc f_rk f_co))) with
  | (rg_a_27, rg_x_27, rg_y_27, rg_s_27, rg_flags_27, rg_p_27) =>
   match fX3_endInstruction with
   | (pr_kind_54, pr_step_54) =>
    ((0:Int32), (0:Int32), (0:Int32), pr_kind_54, pr_step_54, rg_a_27, rg_x_27, rg_y_27, rg_s_27, rg_flags_27, rg_p_27, (-1:Int32))
set_option maxHeartbeats 4000000 in
set_option maxRecDepth 100000 in
theorem mX3_restart (l : Launch) (dC : Nat → ClassId) (dI : Nat → Nat → Nat) (q_pr q_rg q_bu q_ra q_rA q_rc q_rk q_pi q_po q_co q_wc q_wo q_ic q_ky q_ta q_tb : Nat) (k_ra k_rA k_rc k_rk k_po k_co k_wc k_wo k_ky : ClassId) (sz : Nat) (pr_stuck pr_waits pr_interruptsBegun pr_kind pr_step pr_code pr_low pr_high pr_changed pr_missing rg_a rg_x rg_y rg_s rg_flags rg_p bu_port bu_latest pi_line pi_cycle pi_control pi_compareLine pi_ground pi_border pi_base pi_flag pi_enabled pi_idle pi_bad pi_glyphLine pi_rowToFetch ic_rows ic_keysSeen ic_flags ic_enabled ta_controlBits ta_control ta_count ta_latch tb_controlBits tb_control tb_count tb_latch : Int32) (f_ra f_rA f_rc f_rk f_po f_co f_wc f_wo f_ky : Nat → Int32) : Met l yX3_restart uX3_restart ({ frames := 2, cells := 0, slots := 0, locals := 46 }) (va_Pc [.ref q_pr] (fun U => U.heap.size = sz ∧ va_P (dC, dI) vwCl (wwX3 q_pr q_rg q_bu q_ra q_rA q_rc q_rk q_pi q_po q_co q_wc q_wo q_ic q_ky q_ta q_tb k_ra k_rA k_rc k_rk k_po k_co k_wc k_wo k_ky pr_stuck pr_waits pr_interruptsBegun pr_kind pr_step pr_code pr_low pr_high pr_changed pr_missing rg_a rg_x rg_y rg_s rg_flags rg_p bu_port bu_latest pi_line pi_cycle pi_control pi_compareLine pi_ground pi_border pi_base pi_flag pi_enabled pi_idle pi_bad pi_glyphLine pi_rowToFetch ic_rows ic_keysSeen ic_flags ic_enabled ta_controlBits ta_control ta_count ta_latch tb_controlBits tb_control tb_count tb_latch f_ra f_rA f_rc f_rk f_po f_co f_wc f_wo f_ky) U.heap ∧ va_K (dC, dI) vwCl [(k_ra, .int), (k_rA, .int), (k_rc, .int), (k_rk, .int), (k_po, .int), (k_co, .int), (k_wc, .int), (k_wo, .int), (k_ky, .int)] U ∧ va_D (fun _ => True) (wwX3 q_pr q_rg q_bu q_ra q_rA q_rc q_rk q_pi q_po q_co q_wc q_wo q_ic q_ky q_ta q_tb k_ra k_rA k_rc k_rk k_po k_co k_wc k_wo k_ky pr_stuck pr_waits pr_interruptsBegun pr_kind pr_step pr_code pr_low pr_high pr_changed pr_missing rg_a rg_x rg_y rg_s rg_flags rg_p bu_port bu_latest pi_line pi_cycle pi_control pi_compareLine pi_ground pi_border pi_base pi_flag pi_enabled pi_idle pi_bad pi_glyphLine pi_rowToFetch ic_rows ic_keysSeen ic_flags ic_enabled ta_controlBits ta_control ta_count ta_latch tb_controlBits tb_control tb_count tb_latch f_ra f_rA f_rc f_rk f_po f_co f_wc f_wo f_ky))) (va_Qv (fun (u : Int32 × Int32 × Int32 × Int32 × Int32 × Int32 × Int32 × Int32 × Int32 × Int32 × Int32 × Int32) => u = fX3_restart bu_port pi_line pi_control pi_ground pi_border pi_base pi_flag pi_enabled ic_rows ic_keysSeen ic_flags ic_enabled ta_control ta_count tb_control tb_count f_ra f_rA f_rc f_rk f_co) (fun (u : Int32 × Int32 × Int32 × Int32 × Int32 × Int32 × Int32 × Int32 × Int32 × Int32 × Int32 × Int32) (t : State) => va_P (dC, dI) vwCl (wwX3 q_pr q_rg q_bu q_ra q_rA q_rc q_rk q_pi q_po q_co q_wc q_wo q_ic q_ky q_ta q_tb k_ra k_rA k_rc k_rk k_po k_co k_wc k_wo k_ky u.1 u.2.1 u.2.2.1 u.2.2.2.1 u.2.2.2.2.1 pr_code pr_low pr_high pr_changed pr_missing u.2.2.2.2.2.1 u.2.2.2.2.2.2.1 u.2.2.2.2.2.2.2.1 u.2.2.2.2.2.2.2.2.1 u.2.2.2.2.2.2.2.2.2.1 u.2.2.2.2.2.2.2.2.2.2.1 bu_port u.2.2.2.2.2.2.2.2.2.2.2 pi_line pi_cycle pi_control pi_compareLine pi_ground pi_border pi_base pi_flag pi_enabled pi_idle pi_bad pi_glyphLine pi_rowToFetch ic_rows ic_keysSeen ic_flags ic_enabled ta_controlBits ta_control ta_count ta_latch tb_controlBits tb_control tb_count tb_latch f_ra f_rA f_rc f_rk f_po f_co f_wc f_wo f_ky) t.heap ∧ va_K (dC, dI) vwCl [(k_ra, .int), (k_rA, .int), (k_rc, .int), (k_rk, .int), (k_po, .int), (k_co, .int), (k_wc, .int), (k_wo, .int), (k_ky, .int)] t ∧ va_D (va_A (wwX3 q_pr q_rg q_bu q_ra q_rA q_rc q_rk q_pi q_po q_co q_wc q_wo q_ic q_ky q_ta q_tb k_ra k_rA k_rc k_rk k_po k_co k_wc k_wo k_ky pr_stuck pr_waits pr_interruptsBegun pr_kind pr_step pr_code pr_low pr_high pr_changed pr_missing rg_a rg_x rg_y rg_s rg_flags rg_p bu_port bu_latest pi_line pi_cycle pi_control pi_compareLine pi_ground pi_border pi_base pi_flag pi_enabled pi_idle pi_bad pi_glyphLine pi_rowToFetch ic_rows ic_keysSeen ic_flags ic_enabled ta_controlBits ta_control ta_count ta_latch tb_controlBits tb_control tb_count tb_latch f_ra f_rA f_rc f_rk f_po f_co f_wc f_wo f_ky) sz) (wwX3 q_pr q_rg q_bu q_ra q_rA q_rc q_rk q_pi q_po q_co q_wc q_wo q_ic q_ky q_ta q_tb k_ra k_rA k_rc k_rk k_po k_co k_wc k_wo k_ky u.1 u.2.1 u.2.2.1 u.2.2.2.1 u.2.2.2.2.1 pr_code pr_low pr_high pr_changed pr_missing u.2.2.2.2.2.1 u.2.2.2.2.2.2.1 u.2.2.2.2.2.2.2.1 u.2.2.2.2.2.2.2.2.1 u.2.2.2.2.2.2.2.2.2.1 u.2.2.2.2.2.2.2.2.2.2.1 bu_port u.2.2.2.2.2.2.2.2.2.2.2 pi_line pi_cycle pi_control pi_compareLine pi_ground pi_border pi_base pi_flag pi_enabled pi_idle pi_bad pi_glyphLine pi_rowToFetch ic_rows ic_keysSeen ic_flags ic_enabled ta_controlBits ta_control ta_count ta_latch tb_controlBits tb_control tb_count tb_latch f_ra f_rA f_rc f_rk f_po f_co f_wc f_wo f_ky)) (va_A (wwX3 q_pr q_rg q_bu q_ra q_rA q_rc q_rk q_pi q_po q_co q_wc q_wo q_ic q_ky q_ta q_tb k_ra k_rA k_rc k_rk k_po k_co k_wc k_wo k_ky pr_stuck pr_waits pr_interruptsBegun pr_kind pr_step pr_code pr_low pr_high pr_changed pr_missing rg_a rg_x rg_y rg_s rg_flags rg_p bu_port bu_latest pi_line pi_cycle pi_control pi_compareLine pi_ground pi_border pi_base pi_flag pi_enabled pi_idle pi_bad pi_glyphLine pi_rowToFetch ic_rows ic_keysSeen ic_flags ic_enabled ta_controlBits ta_control ta_count ta_latch tb_controlBits tb_control tb_count tb_latch f_ra f_rA f_rc f_rk f_po f_co f_wc f_wo f_ky) sz)) 0 0 (va_A (wwX3 q_pr q_rg q_bu q_ra q_rA q_rc q_rk q_pi q_po q_co q_wc q_wo q_ic q_ky q_ta q_tb k_ra k_rA k_rc k_rk k_po k_co k_wc k_wo k_ky pr_stuck pr_waits pr_interruptsBegun pr_kind pr_step pr_code pr_low pr_high pr_changed pr_missing rg_a rg_x rg_y rg_s rg_flags rg_p bu_port bu_latest pi_line pi_cycle pi_control pi_compareLine pi_ground pi_border pi_base pi_flag pi_enabled pi_idle pi_bad pi_glyphLine pi_rowToFetch ic_rows ic_keysSeen ic_flags ic_enabled ta_controlBits ta_control ta_count ta_latch tb_controlBits tb_control tb_count tb_latch f_ra f_rA f_rc f_rk f_po f_co f_wc f_wo f_ky) sz) := by
  refine Met.ofW (cc := cX3_restart) (maxL := 1) (ret := none) (by decide) rfl ?_
  intro p e s m args below meth c s₁ B hml hv
  obtain ⟨rfl, hsz, hP, hK, hD0⟩ := hv
  have hx := B.exec
  have hb := B.bytes
  have hr := B.returns
  have hts : ∀ w ∈ ub, w.before _ s = true := fun w h => atoms_spec (ws := uX3_restart) B.pre w (List.mem_cons_of_mem _ h)
  have hown : s.vm.findClass RX3 = some m.cls := findClass_of_methodNamed B.named
  have hlocks := B.notSynchronized
  subst hsz
  have hD := hD0.self (sz := s.heap.size)
  generalize hAe : va_A (wwX3 q_pr q_rg q_bu q_ra q_rA q_rc q_rk q_pi q_po q_co q_wc q_wo q_ic q_ky q_ta q_tb k_ra k_rA k_rc k_rk k_po k_co k_wc k_wo k_ky pr_stuck pr_waits pr_interruptsBegun pr_kind pr_step pr_code pr_low pr_high pr_changed pr_missing rg_a rg_x rg_y rg_s rg_flags rg_p bu_port bu_latest pi_line pi_cycle pi_control pi_compareLine pi_ground pi_border pi_base pi_flag pi_enabled pi_idle pi_bad pi_glyphLine pi_rowToFetch ic_rows ic_keysSeen ic_flags ic_enabled ta_controlBits ta_control ta_count ta_latch tb_controlBits tb_control tb_count tb_latch f_ra f_rA f_rc f_rk f_po f_co f_wc f_wo f_ky) s.heap.size = A at hD ⊢
  have hA : ∀ q : Nat, s.heap.size ≤ q → A q := fun q h => by rw [← hAe]; exact Or.inr h
  have hS : va_S A s.heap s.heap [] := va_S.rf
  have hl := lv_entry ([.ref q_pr]) (n := 1) (Nat.le_of_ble_eq_true rfl)
  rw [lg_entry_eq]
  generalize (lg_sl ([.ref q_pr]) ++ List.replicate (1 - (lg_sl ([.ref q_pr])).length) Slot.unset).toArray = ls at hl ⊢
  have hl : lv_has ls 1 [(0, .ref q_pr)] := hl
  have hF := fX3_restart.eq_1 bu_port pi_line pi_control pi_ground pi_border pi_base pi_flag pi_enabled ic_rows ic_keysSeen ic_flags ic_enabled ta_control ta_count tb_control tb_count f_ra f_rA f_rc f_rk f_co
  refine lv_aload_n hx hb dX3_restart_0 rfl (lv_at hl 0 rfl) ?_
  refine va_get (D := (dC, dI)) (ci := 3) (v := .ref q_rg) (C := RX3) (T := TX3) (N := 14) hx hb hts hiX3 hown hK hP 0 rfl rfl 0 (by decide) (hts _ kFX3_12) (fun _ h9 => h9) rfl dX3_restart_1 ?_
  refine lv_aload_n hx hb dX3_restart_4 rfl (lv_at hl 0 rfl) ?_
  refine va_get (D := (dC, dI)) (ci := 3) (v := .ref q_bu) (C := RX3) (T := TX3) (N := 14) hx hb hts hiX3 hown hK hP 0 rfl rfl 4 (by decide) (hts _ kFX3_26) (fun _ h9 => h9) rfl dX3_restart_5 ?_
  refine lv_sipush (v := 8188) hx hb dX3_restart_8 (by decide) ?_
  have hPc := hP.sub (ws' := (wwX0 q_bu q_ra q_rA q_rc q_rk q_pi q_po q_co q_wc q_wo q_ic q_ky q_ta q_tb k_ra k_rA k_rc k_rk k_po k_co k_wc k_wo k_ky bu_port bu_latest pi_line pi_cycle pi_control pi_compareLine pi_ground pi_border pi_base pi_flag pi_enabled pi_idle pi_bad pi_glyphLine pi_rowToFetch ic_rows ic_keysSeen ic_flags ic_enabled ta_controlBits ta_control ta_count ta_latch tb_controlBits tb_control tb_count tb_latch f_ra f_rA f_rc f_rk f_po f_co f_wc f_wo f_ky)) [2, 3, 4, 5, 6, 7, 8, 9, 10, 11, 12, 13, 14, 15] rfl
  have hDc := hD.sub (ws' := (wwX0 q_bu q_ra q_rA q_rc q_rk q_pi q_po q_co q_wc q_wo q_ic q_ky q_ta q_tb k_ra k_rA k_rc k_rk k_po k_co k_wc k_wo k_ky bu_port bu_latest pi_line pi_cycle pi_control pi_compareLine pi_ground pi_border pi_base pi_flag pi_enabled pi_idle pi_bad pi_glyphLine pi_rowToFetch ic_rows ic_keysSeen ic_flags ic_enabled ta_controlBits ta_control ta_count ta_latch tb_controlBits tb_control tb_count tb_latch f_ra f_rA f_rc f_rk f_po f_co f_wc f_wo f_ky)) [2, 3, 4, 5, 6, 7, 8, 9, 10, 11, 12, 13, 14, 15] (by decide) rfl
  have hKc := hK.sub (tys' := [(k_ra, .int), (k_rA, .int), (k_rc, .int), (k_rk, .int), (k_po, .int), (k_co, .int), (k_wc, .int), (k_wo, .int), (k_ky, .int)]) [0, 1, 2, 3, 4, 5, 6, 7, 8] rfl
  have hFc := va_free (wc := (wwX0 q_bu q_ra q_rA q_rc q_rk q_pi q_po q_co q_wc q_wo q_ic q_ky q_ta q_tb k_ra k_rA k_rc k_rk k_po k_co k_wc k_wo k_ky bu_port bu_latest pi_line pi_cycle pi_control pi_compareLine pi_ground pi_border pi_base pi_flag pi_enabled pi_idle pi_bad pi_glyphLine pi_rowToFetch ic_rows ic_keysSeen ic_flags ic_enabled ta_controlBits ta_control ta_count ta_latch tb_controlBits tb_control tb_count tb_latch f_ra f_rA f_rc f_rk f_po f_co f_wc f_wo f_ky)) hD hS hA [2, 3, 4, 5, 6, 7, 8, 9, 10, 11, 12, 13, 14, 15] rfl
  refine va_calli (va_runV (As := [.int (8188:Int32)]) (rest := [.ref q_rg]) ⟨hx, hb, hml, hown, hts⟩ (mX0_peek l dC dI q_bu q_ra q_rA q_rc q_rk q_pi q_po q_co q_wc q_wo q_ic q_ky q_ta q_tb k_ra k_rA k_rc k_rk k_po k_co k_wc k_wo k_ky s.heap.size bu_port bu_latest pi_line pi_cycle pi_control pi_compareLine pi_ground pi_border pi_base pi_flag pi_enabled pi_idle pi_bad pi_glyphLine pi_rowToFetch ic_rows ic_keysSeen ic_flags ic_enabled ta_controlBits ta_control ta_count ta_latch tb_controlBits tb_control tb_count tb_latch f_ra f_rA f_rc f_rk f_po f_co f_wc f_wo f_ky (8188:Int32)) (cwV 1 hts (ub_V kMX3_38 kYX0_peek kSX0_peek kIX0 kBX0_peek) rfl rfl rfl (by decide +kernel) ⟨Nat.le_of_ble_eq_true rfl, Nat.le_of_ble_eq_true rfl⟩) ⟨fun a U g mk q => by obtain ⟨q0, q1, qP, qK, qD⟩ := q; exact ⟨q0, q1, qP, va_K.moved (u := U) (U := U.calling g mk a) (Vm.Alike.refl U.vm) qK, qD⟩, va_recv hKc hPc (ci := 0) (q0 := 0) rfl rfl, fun U hU hW => ⟨rfl, by rw [hU], by rw [hU]; exact hPc, va_K.moved hW.alike hKc, hDc.weaken (fun _ _ _ _ => trivial)⟩⟩ rfl rfl hl.1 rfl (lv_room (Nat.le_of_ble_eq_true rfl)) dX3_restart_11 ⟨(Nat.zero_le _), (Nat.zero_le _)⟩) hS (fun q _ h => hFc q h) hFc (fun r_11 u_11 t H locs ht hvm hw hB hz1 hk1 hS => ?_)
  obtain ⟨hP1, hK1, hD1⟩ := hB
  rw [ht] at hP1
  subst hw
  obtain ⟨hP, hD⟩ := vb_back (wc := (wwX0 q_bu q_ra q_rA q_rc q_rk q_pi q_po q_co q_wc q_wo q_ic q_ky q_ta q_tb k_ra k_rA k_rc k_rk k_po k_co k_wc k_wo k_ky bu_port bu_latest pi_line pi_cycle pi_control pi_compareLine pi_ground pi_border pi_base pi_flag pi_enabled pi_idle pi_bad pi_glyphLine pi_rowToFetch ic_rows ic_keysSeen ic_flags ic_enabled ta_controlBits ta_control ta_count ta_latch tb_controlBits tb_control tb_count tb_latch f_ra f_rA f_rc f_rk f_po f_co f_wc f_wo f_ky)) (ws' := (wwX3 q_pr q_rg q_bu q_ra q_rA q_rc q_rk q_pi q_po q_co q_wc q_wo q_ic q_ky q_ta q_tb k_ra k_rA k_rc k_rk k_po k_co k_wc k_wo k_ky pr_stuck pr_waits pr_interruptsBegun pr_kind pr_step pr_code pr_low pr_high pr_changed pr_missing rg_a rg_x rg_y rg_s rg_flags rg_p bu_port bu_latest pi_line pi_cycle pi_control pi_compareLine pi_ground pi_border pi_base pi_flag pi_enabled pi_idle pi_bad pi_glyphLine pi_rowToFetch ic_rows ic_keysSeen ic_flags ic_enabled ta_controlBits ta_control ta_count ta_latch tb_controlBits tb_control tb_count tb_latch f_ra f_rA f_rc f_rk f_po f_co f_wc f_wo f_ky)) hP hD hD1 [2, 3, 4, 5, 6, 7, 8, 9, 10, 11, 12, 13, 14, 15] [0, 1] rfl rfl (ae_c rfl (ae_c rfl ae_n)) rfl rfl hk1 hP1
  refine lv_aload_n hx hb dX3_restart_14 rfl (lv_at hl 0 rfl) ?_
  refine va_get (D := (dC, dI)) (ci := 3) (v := .ref q_bu) (C := RX3) (T := TX3) (N := 14) hx hb hts hiX3 hown hK hP 0 rfl rfl 4 (by decide) (hts _ kFX3_26) (fun _ h9 => h9) rfl dX3_restart_15 ?_
  refine lv_sipush (v := 8189) hx hb dX3_restart_18 (by decide) ?_
  have hPc := hP.sub (ws' := (wwX0 q_bu q_ra q_rA q_rc q_rk q_pi q_po q_co q_wc q_wo q_ic q_ky q_ta q_tb k_ra k_rA k_rc k_rk k_po k_co k_wc k_wo k_ky bu_port bu_latest pi_line pi_cycle pi_control pi_compareLine pi_ground pi_border pi_base pi_flag pi_enabled pi_idle pi_bad pi_glyphLine pi_rowToFetch ic_rows ic_keysSeen ic_flags ic_enabled ta_controlBits ta_control ta_count ta_latch tb_controlBits tb_control tb_count tb_latch f_ra f_rA f_rc f_rk f_po f_co f_wc f_wo f_ky)) [2, 3, 4, 5, 6, 7, 8, 9, 10, 11, 12, 13, 14, 15] rfl
  have hDc := hD.sub (ws' := (wwX0 q_bu q_ra q_rA q_rc q_rk q_pi q_po q_co q_wc q_wo q_ic q_ky q_ta q_tb k_ra k_rA k_rc k_rk k_po k_co k_wc k_wo k_ky bu_port bu_latest pi_line pi_cycle pi_control pi_compareLine pi_ground pi_border pi_base pi_flag pi_enabled pi_idle pi_bad pi_glyphLine pi_rowToFetch ic_rows ic_keysSeen ic_flags ic_enabled ta_controlBits ta_control ta_count ta_latch tb_controlBits tb_control tb_count tb_latch f_ra f_rA f_rc f_rk f_po f_co f_wc f_wo f_ky)) [2, 3, 4, 5, 6, 7, 8, 9, 10, 11, 12, 13, 14, 15] (by decide) rfl
  have hKc := hK.sub (tys' := [(k_ra, .int), (k_rA, .int), (k_rc, .int), (k_rk, .int), (k_po, .int), (k_co, .int), (k_wc, .int), (k_wo, .int), (k_ky, .int)]) [0, 1, 2, 3, 4, 5, 6, 7, 8] rfl
  have hFc := va_free (wc := (wwX0 q_bu q_ra q_rA q_rc q_rk q_pi q_po q_co q_wc q_wo q_ic q_ky q_ta q_tb k_ra k_rA k_rc k_rk k_po k_co k_wc k_wo k_ky bu_port bu_latest pi_line pi_cycle pi_control pi_compareLine pi_ground pi_border pi_base pi_flag pi_enabled pi_idle pi_bad pi_glyphLine pi_rowToFetch ic_rows ic_keysSeen ic_flags ic_enabled ta_controlBits ta_control ta_count ta_latch tb_controlBits tb_control tb_count tb_latch f_ra f_rA f_rc f_rk f_po f_co f_wc f_wo f_ky)) hD hS hA [2, 3, 4, 5, 6, 7, 8, 9, 10, 11, 12, 13, 14, 15] rfl
  refine va_calli (va_runV (As := [.int (8189:Int32)]) (rest := [.int (fX0_peek (8188:Int32) bu_port pi_line pi_control pi_ground pi_border pi_base pi_flag pi_enabled ic_rows ic_keysSeen ic_flags ic_enabled ta_control ta_count tb_control tb_count f_ra f_rA f_rc f_rk f_co), .ref q_rg]) ⟨hx, hb, hml, hown, hts⟩ (mX0_peek l dC dI q_bu q_ra q_rA q_rc q_rk q_pi q_po q_co q_wc q_wo q_ic q_ky q_ta q_tb k_ra k_rA k_rc k_rk k_po k_co k_wc k_wo k_ky H.size bu_port bu_latest pi_line pi_cycle pi_control pi_compareLine pi_ground pi_border pi_base pi_flag pi_enabled pi_idle pi_bad pi_glyphLine pi_rowToFetch ic_rows ic_keysSeen ic_flags ic_enabled ta_controlBits ta_control ta_count ta_latch tb_controlBits tb_control tb_count tb_latch f_ra f_rA f_rc f_rk f_po f_co f_wc f_wo f_ky (8189:Int32)) (cwV 1 hts (ub_V kMX3_38 kYX0_peek kSX0_peek kIX0 kBX0_peek) rfl rfl rfl (by decide +kernel) ⟨Nat.le_of_ble_eq_true rfl, Nat.le_of_ble_eq_true rfl⟩) ⟨fun a U g mk q => by obtain ⟨q0, q1, qP, qK, qD⟩ := q; exact ⟨q0, q1, qP, va_K.moved (u := U) (U := U.calling g mk a) (Vm.Alike.refl U.vm) qK, qD⟩, va_recv hKc hPc (ci := 0) (q0 := 0) rfl rfl, fun U hU hW => ⟨rfl, by rw [hU], by rw [hU]; exact hPc, va_K.moved hW.alike hKc, hDc.weaken (fun _ _ _ _ => trivial)⟩⟩ rfl rfl hl.1 rfl (lv_room (Nat.le_of_ble_eq_true rfl)) dX3_restart_21 ⟨(Nat.zero_le _), (Nat.zero_le _)⟩) hS (fun q _ h => hFc q h) hFc (fun r_21 u_21 t H locs ht hvm hw hB hz1 hk1 hS => ?_)
  obtain ⟨hP1, hK1, hD1⟩ := hB
  rw [ht] at hP1
  subst hw
  obtain ⟨hP, hD⟩ := vb_back (wc := (wwX0 q_bu q_ra q_rA q_rc q_rk q_pi q_po q_co q_wc q_wo q_ic q_ky q_ta q_tb k_ra k_rA k_rc k_rk k_po k_co k_wc k_wo k_ky bu_port bu_latest pi_line pi_cycle pi_control pi_compareLine pi_ground pi_border pi_base pi_flag pi_enabled pi_idle pi_bad pi_glyphLine pi_rowToFetch ic_rows ic_keysSeen ic_flags ic_enabled ta_controlBits ta_control ta_count ta_latch tb_controlBits tb_control tb_count tb_latch f_ra f_rA f_rc f_rk f_po f_co f_wc f_wo f_ky)) (ws' := (wwX3 q_pr q_rg q_bu q_ra q_rA q_rc q_rk q_pi q_po q_co q_wc q_wo q_ic q_ky q_ta q_tb k_ra k_rA k_rc k_rk k_po k_co k_wc k_wo k_ky pr_stuck pr_waits pr_interruptsBegun pr_kind pr_step pr_code pr_low pr_high pr_changed pr_missing rg_a rg_x rg_y rg_s rg_flags rg_p bu_port bu_latest pi_line pi_cycle pi_control pi_compareLine pi_ground pi_border pi_base pi_flag pi_enabled pi_idle pi_bad pi_glyphLine pi_rowToFetch ic_rows ic_keysSeen ic_flags ic_enabled ta_controlBits ta_control ta_count ta_latch tb_controlBits tb_control tb_count tb_latch f_ra f_rA f_rc f_rk f_po f_co f_wc f_wo f_ky)) hP hD hD1 [2, 3, 4, 5, 6, 7, 8, 9, 10, 11, 12, 13, 14, 15] [0, 1] rfl rfl (ae_c rfl (ae_c rfl ae_n)) rfl rfl hk1 hP1
  have hPc := hP.sub (ws' := ([] : va_W)) [] rfl
  have hDc := hD.sub (ws' := ([] : va_W)) [] (by decide) rfl
  have hKc := hK.sub (tys' := []) [] rfl
  have hFc := va_free (wc := ([] : va_W)) hD hS hA [] rfl
  refine va_calli (va_runS (As := [.int (fX0_peek (8188:Int32) bu_port pi_line pi_control pi_ground pi_border pi_base pi_flag pi_enabled ic_rows ic_keysSeen ic_flags ic_enabled ta_control ta_count tb_control tb_count f_ra f_rA f_rc f_rk f_co), .int (fX0_peek (8189:Int32) bu_port pi_line pi_control pi_ground pi_border pi_base pi_flag pi_enabled ic_rows ic_keysSeen ic_flags ic_enabled ta_control ta_count tb_control tb_count f_ra f_rA f_rc f_rk f_co)]) (rest := [.ref q_rg]) ⟨hx, hb, hml, hown, hts⟩ (mX3_word l dC dI H.size (fX0_peek (8188:Int32) bu_port pi_line pi_control pi_ground pi_border pi_base pi_flag pi_enabled ic_rows ic_keysSeen ic_flags ic_enabled ta_control ta_count tb_control tb_count f_ra f_rA f_rc f_rk f_co) (fX0_peek (8189:Int32) bu_port pi_line pi_control pi_ground pi_border pi_base pi_flag pi_enabled ic_rows ic_keysSeen ic_flags ic_enabled ta_control ta_count tb_control tb_count f_ra f_rA f_rc f_rk f_co)) (va_cwS 2 hts (ub_S kMX3_44 kTX3_word kIX3 kBX3_word) rfl rfl rfl (by decide +kernel) ⟨Nat.le_of_ble_eq_true rfl, Nat.le_of_ble_eq_true rfl⟩) ⟨fun a U g mk q => by obtain ⟨q0, q1, qP, qK, qD⟩ := q; exact ⟨q0, q1, qP, va_K.moved (u := U) (U := U.calling g mk a) (Vm.Alike.refl U.vm) qK, qD⟩, fun U hU hW => ⟨rfl, by rw [hU], by rw [hU]; exact hPc, va_K.moved hW.alike hKc, hDc.weaken (fun _ _ _ _ => trivial)⟩⟩ rfl rfl hl.1 rfl (lv_room (Nat.le_of_ble_eq_true rfl)) dX3_restart_24 ⟨(Nat.zero_le _), (Nat.zero_le _)⟩) hS (fun q _ h => hFc q h) hFc (fun r_24 u_24 t H locs ht hvm hw hB hz1 hk1 hS => ?_)
  obtain ⟨hP1, hK1, hD1⟩ := hB
  rw [ht] at hP1
  subst hw
  obtain ⟨hP, hD⟩ := vb_back (wc := ([] : va_W)) (ws' := (wwX3 q_pr q_rg q_bu q_ra q_rA q_rc q_rk q_pi q_po q_co q_wc q_wo q_ic q_ky q_ta q_tb k_ra k_rA k_rc k_rk k_po k_co k_wc k_wo k_ky pr_stuck pr_waits pr_interruptsBegun pr_kind pr_step pr_code pr_low pr_high pr_changed pr_missing rg_a rg_x rg_y rg_s rg_flags rg_p bu_port bu_latest pi_line pi_cycle pi_control pi_compareLine pi_ground pi_border pi_base pi_flag pi_enabled pi_idle pi_bad pi_glyphLine pi_rowToFetch ic_rows ic_keysSeen ic_flags ic_enabled ta_controlBits ta_control ta_count ta_latch tb_controlBits tb_control tb_count tb_latch f_ra f_rA f_rc f_rk f_po f_co f_wc f_wo f_ky)) hP hD hD1 [] [0, 1, 2, 3, 4, 5, 6, 7, 8, 9, 10, 11, 12, 13, 14, 15] rfl rfl (ae_c rfl (ae_c rfl (ae_c rfl (ae_c rfl (ae_c rfl (ae_c rfl (ae_c rfl (ae_c rfl (ae_c rfl (ae_c rfl (ae_c rfl (ae_c rfl (ae_c rfl (ae_c rfl (ae_c rfl (ae_c rfl ae_n)))))))))))))))) rfl rfl hk1 hP1
  have hPc := hP.sub (ws' := (wwX4 q_rg rg_a rg_x rg_y rg_s rg_flags rg_p)) [1] rfl
  have hDc := hD.sub (ws' := (wwX4 q_rg rg_a rg_x rg_y rg_s rg_flags rg_p)) [1] (by decide) rfl
  have hKc := hK.sub (tys' := []) [] rfl
  have hFc := va_free (wc := (wwX4 q_rg rg_a rg_x rg_y rg_s rg_flags rg_p)) hD hS hA [1] rfl
  refine va_callv (va_runV (As := [.int (fX3_word (fX0_peek (8188:Int32) bu_port pi_line pi_control pi_ground pi_border pi_base pi_flag pi_enabled ic_rows ic_keysSeen ic_flags ic_enabled ta_control ta_count tb_control tb_count f_ra f_rA f_rc f_rk f_co) (fX0_peek (8189:Int32) bu_port pi_line pi_control pi_ground pi_border pi_base pi_flag pi_enabled ic_rows ic_keysSeen ic_flags ic_enabled ta_control ta_count tb_control tb_count f_ra f_rA f_rc f_rk f_co))]) (rest := []) ⟨hx, hb, hml, hown, hts⟩ (mX4_reset l dC dI q_rg H.size rg_a rg_x rg_y rg_s rg_flags rg_p (fX3_word (fX0_peek (8188:Int32) bu_port pi_line pi_control pi_ground pi_border pi_base pi_flag pi_enabled ic_rows ic_keysSeen ic_flags ic_enabled ta_control ta_count tb_control tb_count f_ra f_rA f_rc f_rk f_co) (fX0_peek (8189:Int32) bu_port pi_line pi_control pi_ground pi_border pi_base pi_flag pi_enabled ic_rows ic_keysSeen ic_flags ic_enabled ta_control ta_count tb_control tb_count f_ra f_rA f_rc f_rk f_co))) (cwV 1 hts (ub_V kMX3_48 kYX4_reset kSX4_reset kIX4 kBX4_reset) rfl rfl rfl (by decide +kernel) ⟨Nat.le_of_ble_eq_true rfl, Nat.le_of_ble_eq_true rfl⟩) ⟨fun a U g mk q => by obtain ⟨q0, q1, qP, qK, qD⟩ := q; exact ⟨q0, q1, qP, va_K.moved (u := U) (U := U.calling g mk a) (Vm.Alike.refl U.vm) qK, qD⟩, va_recv hKc hPc (ci := 4) (q0 := 0) rfl rfl, fun U hU hW => ⟨rfl, by rw [hU], by rw [hU]; exact hPc, va_K.moved hW.alike hKc, hDc.weaken (fun _ _ _ _ => trivial)⟩⟩ rfl rfl hl.1 rfl (lv_room (Nat.le_of_ble_eq_true rfl)) dX3_restart_27 ⟨(Nat.zero_le _), (Nat.zero_le _)⟩) hS (fun q _ h => hFc q h) hFc (fun u_27 t H locs ht hvm hw hB hz1 hk1 hS => ?_)
  obtain ⟨rg_a_27, rg_x_27, rg_y_27, rg_s_27, rg_flags_27, rg_p_27⟩ := u_27
  obtain ⟨hP1, hK1, hD1⟩ := hB
  rw [ht] at hP1
  obtain ⟨hP, hD⟩ := vb_back (wc := (wwX4 q_rg rg_a rg_x rg_y rg_s rg_flags rg_p)) (ws' := (wwX3 q_pr q_rg q_bu q_ra q_rA q_rc q_rk q_pi q_po q_co q_wc q_wo q_ic q_ky q_ta q_tb k_ra k_rA k_rc k_rk k_po k_co k_wc k_wo k_ky pr_stuck pr_waits pr_interruptsBegun pr_kind pr_step pr_code pr_low pr_high pr_changed pr_missing rg_a_27 rg_x_27 rg_y_27 rg_s_27 rg_flags_27 rg_p_27 bu_port bu_latest pi_line pi_cycle pi_control pi_compareLine pi_ground pi_border pi_base pi_flag pi_enabled pi_idle pi_bad pi_glyphLine pi_rowToFetch ic_rows ic_keysSeen ic_flags ic_enabled ta_controlBits ta_control ta_count ta_latch tb_controlBits tb_control tb_count tb_latch f_ra f_rA f_rc f_rk f_po f_co f_wc f_wo f_ky)) hP hD hD1 [1] [0, 2, 3, 4, 5, 6, 7, 8, 9, 10, 11, 12, 13, 14, 15] rfl rfl (ae_c rfl (ae_c rfl (ae_c rfl (ae_c rfl (ae_c rfl (ae_c rfl (ae_c rfl (ae_c rfl (ae_c rfl (ae_c rfl (ae_c rfl (ae_c rfl (ae_c rfl (ae_c rfl (ae_c rfl ae_n))))))))))))))) rfl rfl hk1 hP1
  rw [← hw] at hF
  dsimp only at hF
  refine lv_aload_n hx hb dX3_restart_30 rfl (lv_at hl 0 rfl) ?_
  refine lv_iconst (v := 0) hx hb dX3_restart_31 (by decide) ?_
  refine va_put (D := (dC, dI)) (ci := 3) (v := .int (0:Int32)) (ty := .boolean) (C := RX3) (T := TX3) (N := 14) hx hb hts hiX3 tyX3 tyX3_ok nmX3 hown hK hP hD hS 0 rfl rfl 1 (by decide) (hts _ kFX3_18) (fun _ h9 => h9) rfl (by decide +kernel) rfl rfl (Nat.le_of_ble_eq_true rfl) dX3_restart_32 (fun H locs hP hD hS => ?_)
  have hP : va_P (dC, dI) vwCl (wwX3 q_pr q_rg q_bu q_ra q_rA q_rc q_rk q_pi q_po q_co q_wc q_wo q_ic q_ky q_ta q_tb k_ra k_rA k_rc k_rk k_po k_co k_wc k_wo k_ky (0:Int32) pr_waits pr_interruptsBegun pr_kind pr_step pr_code pr_low pr_high pr_changed pr_missing rg_a_27 rg_x_27 rg_y_27 rg_s_27 rg_flags_27 rg_p_27 bu_port bu_latest pi_line pi_cycle pi_control pi_compareLine pi_ground pi_border pi_base pi_flag pi_enabled pi_idle pi_bad pi_glyphLine pi_rowToFetch ic_rows ic_keysSeen ic_flags ic_enabled ta_controlBits ta_control ta_count ta_latch tb_controlBits tb_control tb_count tb_latch f_ra f_rA f_rc f_rk f_po f_co f_wc f_wo f_ky) H := hP
  have hD : va_D A (wwX3 q_pr q_rg q_bu q_ra q_rA q_rc q_rk q_pi q_po q_co q_wc q_wo q_ic q_ky q_ta q_tb k_ra k_rA k_rc k_rk k_po k_co k_wc k_wo k_ky (0:Int32) pr_waits pr_interruptsBegun pr_kind pr_step pr_code pr_low pr_high pr_changed pr_missing rg_a_27 rg_x_27 rg_y_27 rg_s_27 rg_flags_27 rg_p_27 bu_port bu_latest pi_line pi_cycle pi_control pi_compareLine pi_ground pi_border pi_base pi_flag pi_enabled pi_idle pi_bad pi_glyphLine pi_rowToFetch ic_rows ic_keysSeen ic_flags ic_enabled ta_controlBits ta_control ta_count ta_latch tb_controlBits tb_control tb_count tb_latch f_ra f_rA f_rc f_rk f_po f_co f_wc f_wo f_ky) := hD
  refine lv_aload_n hx hb dX3_restart_35 rfl (lv_at hl 0 rfl) ?_
  refine lv_iconst (v := 0) hx hb dX3_restart_36 (by decide) ?_
  refine va_put (D := (dC, dI)) (ci := 3) (v := .int (0:Int32)) (ty := .int) (C := RX3) (T := TX3) (N := 14) hx hb hts hiX3 tyX3 tyX3_ok nmX3 hown hK hP hD hS 0 rfl rfl 2 (by decide) (hts _ kFX3_52) (fun _ h9 => h9) rfl (by decide +kernel) rfl rfl (Nat.le_of_ble_eq_true rfl) dX3_restart_37 (fun H locs hP hD hS => ?_)
  have hP : va_P (dC, dI) vwCl (wwX3 q_pr q_rg q_bu q_ra q_rA q_rc q_rk q_pi q_po q_co q_wc q_wo q_ic q_ky q_ta q_tb k_ra k_rA k_rc k_rk k_po k_co k_wc k_wo k_ky (0:Int32) (0:Int32) pr_interruptsBegun pr_kind pr_step pr_code pr_low pr_high pr_changed pr_missing rg_a_27 rg_x_27 rg_y_27 rg_s_27 rg_flags_27 rg_p_27 bu_port bu_latest pi_line pi_cycle pi_control pi_compareLine pi_ground pi_border pi_base pi_flag pi_enabled pi_idle pi_bad pi_glyphLine pi_rowToFetch ic_rows ic_keysSeen ic_flags ic_enabled ta_controlBits ta_control ta_count ta_latch tb_controlBits tb_control tb_count tb_latch f_ra f_rA f_rc f_rk f_po f_co f_wc f_wo f_ky) H := hP
  have hD : va_D A (wwX3 q_pr q_rg q_bu q_ra q_rA q_rc q_rk q_pi q_po q_co q_wc q_wo q_ic q_ky q_ta q_tb k_ra k_rA k_rc k_rk k_po k_co k_wc k_wo k_ky (0:Int32) (0:Int32) pr_interruptsBegun pr_kind pr_step pr_code pr_low pr_high pr_changed pr_missing rg_a_27 rg_x_27 rg_y_27 rg_s_27 rg_flags_27 rg_p_27 bu_port bu_latest pi_line pi_cycle pi_control pi_compareLine pi_ground pi_border pi_base pi_flag pi_enabled pi_idle pi_bad pi_glyphLine pi_rowToFetch ic_rows ic_keysSeen ic_flags ic_enabled ta_controlBits ta_control ta_count ta_latch tb_controlBits tb_control tb_count tb_latch f_ra f_rA f_rc f_rk f_po f_co f_wc f_wo f_ky) := hD
  refine lv_aload_n hx hb dX3_restart_40 rfl (lv_at hl 0 rfl) ?_
  refine lv_iconst (v := 0) hx hb dX3_restart_41 (by decide) ?_
  refine va_put (D := (dC, dI)) (ci := 3) (v := .int (0:Int32)) (ty := .int) (C := RX3) (T := TX3) (N := 14) hx hb hts hiX3 tyX3 tyX3_ok nmX3 hown hK hP hD hS 0 rfl rfl 3 (by decide) (hts _ kFX3_55) (fun _ h9 => h9) rfl (by decide +kernel) rfl rfl (Nat.le_of_ble_eq_true rfl) dX3_restart_42 (fun H locs hP hD hS => ?_)
  have hP : va_P (dC, dI) vwCl (wwX3 q_pr q_rg q_bu q_ra q_rA q_rc q_rk q_pi q_po q_co q_wc q_wo q_ic q_ky q_ta q_tb k_ra k_rA k_rc k_rk k_po k_co k_wc k_wo k_ky (0:Int32) (0:Int32) (0:Int32) pr_kind pr_step pr_code pr_low pr_high pr_changed pr_missing rg_a_27 rg_x_27 rg_y_27 rg_s_27 rg_flags_27 rg_p_27 bu_port bu_latest pi_line pi_cycle pi_control pi_compareLine pi_ground pi_border pi_base pi_flag pi_enabled pi_idle pi_bad pi_glyphLine pi_rowToFetch ic_rows ic_keysSeen ic_flags ic_enabled ta_controlBits ta_control ta_count ta_latch tb_controlBits tb_control tb_count tb_latch f_ra f_rA f_rc f_rk f_po f_co f_wc f_wo f_ky) H := hP
  have hD : va_D A (wwX3 q_pr q_rg q_bu q_ra q_rA q_rc q_rk q_pi q_po q_co q_wc q_wo q_ic q_ky q_ta q_tb k_ra k_rA k_rc k_rk k_po k_co k_wc k_wo k_ky (0:Int32) (0:Int32) (0:Int32) pr_kind pr_step pr_code pr_low pr_high pr_changed pr_missing rg_a_27 rg_x_27 rg_y_27 rg_s_27 rg_flags_27 rg_p_27 bu_port bu_latest pi_line pi_cycle pi_control pi_compareLine pi_ground pi_border pi_base pi_flag pi_enabled pi_idle pi_bad pi_glyphLine pi_rowToFetch ic_rows ic_keysSeen ic_flags ic_enabled ta_controlBits ta_control ta_count ta_latch tb_controlBits tb_control tb_count tb_latch f_ra f_rA f_rc f_rk f_po f_co f_wc f_wo f_ky) := hD
  refine lv_aload_n hx hb dX3_restart_45 rfl (lv_at hl 0 rfl) ?_
  refine va_get (D := (dC, dI)) (ci := 3) (v := .ref q_bu) (C := RX3) (T := TX3) (N := 14) hx hb hts hiX3 hown hK hP 0 rfl rfl 4 (by decide) (hts _ kFX3_26) (fun _ h9 => h9) rfl dX3_restart_46 ?_
  refine lv_iconst (v := -1) hx hb dX3_restart_49 (by decide) ?_
  refine va_put (D := (dC, dI)) (ci := 0) (v := .int (-1:Int32)) (ty := .int) (C := RX0) (T := TX0) (N := 8) hx hb hts hiX0 tyX0 tyX0_ok nmX0 hown hK hP hD hS 2 rfl rfl 7 (by decide) (hts _ kFX3_58) (fun _ h9 => h9) rfl (by decide +kernel) rfl rfl (Nat.le_of_ble_eq_true rfl) dX3_restart_50 (fun H locs hP hD hS => ?_)
  have hP : va_P (dC, dI) vwCl (wwX3 q_pr q_rg q_bu q_ra q_rA q_rc q_rk q_pi q_po q_co q_wc q_wo q_ic q_ky q_ta q_tb k_ra k_rA k_rc k_rk k_po k_co k_wc k_wo k_ky (0:Int32) (0:Int32) (0:Int32) pr_kind pr_step pr_code pr_low pr_high pr_changed pr_missing rg_a_27 rg_x_27 rg_y_27 rg_s_27 rg_flags_27 rg_p_27 bu_port (-1:Int32) pi_line pi_cycle pi_control pi_compareLine pi_ground pi_border pi_base pi_flag pi_enabled pi_idle pi_bad pi_glyphLine pi_rowToFetch ic_rows ic_keysSeen ic_flags ic_enabled ta_controlBits ta_control ta_count ta_latch tb_controlBits tb_control tb_count tb_latch f_ra f_rA f_rc f_rk f_po f_co f_wc f_wo f_ky) H := hP
  have hD : va_D A (wwX3 q_pr q_rg q_bu q_ra q_rA q_rc q_rk q_pi q_po q_co q_wc q_wo q_ic q_ky q_ta q_tb k_ra k_rA k_rc k_rk k_po k_co k_wc k_wo k_ky (0:Int32) (0:Int32) (0:Int32) pr_kind pr_step pr_code pr_low pr_high pr_changed pr_missing rg_a_27 rg_x_27 rg_y_27 rg_s_27 rg_flags_27 rg_p_27 bu_port (-1:Int32) pi_line pi_cycle pi_control pi_compareLine pi_ground pi_border pi_base pi_flag pi_enabled pi_idle pi_bad pi_glyphLine pi_rowToFetch ic_rows ic_keysSeen ic_flags ic_enabled ta_controlBits ta_control ta_count ta_latch tb_controlBits tb_control tb_count tb_latch f_ra f_rA f_rc f_rk f_po f_co f_wc f_wo f_ky) := hD
  refine lv_aload_n hx hb dX3_restart_53 rfl (lv_at hl 0 rfl) ?_
  have hPc := hP.sub (ws' := (wwX3 q_pr q_rg q_bu q_ra q_rA q_rc q_rk q_pi q_po q_co q_wc q_wo q_ic q_ky q_ta q_tb k_ra k_rA k_rc k_rk k_po k_co k_wc k_wo k_ky (0:Int32) (0:Int32) (0:Int32) pr_kind pr_step pr_code pr_low pr_high pr_changed pr_missing rg_a_27 rg_x_27 rg_y_27 rg_s_27 rg_flags_27 rg_p_27 bu_port (-1:Int32) pi_line pi_cycle pi_control pi_compareLine pi_ground pi_border pi_base pi_flag pi_enabled pi_idle pi_bad pi_glyphLine pi_rowToFetch ic_rows ic_keysSeen ic_flags ic_enabled ta_controlBits ta_control ta_count ta_latch tb_controlBits tb_control tb_count tb_latch f_ra f_rA f_rc f_rk f_po f_co f_wc f_wo f_ky)) [0, 1, 2, 3, 4, 5, 6, 7, 8, 9, 10, 11, 12, 13, 14, 15] rfl
  have hDc := hD.sub (ws' := (wwX3 q_pr q_rg q_bu q_ra q_rA q_rc q_rk q_pi q_po q_co q_wc q_wo q_ic q_ky q_ta q_tb k_ra k_rA k_rc k_rk k_po k_co k_wc k_wo k_ky (0:Int32) (0:Int32) (0:Int32) pr_kind pr_step pr_code pr_low pr_high pr_changed pr_missing rg_a_27 rg_x_27 rg_y_27 rg_s_27 rg_flags_27 rg_p_27 bu_port (-1:Int32) pi_line pi_cycle pi_control pi_compareLine pi_ground pi_border pi_base pi_flag pi_enabled pi_idle pi_bad pi_glyphLine pi_rowToFetch ic_rows ic_keysSeen ic_flags ic_enabled ta_controlBits ta_control ta_count ta_latch tb_controlBits tb_control tb_count tb_latch f_ra f_rA f_rc f_rk f_po f_co f_wc f_wo f_ky)) [0, 1, 2, 3, 4, 5, 6, 7, 8, 9, 10, 11, 12, 13, 14, 15] (by decide) rfl
  have hKc := hK.sub (tys' := [(k_ra, .int), (k_rA, .int), (k_rc, .int), (k_rk, .int), (k_po, .int), (k_co, .int), (k_wc, .int), (k_wo, .int), (k_ky, .int)]) [0, 1, 2, 3, 4, 5, 6, 7, 8] rfl
  have hFc := va_free (wc := (wwX3 q_pr q_rg q_bu q_ra q_rA q_rc q_rk q_pi q_po q_co q_wc q_wo q_ic q_ky q_ta q_tb k_ra k_rA k_rc k_rk k_po k_co k_wc k_wo k_ky (0:Int32) (0:Int32) (0:Int32) pr_kind pr_step pr_code pr_low pr_high pr_changed pr_missing rg_a_27 rg_x_27 rg_y_27 rg_s_27 rg_flags_27 rg_p_27 bu_port (-1:Int32) pi_line pi_cycle pi_control pi_compareLine pi_ground pi_border pi_base pi_flag pi_enabled pi_idle pi_bad pi_glyphLine pi_rowToFetch ic_rows ic_keysSeen ic_flags ic_enabled ta_controlBits ta_control ta_count ta_latch tb_controlBits tb_control tb_count tb_latch f_ra f_rA f_rc f_rk f_po f_co f_wc f_wo f_ky)) hD hS hA [0, 1, 2, 3, 4, 5, 6, 7, 8, 9, 10, 11, 12, 13, 14, 15] rfl
  refine va_callv (va_runV (As := []) (rest := []) ⟨hx, hb, hml, hown, hts⟩ (mX3_endInstruction l dC dI q_pr q_rg q_bu q_ra q_rA q_rc q_rk q_pi q_po q_co q_wc q_wo q_ic q_ky q_ta q_tb k_ra k_rA k_rc k_rk k_po k_co k_wc k_wo k_ky H.size (0:Int32) (0:Int32) (0:Int32) pr_kind pr_step pr_code pr_low pr_high pr_changed pr_missing rg_a_27 rg_x_27 rg_y_27 rg_s_27 rg_flags_27 rg_p_27 bu_port (-1:Int32) pi_line pi_cycle pi_control pi_compareLine pi_ground pi_border pi_base pi_flag pi_enabled pi_idle pi_bad pi_glyphLine pi_rowToFetch ic_rows ic_keysSeen ic_flags ic_enabled ta_controlBits ta_control ta_count ta_latch tb_controlBits tb_control tb_count tb_latch f_ra f_rA f_rc f_rk f_po f_co f_wc f_wo f_ky) (cwV 0 hts (ub_V kMX3_61 kYX3_endInstruction kSX3_endInstruction kIX3 kBX3_endInstruction) rfl rfl rfl (by decide +kernel) ⟨Nat.le_of_ble_eq_true rfl, Nat.le_of_ble_eq_true rfl⟩) ⟨fun a U g mk q => by obtain ⟨q0, q1, qP, qK, qD⟩ := q; exact ⟨q0, q1, qP, va_K.moved (u := U) (U := U.calling g mk a) (Vm.Alike.refl U.vm) qK, qD⟩, va_recv hKc hPc (ci := 3) (q0 := 0) rfl rfl, fun U hU hW => ⟨rfl, by rw [hU], by rw [hU]; exact hPc, va_K.moved hW.alike hKc, hDc.weaken (fun _ _ _ _ => trivial)⟩⟩ rfl rfl hl.1 rfl (lv_room (Nat.le_of_ble_eq_true rfl)) dX3_restart_54 ⟨(Nat.zero_le _), (Nat.zero_le _)⟩) hS (fun q _ h => hFc q h) hFc (fun u_54 t H locs ht hvm hw hB hz1 hk1 hS => ?_)
  obtain ⟨pr_kind_54, pr_step_54⟩ := u_54
  obtain ⟨hP1, hK1, hD1⟩ := hB
  rw [ht] at hP1
  obtain ⟨hP, hD⟩ := vb_back (wc := (wwX3 q_pr q_rg q_bu q_ra q_rA q_rc q_rk q_pi q_po q_co q_wc q_wo q_ic q_ky q_ta q_tb k_ra k_rA k_rc k_rk k_po k_co k_wc k_wo k_ky (0:Int32) (0:Int32) (0:Int32) pr_kind pr_step pr_code pr_low pr_high pr_changed pr_missing rg_a_27 rg_x_27 rg_y_27 rg_s_27 rg_flags_27 rg_p_27 bu_port (-1:Int32) pi_line pi_cycle pi_control pi_compareLine pi_ground pi_border pi_base pi_flag pi_enabled pi_idle pi_bad pi_glyphLine pi_rowToFetch ic_rows ic_keysSeen ic_flags ic_enabled ta_controlBits ta_control ta_count ta_latch tb_controlBits tb_control tb_count tb_latch f_ra f_rA f_rc f_rk f_po f_co f_wc f_wo f_ky)) (ws' := (wwX3 q_pr q_rg q_bu q_ra q_rA q_rc q_rk q_pi q_po q_co q_wc q_wo q_ic q_ky q_ta q_tb k_ra k_rA k_rc k_rk k_po k_co k_wc k_wo k_ky (0:Int32) (0:Int32) (0:Int32) pr_kind_54 pr_step_54 pr_code pr_low pr_high pr_changed pr_missing rg_a_27 rg_x_27 rg_y_27 rg_s_27 rg_flags_27 rg_p_27 bu_port (-1:Int32) pi_line pi_cycle pi_control pi_compareLine pi_ground pi_border pi_base pi_flag pi_enabled pi_idle pi_bad pi_glyphLine pi_rowToFetch ic_rows ic_keysSeen ic_flags ic_enabled ta_controlBits ta_control ta_count ta_latch tb_controlBits tb_control tb_count tb_latch f_ra f_rA f_rc f_rk f_po f_co f_wc f_wo f_ky)) hP hD hD1 [0, 1, 2, 3, 4, 5, 6, 7, 8, 9, 10, 11, 12, 13, 14, 15] [] rfl rfl ae_n rfl rfl hk1 hP1
  rw [← hw] at hF
  dsimp only at hF
  exact W.vret hx hb hr (fun t ht hW => ⟨⟨((0:Int32), (0:Int32), (0:Int32), pr_kind_54, pr_step_54, rg_a_27, rg_x_27, rg_y_27, rg_s_27, rg_flags_27, rg_p_27, (-1:Int32)), rfl, hF.symm, by rw [ht]; exact hP, va_K.moved hW.alike hK, hD⟩, hS.F ht⟩) hS.2.2 dX3_restart_57
def fX3_stores (pr_code : Int32) : Int32 :=
  (if (pr_code >>> ((5:Int32) &&& (31:Int32))) = (4:Int32) then (1:Int32) else (0:Int32))
set_option maxHeartbeats 4000000 in
set_option maxRecDepth 100000 in
theorem mX3_stores (l : Launch) (dC : Nat → ClassId) (dI : Nat → Nat → Nat) (q_pr q_rg q_bu q_ra q_rA q_rc q_rk q_pi q_po q_co q_wc q_wo q_ic q_ky q_ta q_tb : Nat) (k_ra k_rA k_rc k_rk k_po k_co k_wc k_wo k_ky : ClassId) (sz : Nat) (pr_stuck pr_waits pr_interruptsBegun pr_kind pr_step pr_code pr_low pr_high pr_changed pr_missing rg_a rg_x rg_y rg_s rg_flags rg_p bu_port bu_latest pi_line pi_cycle pi_control pi_compareLine pi_ground pi_border pi_base pi_flag pi_enabled pi_idle pi_bad pi_glyphLine pi_rowToFetch ic_rows ic_keysSeen ic_flags ic_enabled ta_controlBits ta_control ta_count ta_latch tb_controlBits tb_control tb_count tb_latch : Int32) (f_ra f_rA f_rc f_rk f_po f_co f_wc f_wo f_ky : Nat → Int32) : Met l yX3_stores uX3_stores ({ frames := 0, cells := 0, slots := 0, locals := 0 }) (va_Pc [.ref q_pr] (fun U => U.heap.size = sz ∧ va_P (dC, dI) vwCl (wwX3 q_pr q_rg q_bu q_ra q_rA q_rc q_rk q_pi q_po q_co q_wc q_wo q_ic q_ky q_ta q_tb k_ra k_rA k_rc k_rk k_po k_co k_wc k_wo k_ky pr_stuck pr_waits pr_interruptsBegun pr_kind pr_step pr_code pr_low pr_high pr_changed pr_missing rg_a rg_x rg_y rg_s rg_flags rg_p bu_port bu_latest pi_line pi_cycle pi_control pi_compareLine pi_ground pi_border pi_base pi_flag pi_enabled pi_idle pi_bad pi_glyphLine pi_rowToFetch ic_rows ic_keysSeen ic_flags ic_enabled ta_controlBits ta_control ta_count ta_latch tb_controlBits tb_control tb_count tb_latch f_ra f_rA f_rc f_rk f_po f_co f_wc f_wo f_ky) U.heap ∧ va_K (dC, dI) vwCl [(k_ra, .int), (k_rA, .int), (k_rc, .int), (k_rk, .int), (k_po, .int), (k_co, .int), (k_wc, .int), (k_wo, .int), (k_ky, .int)] U ∧ va_D (fun _ => True) (wwX3 q_pr q_rg q_bu q_ra q_rA q_rc q_rk q_pi q_po q_co q_wc q_wo q_ic q_ky q_ta q_tb k_ra k_rA k_rc k_rk k_po k_co k_wc k_wo k_ky pr_stuck pr_waits pr_interruptsBegun pr_kind pr_step pr_code pr_low pr_high pr_changed pr_missing rg_a rg_x rg_y rg_s rg_flags rg_p bu_port bu_latest pi_line pi_cycle pi_control pi_compareLine pi_ground pi_border pi_base pi_flag pi_enabled pi_idle pi_bad pi_glyphLine pi_rowToFetch ic_rows ic_keysSeen ic_flags ic_enabled ta_controlBits ta_control ta_count ta_latch tb_controlBits tb_control tb_count tb_latch f_ra f_rA f_rc f_rk f_po f_co f_wc f_wo f_ky))) (va_Qi (fun (r : Int32) (u : Unit) => r = fX3_stores pr_code) (fun (u : Unit) (t : State) => va_P (dC, dI) vwCl (wwX3 q_pr q_rg q_bu q_ra q_rA q_rc q_rk q_pi q_po q_co q_wc q_wo q_ic q_ky q_ta q_tb k_ra k_rA k_rc k_rk k_po k_co k_wc k_wo k_ky pr_stuck pr_waits pr_interruptsBegun pr_kind pr_step pr_code pr_low pr_high pr_changed pr_missing rg_a rg_x rg_y rg_s rg_flags rg_p bu_port bu_latest pi_line pi_cycle pi_control pi_compareLine pi_ground pi_border pi_base pi_flag pi_enabled pi_idle pi_bad pi_glyphLine pi_rowToFetch ic_rows ic_keysSeen ic_flags ic_enabled ta_controlBits ta_control ta_count ta_latch tb_controlBits tb_control tb_count tb_latch f_ra f_rA f_rc f_rk f_po f_co f_wc f_wo f_ky) t.heap ∧ va_K (dC, dI) vwCl [(k_ra, .int), (k_rA, .int), (k_rc, .int), (k_rk, .int), (k_po, .int), (k_co, .int), (k_wc, .int), (k_wo, .int), (k_ky, .int)] t ∧ va_D (va_A (wwX3 q_pr q_rg q_bu q_ra q_rA q_rc q_rk q_pi q_po q_co q_wc q_wo q_ic q_ky q_ta q_tb k_ra k_rA k_rc k_rk k_po k_co k_wc k_wo k_ky pr_stuck pr_waits pr_interruptsBegun pr_kind pr_step pr_code pr_low pr_high pr_changed pr_missing rg_a rg_x rg_y rg_s rg_flags rg_p bu_port bu_latest pi_line pi_cycle pi_control pi_compareLine pi_ground pi_border pi_base pi_flag pi_enabled pi_idle pi_bad pi_glyphLine pi_rowToFetch ic_rows ic_keysSeen ic_flags ic_enabled ta_controlBits ta_control ta_count ta_latch tb_controlBits tb_control tb_count tb_latch f_ra f_rA f_rc f_rk f_po f_co f_wc f_wo f_ky) sz) (wwX3 q_pr q_rg q_bu q_ra q_rA q_rc q_rk q_pi q_po q_co q_wc q_wo q_ic q_ky q_ta q_tb k_ra k_rA k_rc k_rk k_po k_co k_wc k_wo k_ky pr_stuck pr_waits pr_interruptsBegun pr_kind pr_step pr_code pr_low pr_high pr_changed pr_missing rg_a rg_x rg_y rg_s rg_flags rg_p bu_port bu_latest pi_line pi_cycle pi_control pi_compareLine pi_ground pi_border pi_base pi_flag pi_enabled pi_idle pi_bad pi_glyphLine pi_rowToFetch ic_rows ic_keysSeen ic_flags ic_enabled ta_controlBits ta_control ta_count ta_latch tb_controlBits tb_control tb_count tb_latch f_ra f_rA f_rc f_rk f_po f_co f_wc f_wo f_ky)) (va_A (wwX3 q_pr q_rg q_bu q_ra q_rA q_rc q_rk q_pi q_po q_co q_wc q_wo q_ic q_ky q_ta q_tb k_ra k_rA k_rc k_rk k_po k_co k_wc k_wo k_ky pr_stuck pr_waits pr_interruptsBegun pr_kind pr_step pr_code pr_low pr_high pr_changed pr_missing rg_a rg_x rg_y rg_s rg_flags rg_p bu_port bu_latest pi_line pi_cycle pi_control pi_compareLine pi_ground pi_border pi_base pi_flag pi_enabled pi_idle pi_bad pi_glyphLine pi_rowToFetch ic_rows ic_keysSeen ic_flags ic_enabled ta_controlBits ta_control ta_count ta_latch tb_controlBits tb_control tb_count tb_latch f_ra f_rA f_rc f_rk f_po f_co f_wc f_wo f_ky) sz)) 0 0 (va_A (wwX3 q_pr q_rg q_bu q_ra q_rA q_rc q_rk q_pi q_po q_co q_wc q_wo q_ic q_ky q_ta q_tb k_ra k_rA k_rc k_rk k_po k_co k_wc k_wo k_ky pr_stuck pr_waits pr_interruptsBegun pr_kind pr_step pr_code pr_low pr_high pr_changed pr_missing rg_a rg_x rg_y rg_s rg_flags rg_p bu_port bu_latest pi_line pi_cycle pi_control pi_compareLine pi_ground pi_border pi_base pi_flag pi_enabled pi_idle pi_bad pi_glyphLine pi_rowToFetch ic_rows ic_keysSeen ic_flags ic_enabled ta_controlBits ta_control ta_count ta_latch tb_controlBits tb_control tb_count tb_latch f_ra f_rA f_rc f_rk f_po f_co f_wc f_wo f_ky) sz) := by
  refine Met.ofW (cc := cX3_stores) (maxL := 1) (ret := (some .boolean)) (by decide) rfl ?_
  intro p e s m args below meth c s₁ B hml hv
  obtain ⟨rfl, hsz, hP, hK, hD0⟩ := hv
  have hx := B.exec
  have hb := B.bytes
  have hr := B.returns
  have hts : ∀ w ∈ ub, w.before _ s = true := fun w h => atoms_spec (ws := uX3_stores) B.pre w (List.mem_cons_of_mem _ h)
  have hown : s.vm.findClass RX3 = some m.cls := findClass_of_methodNamed B.named
  have hlocks := B.notSynchronized
  subst hsz
  have hD := hD0.self (sz := s.heap.size)
  generalize hAe : va_A (wwX3 q_pr q_rg q_bu q_ra q_rA q_rc q_rk q_pi q_po q_co q_wc q_wo q_ic q_ky q_ta q_tb k_ra k_rA k_rc k_rk k_po k_co k_wc k_wo k_ky pr_stuck pr_waits pr_interruptsBegun pr_kind pr_step pr_code pr_low pr_high pr_changed pr_missing rg_a rg_x rg_y rg_s rg_flags rg_p bu_port bu_latest pi_line pi_cycle pi_control pi_compareLine pi_ground pi_border pi_base pi_flag pi_enabled pi_idle pi_bad pi_glyphLine pi_rowToFetch ic_rows ic_keysSeen ic_flags ic_enabled ta_controlBits ta_control ta_count ta_latch tb_controlBits tb_control tb_count tb_latch f_ra f_rA f_rc f_rk f_po f_co f_wc f_wo f_ky) s.heap.size = A at hD ⊢
  have hA : ∀ q : Nat, s.heap.size ≤ q → A q := fun q h => by rw [← hAe]; exact Or.inr h
  have hS : va_S A s.heap s.heap [] := va_S.rf
  have hl := lv_entry ([.ref q_pr]) (n := 1) (Nat.le_of_ble_eq_true rfl)
  rw [lg_entry_eq]
  generalize (lg_sl ([.ref q_pr]) ++ List.replicate (1 - (lg_sl ([.ref q_pr])).length) Slot.unset).toArray = ls at hl ⊢
  have hl : lv_has ls 1 [(0, .ref q_pr)] := hl
  have hF := fX3_stores.eq_1 pr_code
  refine lv_aload_n hx hb dX3_stores_0 rfl (lv_at hl 0 rfl) ?_
  refine va_get (D := (dC, dI)) (ci := 3) (v := .int pr_code) (C := RX3) (T := TX3) (N := 14) hx hb hts hiX3 hown hK hP 0 rfl rfl 9 (by decide) (hts _ kFX3_119) (fun _ h9 => h9) rfl dX3_stores_1 ?_
  refine lv_iconst (v := 5) hx hb dX3_stores_4 (by decide) ?_
  refine lv_ishr hx hb dX3_stores_5 ?_
  refine lv_iconst (v := 4) hx hb dX3_stores_6 (by decide) ?_
  refine vj_join (j := 15) (rest := []) (Hyp := fun z H locs => z = (if (pr_code >>> ((5:Int32) &&& (31:Int32))) = (4:Int32) then (1:Int32) else (0:Int32)) ∧ va_P (dC, dI) vwCl (wwX3 q_pr q_rg q_bu q_ra q_rA q_rc q_rk q_pi q_po q_co q_wc q_wo q_ic q_ky q_ta q_tb k_ra k_rA k_rc k_rk k_po k_co k_wc k_wo k_ky pr_stuck pr_waits pr_interruptsBegun pr_kind pr_step pr_code pr_low pr_high pr_changed pr_missing rg_a rg_x rg_y rg_s rg_flags rg_p bu_port bu_latest pi_line pi_cycle pi_control pi_compareLine pi_ground pi_border pi_base pi_flag pi_enabled pi_idle pi_bad pi_glyphLine pi_rowToFetch ic_rows ic_keysSeen ic_flags ic_enabled ta_controlBits ta_control ta_count ta_latch tb_controlBits tb_control tb_count tb_latch f_ra f_rA f_rc f_rk f_po f_co f_wc f_wo f_ky) H ∧ va_S A s.heap H locs) (fun z H locs hh => ?_) (fun J15 => ?_)
  · obtain ⟨hz, hP, hS⟩ := hh
    subst hz
    exact W.zret (v := (if (pr_code >>> ((5:Int32) &&& (31:Int32))) = (4:Int32) then (1:Int32) else (0:Int32))) hx hb hr (nb_if rfl rfl) (fun t ht hW => ⟨⟨(if (pr_code >>> ((5:Int32) &&& (31:Int32))) = (4:Int32) then (1:Int32) else (0:Int32)), (), rfl, hF.symm, by rw [ht]; exact hP, va_K.moved hW.alike hK, hD⟩, hS.F ht⟩) hS.2.2 dX3_stores_15
  · refine lv_icmp_ne (tgt := 14) hx hb dX3_stores_7 (by decide) (fun c_7 => ?_) (fun c_7 => ?_)
    · refine lv_iconst (v := 0) hx hb dX3_stores_14 (by decide) ?_
      exact J15 _ _ _ ⟨by rw [if_neg c_7], hP, hS⟩
    · refine lv_iconst (v := 1) hx hb dX3_stores_10 (by decide) ?_
      refine lv_goto (tgt := 15) hx hb dX3_stores_11 (by decide) ?_
      exact J15 _ _ _ ⟨by rw [if_pos c_7], hP, hS⟩
def fX3_writesNext (pr_kind : Int32) (pr_step : Int32) (pr_code : Int32) : Int32 :=
  if pr_kind = (2:Int32) then
   (if (pr_step + (1:Int32)) < (3:Int32) then (0:Int32) else (if (5:Int32) < (pr_step + (1:Int32)) then (0:Int32) else (1:Int32)))
  else
   if pr_kind = (5:Int32) then
    (if (fX3_stores pr_code) = (0:Int32) then (0:Int32) else (if (pr_step + (1:Int32)) = (3:Int32) then (1:Int32) else (0:Int32)))
   else
    if pr_kind = (6:Int32) then
     (if (fX3_stores pr_code) = (0:Int32) then (0:Int32) else (if (pr_step + (1:Int32)) = (4:Int32) then (1:Int32) else (0:Int32)))
    else
     if pr_kind = (7:Int32) then
      (if (fX3_stores pr_code) = (0:Int32) then (0:Int32) else (if (pr_step + (1:Int32)) = (5:Int32) then (1:Int32) else (0:Int32)))
     else
      if pr_kind = (8:Int32) then
       (if (pr_step + (1:Int32)) < (4:Int32) then (0:Int32) else (1:Int32))
      else
       if pr_kind = (11:Int32) then
        (if (pr_step + (1:Int32)) = (4:Int32) then (1:Int32) else (if (pr_step + (1:Int32)) = (5:Int32) then (1:Int32) else (0:Int32)))
       else
        if pr_kind = (14:Int32) then
         (if (pr_step + (1:Int32)) = (3:Int32) then (1:Int32) else (0:Int32))
        else
         (0:Int32)
set_option maxHeartbeats 4000000 in
set_option maxRecDepth 100000 in
theorem mX3_writesNext (l : Launch) (dC : Nat → ClassId) (dI : Nat → Nat → Nat) (q_pr q_rg q_bu q_ra q_rA q_rc q_rk q_pi q_po q_co q_wc q_wo q_ic q_ky q_ta q_tb : Nat) (k_ra k_rA k_rc k_rk k_po k_co k_wc k_wo k_ky : ClassId) (sz : Nat) (pr_stuck pr_waits pr_interruptsBegun pr_kind pr_step pr_code pr_low pr_high pr_changed pr_missing rg_a rg_x rg_y rg_s rg_flags rg_p bu_port bu_latest pi_line pi_cycle pi_control pi_compareLine pi_ground pi_border pi_base pi_flag pi_enabled pi_idle pi_bad pi_glyphLine pi_rowToFetch ic_rows ic_keysSeen ic_flags ic_enabled ta_controlBits ta_control ta_count ta_latch tb_controlBits tb_control tb_count tb_latch : Int32) (f_ra f_rA f_rc f_rk f_po f_co f_wc f_wo f_ky : Nat → Int32) : Met l yX3_writesNext uX3_writesNext ({ frames := 1, cells := 0, slots := 0, locals := 20 }) (va_Pc [.ref q_pr] (fun U => U.heap.size = sz ∧ va_P (dC, dI) vwCl (wwX3 q_pr q_rg q_bu q_ra q_rA q_rc q_rk q_pi q_po q_co q_wc q_wo q_ic q_ky q_ta q_tb k_ra k_rA k_rc k_rk k_po k_co k_wc k_wo k_ky pr_stuck pr_waits pr_interruptsBegun pr_kind pr_step pr_code pr_low pr_high pr_changed pr_missing rg_a rg_x rg_y rg_s rg_flags rg_p bu_port bu_latest pi_line pi_cycle pi_control pi_compareLine pi_ground pi_border pi_base pi_flag pi_enabled pi_idle pi_bad pi_glyphLine pi_rowToFetch ic_rows ic_keysSeen ic_flags ic_enabled ta_controlBits ta_control ta_count ta_latch tb_controlBits tb_control tb_count tb_latch f_ra f_rA f_rc f_rk f_po f_co f_wc f_wo f_ky) U.heap ∧ va_K (dC, dI) vwCl [(k_ra, .int), (k_rA, .int), (k_rc, .int), (k_rk, .int), (k_po, .int), (k_co, .int), (k_wc, .int), (k_wo, .int), (k_ky, .int)] U ∧ va_D (fun _ => True) (wwX3 q_pr q_rg q_bu q_ra q_rA q_rc q_rk q_pi q_po q_co q_wc q_wo q_ic q_ky q_ta q_tb k_ra k_rA k_rc k_rk k_po k_co k_wc k_wo k_ky pr_stuck pr_waits pr_interruptsBegun pr_kind pr_step pr_code pr_low pr_high pr_changed pr_missing rg_a rg_x rg_y rg_s rg_flags rg_p bu_port bu_latest pi_line pi_cycle pi_control pi_compareLine pi_ground pi_border pi_base pi_flag pi_enabled pi_idle pi_bad pi_glyphLine pi_rowToFetch ic_rows ic_keysSeen ic_flags ic_enabled ta_controlBits ta_control ta_count ta_latch tb_controlBits tb_control tb_count tb_latch f_ra f_rA f_rc f_rk f_po f_co f_wc f_wo f_ky))) (va_Qi (fun (r : Int32) (u : Unit) => r = fX3_writesNext pr_kind pr_step pr_code) (fun (u : Unit) (t : State) => va_P (dC, dI) vwCl (wwX3 q_pr q_rg q_bu q_ra q_rA q_rc q_rk q_pi q_po q_co q_wc q_wo q_ic q_ky q_ta q_tb k_ra k_rA k_rc k_rk k_po k_co k_wc k_wo k_ky pr_stuck pr_waits pr_interruptsBegun pr_kind pr_step pr_code pr_low pr_high pr_changed pr_missing rg_a rg_x rg_y rg_s rg_flags rg_p bu_port bu_latest pi_line pi_cycle pi_control pi_compareLine pi_ground pi_border pi_base pi_flag pi_enabled pi_idle pi_bad pi_glyphLine pi_rowToFetch ic_rows ic_keysSeen ic_flags ic_enabled ta_controlBits ta_control ta_count ta_latch tb_controlBits tb_control tb_count tb_latch f_ra f_rA f_rc f_rk f_po f_co f_wc f_wo f_ky) t.heap ∧ va_K (dC, dI) vwCl [(k_ra, .int), (k_rA, .int), (k_rc, .int), (k_rk, .int), (k_po, .int), (k_co, .int), (k_wc, .int), (k_wo, .int), (k_ky, .int)] t ∧ va_D (va_A (wwX3 q_pr q_rg q_bu q_ra q_rA q_rc q_rk q_pi q_po q_co q_wc q_wo q_ic q_ky q_ta q_tb k_ra k_rA k_rc k_rk k_po k_co k_wc k_wo k_ky pr_stuck pr_waits pr_interruptsBegun pr_kind pr_step pr_code pr_low pr_high pr_changed pr_missing rg_a rg_x rg_y rg_s rg_flags rg_p bu_port bu_latest pi_line pi_cycle pi_control pi_compareLine pi_ground pi_border pi_base pi_flag pi_enabled pi_idle pi_bad pi_glyphLine pi_rowToFetch ic_rows ic_keysSeen ic_flags ic_enabled ta_controlBits ta_control ta_count ta_latch tb_controlBits tb_control tb_count tb_latch f_ra f_rA f_rc f_rk f_po f_co f_wc f_wo f_ky) sz) (wwX3 q_pr q_rg q_bu q_ra q_rA q_rc q_rk q_pi q_po q_co q_wc q_wo q_ic q_ky q_ta q_tb k_ra k_rA k_rc k_rk k_po k_co k_wc k_wo k_ky pr_stuck pr_waits pr_interruptsBegun pr_kind pr_step pr_code pr_low pr_high pr_changed pr_missing rg_a rg_x rg_y rg_s rg_flags rg_p bu_port bu_latest pi_line pi_cycle pi_control pi_compareLine pi_ground pi_border pi_base pi_flag pi_enabled pi_idle pi_bad pi_glyphLine pi_rowToFetch ic_rows ic_keysSeen ic_flags ic_enabled ta_controlBits ta_control ta_count ta_latch tb_controlBits tb_control tb_count tb_latch f_ra f_rA f_rc f_rk f_po f_co f_wc f_wo f_ky)) (va_A (wwX3 q_pr q_rg q_bu q_ra q_rA q_rc q_rk q_pi q_po q_co q_wc q_wo q_ic q_ky q_ta q_tb k_ra k_rA k_rc k_rk k_po k_co k_wc k_wo k_ky pr_stuck pr_waits pr_interruptsBegun pr_kind pr_step pr_code pr_low pr_high pr_changed pr_missing rg_a rg_x rg_y rg_s rg_flags rg_p bu_port bu_latest pi_line pi_cycle pi_control pi_compareLine pi_ground pi_border pi_base pi_flag pi_enabled pi_idle pi_bad pi_glyphLine pi_rowToFetch ic_rows ic_keysSeen ic_flags ic_enabled ta_controlBits ta_control ta_count ta_latch tb_controlBits tb_control tb_count tb_latch f_ra f_rA f_rc f_rk f_po f_co f_wc f_wo f_ky) sz)) 0 0 (va_A (wwX3 q_pr q_rg q_bu q_ra q_rA q_rc q_rk q_pi q_po q_co q_wc q_wo q_ic q_ky q_ta q_tb k_ra k_rA k_rc k_rk k_po k_co k_wc k_wo k_ky pr_stuck pr_waits pr_interruptsBegun pr_kind pr_step pr_code pr_low pr_high pr_changed pr_missing rg_a rg_x rg_y rg_s rg_flags rg_p bu_port bu_latest pi_line pi_cycle pi_control pi_compareLine pi_ground pi_border pi_base pi_flag pi_enabled pi_idle pi_bad pi_glyphLine pi_rowToFetch ic_rows ic_keysSeen ic_flags ic_enabled ta_controlBits ta_control ta_count ta_latch tb_controlBits tb_control tb_count tb_latch f_ra f_rA f_rc f_rk f_po f_co f_wc f_wo f_ky) sz) := by
  refine Met.ofW (cc := cX3_writesNext) (maxL := 2) (ret := (some .boolean)) (by decide) rfl ?_
  intro p e s m args below meth c s₁ B hml hv
  obtain ⟨rfl, hsz, hP, hK, hD0⟩ := hv
  have hx := B.exec
  have hb := B.bytes
  have hr := B.returns
  have hts : ∀ w ∈ ub, w.before _ s = true := fun w h => atoms_spec (ws := uX3_writesNext) B.pre w (List.mem_cons_of_mem _ h)
  have hown : s.vm.findClass RX3 = some m.cls := findClass_of_methodNamed B.named
  have hlocks := B.notSynchronized
  subst hsz
  have hD := hD0.self (sz := s.heap.size)
  generalize hAe : va_A (wwX3 q_pr q_rg q_bu q_ra q_rA q_rc q_rk q_pi q_po q_co q_wc q_wo q_ic q_ky q_ta q_tb k_ra k_rA k_rc k_rk k_po k_co k_wc k_wo k_ky pr_stuck pr_waits pr_interruptsBegun pr_kind pr_step pr_code pr_low pr_high pr_changed pr_missing rg_a rg_x rg_y rg_s rg_flags rg_p bu_port bu_latest pi_line pi_cycle pi_control pi_compareLine pi_ground pi_border pi_base pi_flag pi_enabled pi_idle pi_bad pi_glyphLine pi_rowToFetch ic_rows ic_keysSeen ic_flags ic_enabled ta_controlBits ta_control ta_count ta_latch tb_controlBits tb_control tb_count tb_latch f_ra f_rA f_rc f_rk f_po f_co f_wc f_wo f_ky) s.heap.size = A at hD ⊢
  have hA : ∀ q : Nat, s.heap.size ≤ q → A q := fun q h => by rw [← hAe]; exact Or.inr h
  have hS : va_S A s.heap s.heap [] := va_S.rf
  have hl := lv_entry ([.ref q_pr]) (n := 2) (Nat.le_of_ble_eq_true rfl)
  rw [lg_entry_eq]
  generalize (lg_sl ([.ref q_pr]) ++ List.replicate (2 - (lg_sl ([.ref q_pr])).length) Slot.unset).toArray = ls at hl ⊢
  have hl : lv_has ls 2 [(0, .ref q_pr)] := hl
  have hF := fX3_writesNext.eq_1 pr_kind pr_step pr_code
  refine lv_aload_n hx hb dX3_writesNext_0 rfl (lv_at hl 0 rfl) ?_
  refine va_get (D := (dC, dI)) (ci := 3) (v := .int pr_step) (C := RX3) (T := TX3) (N := 14) hx hb hts hiX3 hown hK hP 0 rfl rfl 8 (by decide) (hts _ kFX3_68) (fun _ h9 => h9) rfl dX3_writesNext_1 ?_
  refine lv_iconst (v := 1) hx hb dX3_writesNext_4 (by decide) ?_
  refine lv_iadd hx hb dX3_writesNext_5 ?_
  refine lv_istore_n (lv' := [(1, .int (pr_step + (1:Int32))), (0, .ref q_pr)]) hx hb dX3_writesNext_6 rfl hl (by decide) rfl (fun ls hl => ?_)
  refine lv_aload_n hx hb dX3_writesNext_7 rfl (lv_at hl 1 rfl) ?_
  refine va_get (D := (dC, dI)) (ci := 3) (v := .int pr_kind) (C := RX3) (T := TX3) (N := 14) hx hb hts hiX3 hown hK hP 0 rfl rfl 7 (by decide) (hts _ kFX3_22) (fun _ h9 => h9) rfl dX3_writesNext_8 ?_
  by_cases c_11_2 : pr_kind = (2:Int32)
  · have hF := hF.trans (if_pos c_11_2)
    refine lv_tableIn (off := 65) (tgt := 76) hx hb dX3_writesNext_11 (by rw [c_11_2]; decide) (by rw [c_11_2]; decide) (by rw [c_11_2]; first | rfl | decide) (by decide) ?_
    refine lv_iload_n hx hb dX3_writesNext_76 rfl (lv_at hl 0 rfl) ?_
    refine lv_iconst (v := 3) hx hb dX3_writesNext_77 (by decide) ?_
    refine vj_join (j := 91) (rest := []) (Hyp := fun z H locs => z = (if (pr_step + (1:Int32)) < (3:Int32) then (0:Int32) else (if (5:Int32) < (pr_step + (1:Int32)) then (0:Int32) else (1:Int32))) ∧ va_P (dC, dI) vwCl (wwX3 q_pr q_rg q_bu q_ra q_rA q_rc q_rk q_pi q_po q_co q_wc q_wo q_ic q_ky q_ta q_tb k_ra k_rA k_rc k_rk k_po k_co k_wc k_wo k_ky pr_stuck pr_waits pr_interruptsBegun pr_kind pr_step pr_code pr_low pr_high pr_changed pr_missing rg_a rg_x rg_y rg_s rg_flags rg_p bu_port bu_latest pi_line pi_cycle pi_control pi_compareLine pi_ground pi_border pi_base pi_flag pi_enabled pi_idle pi_bad pi_glyphLine pi_rowToFetch ic_rows ic_keysSeen ic_flags ic_enabled ta_controlBits ta_control ta_count ta_latch tb_controlBits tb_control tb_count tb_latch f_ra f_rA f_rc f_rk f_po f_co f_wc f_wo f_ky) H ∧ va_S A s.heap H locs) (fun z H locs hh => ?_) (fun J91 => ?_)
    · obtain ⟨hz, hP, hS⟩ := hh
      subst hz
      exact W.zret (v := (if (pr_step + (1:Int32)) < (3:Int32) then (0:Int32) else (if (5:Int32) < (pr_step + (1:Int32)) then (0:Int32) else (1:Int32)))) hx hb hr (nb_if rfl (nb_if rfl rfl)) (fun t ht hW => ⟨⟨(if (pr_step + (1:Int32)) < (3:Int32) then (0:Int32) else (if (5:Int32) < (pr_step + (1:Int32)) then (0:Int32) else (1:Int32))), (), rfl, hF.symm, by rw [ht]; exact hP, va_K.moved hW.alike hK, hD⟩, hS.F ht⟩) hS.2.2 dX3_writesNext_91
    · refine lv_icmp_lt (tgt := 90) hx hb dX3_writesNext_78 (by decide) (fun c_78 => ?_) (fun c_78 => ?_)
      · refine lv_iconst (v := 0) hx hb dX3_writesNext_90 (by decide) ?_
        exact J91 _ _ _ ⟨by rw [if_pos c_78], hP, hS⟩
      · refine lv_iload_n hx hb dX3_writesNext_81 rfl (lv_at hl 0 rfl) ?_
        refine lv_iconst (v := 5) hx hb dX3_writesNext_82 (by decide) ?_
        refine lv_icmp_gt (tgt := 90) hx hb dX3_writesNext_83 (by decide) (fun c_83 => ?_) (fun c_83 => ?_)
        · refine lv_iconst (v := 0) hx hb dX3_writesNext_90 (by decide) ?_
          exact J91 _ _ _ ⟨by rw [if_neg c_78, if_pos c_83], hP, hS⟩
        · refine lv_iconst (v := 1) hx hb dX3_writesNext_86 (by decide) ?_
          refine lv_goto (tgt := 91) hx hb dX3_writesNext_87 (by decide) ?_
          exact J91 _ _ _ ⟨by rw [if_neg c_78, if_neg c_83], hP, hS⟩
  have hF := hF.trans (if_neg c_11_2)
  by_cases c_11_5 : pr_kind = (5:Int32)
  · have hF := hF.trans (if_pos c_11_5)
    refine lv_tableIn (off := 81) (tgt := 92) hx hb dX3_writesNext_11 (by rw [c_11_5]; decide) (by rw [c_11_5]; decide) (by rw [c_11_5]; first | rfl | decide) (by decide) ?_
    refine lv_aload_n hx hb dX3_writesNext_92 rfl (lv_at hl 1 rfl) ?_
    have hPc := hP.sub (ws' := (wwX3 q_pr q_rg q_bu q_ra q_rA q_rc q_rk q_pi q_po q_co q_wc q_wo q_ic q_ky q_ta q_tb k_ra k_rA k_rc k_rk k_po k_co k_wc k_wo k_ky pr_stuck pr_waits pr_interruptsBegun pr_kind pr_step pr_code pr_low pr_high pr_changed pr_missing rg_a rg_x rg_y rg_s rg_flags rg_p bu_port bu_latest pi_line pi_cycle pi_control pi_compareLine pi_ground pi_border pi_base pi_flag pi_enabled pi_idle pi_bad pi_glyphLine pi_rowToFetch ic_rows ic_keysSeen ic_flags ic_enabled ta_controlBits ta_control ta_count ta_latch tb_controlBits tb_control tb_count tb_latch f_ra f_rA f_rc f_rk f_po f_co f_wc f_wo f_ky)) [0, 1, 2, 3, 4, 5, 6, 7, 8, 9, 10, 11, 12, 13, 14, 15] rfl
    have hDc := hD.sub (ws' := (wwX3 q_pr q_rg q_bu q_ra q_rA q_rc q_rk q_pi q_po q_co q_wc q_wo q_ic q_ky q_ta q_tb k_ra k_rA k_rc k_rk k_po k_co k_wc k_wo k_ky pr_stuck pr_waits pr_interruptsBegun pr_kind pr_step pr_code pr_low pr_high pr_changed pr_missing rg_a rg_x rg_y rg_s rg_flags rg_p bu_port bu_latest pi_line pi_cycle pi_control pi_compareLine pi_ground pi_border pi_base pi_flag pi_enabled pi_idle pi_bad pi_glyphLine pi_rowToFetch ic_rows ic_keysSeen ic_flags ic_enabled ta_controlBits ta_control ta_count ta_latch tb_controlBits tb_control tb_count tb_latch f_ra f_rA f_rc f_rk f_po f_co f_wc f_wo f_ky)) [0, 1, 2, 3, 4, 5, 6, 7, 8, 9, 10, 11, 12, 13, 14, 15] (by decide) rfl
    have hKc := hK.sub (tys' := [(k_ra, .int), (k_rA, .int), (k_rc, .int), (k_rk, .int), (k_po, .int), (k_co, .int), (k_wc, .int), (k_wo, .int), (k_ky, .int)]) [0, 1, 2, 3, 4, 5, 6, 7, 8] rfl
    have hFc := va_free (wc := (wwX3 q_pr q_rg q_bu q_ra q_rA q_rc q_rk q_pi q_po q_co q_wc q_wo q_ic q_ky q_ta q_tb k_ra k_rA k_rc k_rk k_po k_co k_wc k_wo k_ky pr_stuck pr_waits pr_interruptsBegun pr_kind pr_step pr_code pr_low pr_high pr_changed pr_missing rg_a rg_x rg_y rg_s rg_flags rg_p bu_port bu_latest pi_line pi_cycle pi_control pi_compareLine pi_ground pi_border pi_base pi_flag pi_enabled pi_idle pi_bad pi_glyphLine pi_rowToFetch ic_rows ic_keysSeen ic_flags ic_enabled ta_controlBits ta_control ta_count ta_latch tb_controlBits tb_control tb_count tb_latch f_ra f_rA f_rc f_rk f_po f_co f_wc f_wo f_ky)) hD hS hA [0, 1, 2, 3, 4, 5, 6, 7, 8, 9, 10, 11, 12, 13, 14, 15] rfl
    refine va_calli (va_runV (As := []) (rest := []) ⟨hx, hb, hml, hown, hts⟩ (mX3_stores l dC dI q_pr q_rg q_bu q_ra q_rA q_rc q_rk q_pi q_po q_co q_wc q_wo q_ic q_ky q_ta q_tb k_ra k_rA k_rc k_rk k_po k_co k_wc k_wo k_ky s.heap.size pr_stuck pr_waits pr_interruptsBegun pr_kind pr_step pr_code pr_low pr_high pr_changed pr_missing rg_a rg_x rg_y rg_s rg_flags rg_p bu_port bu_latest pi_line pi_cycle pi_control pi_compareLine pi_ground pi_border pi_base pi_flag pi_enabled pi_idle pi_bad pi_glyphLine pi_rowToFetch ic_rows ic_keysSeen ic_flags ic_enabled ta_controlBits ta_control ta_count ta_latch tb_controlBits tb_control tb_count tb_latch f_ra f_rA f_rc f_rk f_po f_co f_wc f_wo f_ky) (cwV 0 hts (ub_V kMX3_116 kYX3_stores kSX3_stores kIX3 kBX3_stores) rfl rfl rfl (by decide +kernel) ⟨Nat.le_of_ble_eq_true rfl, Nat.le_of_ble_eq_true rfl⟩) ⟨fun a U g mk q => by obtain ⟨q0, q1, qP, qK, qD⟩ := q; exact ⟨q0, q1, qP, va_K.moved (u := U) (U := U.calling g mk a) (Vm.Alike.refl U.vm) qK, qD⟩, va_recv hKc hPc (ci := 3) (q0 := 0) rfl rfl, fun U hU hW => ⟨rfl, by rw [hU], by rw [hU]; exact hPc, va_K.moved hW.alike hKc, hDc.weaken (fun _ _ _ _ => trivial)⟩⟩ rfl rfl hl.1 rfl (lv_room (Nat.le_of_ble_eq_true rfl)) dX3_writesNext_93 ⟨(Nat.zero_le _), (Nat.zero_le _)⟩) hS (fun q _ h => hFc q h) hFc (fun r_93 u_93 t H locs ht hvm hw hB hz1 hk1 hS => ?_)
    obtain ⟨hP1, hK1, hD1⟩ := hB
    rw [ht] at hP1
    subst hw
    obtain ⟨hP, hD⟩ := vb_back (wc := (wwX3 q_pr q_rg q_bu q_ra q_rA q_rc q_rk q_pi q_po q_co q_wc q_wo q_ic q_ky q_ta q_tb k_ra k_rA k_rc k_rk k_po k_co k_wc k_wo k_ky pr_stuck pr_waits pr_interruptsBegun pr_kind pr_step pr_code pr_low pr_high pr_changed pr_missing rg_a rg_x rg_y rg_s rg_flags rg_p bu_port bu_latest pi_line pi_cycle pi_control pi_compareLine pi_ground pi_border pi_base pi_flag pi_enabled pi_idle pi_bad pi_glyphLine pi_rowToFetch ic_rows ic_keysSeen ic_flags ic_enabled ta_controlBits ta_control ta_count ta_latch tb_controlBits tb_control tb_count tb_latch f_ra f_rA f_rc f_rk f_po f_co f_wc f_wo f_ky)) (ws' := (wwX3 q_pr q_rg q_bu q_ra q_rA q_rc q_rk q_pi q_po q_co q_wc q_wo q_ic q_ky q_ta q_tb k_ra k_rA k_rc k_rk k_po k_co k_wc k_wo k_ky pr_stuck pr_waits pr_interruptsBegun pr_kind pr_step pr_code pr_low pr_high pr_changed pr_missing rg_a rg_x rg_y rg_s rg_flags rg_p bu_port bu_latest pi_line pi_cycle pi_control pi_compareLine pi_ground pi_border pi_base pi_flag pi_enabled pi_idle pi_bad pi_glyphLine pi_rowToFetch ic_rows ic_keysSeen ic_flags ic_enabled ta_controlBits ta_control ta_count ta_latch tb_controlBits tb_control tb_count tb_latch f_ra f_rA f_rc f_rk f_po f_co f_wc f_wo f_ky)) hP hD hD1 [0, 1, 2, 3, 4, 5, 6, 7, 8, 9, 10, 11, 12, 13, 14, 15] [] rfl rfl ae_n rfl rfl hk1 hP1
    refine vj_join (j := 109) (rest := []) (Hyp := fun z H locs => z = (if (fX3_stores pr_code) = (0:Int32) then (0:Int32) else (if (pr_step + (1:Int32)) = (3:Int32) then (1:Int32) else (0:Int32))) ∧ va_P (dC, dI) vwCl (wwX3 q_pr q_rg q_bu q_ra q_rA q_rc q_rk q_pi q_po q_co q_wc q_wo q_ic q_ky q_ta q_tb k_ra k_rA k_rc k_rk k_po k_co k_wc k_wo k_ky pr_stuck pr_waits pr_interruptsBegun pr_kind pr_step pr_code pr_low pr_high pr_changed pr_missing rg_a rg_x rg_y rg_s rg_flags rg_p bu_port bu_latest pi_line pi_cycle pi_control pi_compareLine pi_ground pi_border pi_base pi_flag pi_enabled pi_idle pi_bad pi_glyphLine pi_rowToFetch ic_rows ic_keysSeen ic_flags ic_enabled ta_controlBits ta_control ta_count ta_latch tb_controlBits tb_control tb_count tb_latch f_ra f_rA f_rc f_rk f_po f_co f_wc f_wo f_ky) H ∧ va_S A s.heap H locs) (fun z H locs hh => ?_) (fun J109 => ?_)
    · obtain ⟨hz, hP, hS⟩ := hh
      subst hz
      exact W.zret (v := (if (fX3_stores pr_code) = (0:Int32) then (0:Int32) else (if (pr_step + (1:Int32)) = (3:Int32) then (1:Int32) else (0:Int32)))) hx hb hr (nb_if rfl (nb_if rfl rfl)) (fun t ht hW => ⟨⟨(if (fX3_stores pr_code) = (0:Int32) then (0:Int32) else (if (pr_step + (1:Int32)) = (3:Int32) then (1:Int32) else (0:Int32))), (), rfl, hF.symm, by rw [ht]; exact hP, va_K.moved hW.alike hK, hD⟩, hS.F ht⟩) hS.2.2 dX3_writesNext_109
    · refine lv_if_eq (tgt := 108) hx hb dX3_writesNext_96 (by decide) (fun c_96 => ?_) (fun c_96 => ?_)
      · refine lv_iconst (v := 0) hx hb dX3_writesNext_108 (by decide) ?_
        exact J109 _ _ _ ⟨by rw [if_pos c_96], hP, hS⟩
      · refine lv_iload_n hx hb dX3_writesNext_99 rfl (lv_at hl 0 rfl) ?_
        refine lv_iconst (v := 3) hx hb dX3_writesNext_100 (by decide) ?_
        refine lv_icmp_ne (tgt := 108) hx hb dX3_writesNext_101 (by decide) (fun c_101 => ?_) (fun c_101 => ?_)
        · refine lv_iconst (v := 0) hx hb dX3_writesNext_108 (by decide) ?_
          exact J109 _ _ _ ⟨by rw [if_neg c_96, if_neg c_101], hP, hS⟩
        · refine lv_iconst (v := 1) hx hb dX3_writesNext_104 (by decide) ?_
          refine lv_goto (tgt := 109) hx hb dX3_writesNext_105 (by decide) ?_
          exact J109 _ _ _ ⟨by rw [if_neg c_96, if_pos c_101], hP, hS⟩
  have hF := hF.trans (if_neg c_11_5)
  by_cases c_11_6 : pr_kind = (6:Int32)
  · have hF := hF.trans (if_pos c_11_6)
    refine lv_tableIn (off := 99) (tgt := 110) hx hb dX3_writesNext_11 (by rw [c_11_6]; decide) (by rw [c_11_6]; decide) (by rw [c_11_6]; first | rfl | decide) (by decide) ?_
    refine lv_aload_n hx hb dX3_writesNext_110 rfl (lv_at hl 1 rfl) ?_
    have hPc := hP.sub (ws' := (wwX3 q_pr q_rg q_bu q_ra q_rA q_rc q_rk q_pi q_po q_co q_wc q_wo q_ic q_ky q_ta q_tb k_ra k_rA k_rc k_rk k_po k_co k_wc k_wo k_ky pr_stuck pr_waits pr_interruptsBegun pr_kind pr_step pr_code pr_low pr_high pr_changed pr_missing rg_a rg_x rg_y rg_s rg_flags rg_p bu_port bu_latest pi_line pi_cycle pi_control pi_compareLine pi_ground pi_border pi_base pi_flag pi_enabled pi_idle pi_bad pi_glyphLine pi_rowToFetch ic_rows ic_keysSeen ic_flags ic_enabled ta_controlBits ta_control ta_count ta_latch tb_controlBits tb_control tb_count tb_latch f_ra f_rA f_rc f_rk f_po f_co f_wc f_wo f_ky)) [0, 1, 2, 3, 4, 5, 6, 7, 8, 9, 10, 11, 12, 13, 14, 15] rfl
    have hDc := hD.sub (ws' := (wwX3 q_pr q_rg q_bu q_ra q_rA q_rc q_rk q_pi q_po q_co q_wc q_wo q_ic q_ky q_ta q_tb k_ra k_rA k_rc k_rk k_po k_co k_wc k_wo k_ky pr_stuck pr_waits pr_interruptsBegun pr_kind pr_step pr_code pr_low pr_high pr_changed pr_missing rg_a rg_x rg_y rg_s rg_flags rg_p bu_port bu_latest pi_line pi_cycle pi_control pi_compareLine pi_ground pi_border pi_base pi_flag pi_enabled pi_idle pi_bad pi_glyphLine pi_rowToFetch ic_rows ic_keysSeen ic_flags ic_enabled ta_controlBits ta_control ta_count ta_latch tb_controlBits tb_control tb_count tb_latch f_ra f_rA f_rc f_rk f_po f_co f_wc f_wo f_ky)) [0, 1, 2, 3, 4, 5, 6, 7, 8, 9, 10, 11, 12, 13, 14, 15] (by decide) rfl
    have hKc := hK.sub (tys' := [(k_ra, .int), (k_rA, .int), (k_rc, .int), (k_rk, .int), (k_po, .int), (k_co, .int), (k_wc, .int), (k_wo, .int), (k_ky, .int)]) [0, 1, 2, 3, 4, 5, 6, 7, 8] rfl
    have hFc := va_free (wc := (wwX3 q_pr q_rg q_bu q_ra q_rA q_rc q_rk q_pi q_po q_co q_wc q_wo q_ic q_ky q_ta q_tb k_ra k_rA k_rc k_rk k_po k_co k_wc k_wo k_ky pr_stuck pr_waits pr_interruptsBegun pr_kind pr_step pr_code pr_low pr_high pr_changed pr_missing rg_a rg_x rg_y rg_s rg_flags rg_p bu_port bu_latest pi_line pi_cycle pi_control pi_compareLine pi_ground pi_border pi_base pi_flag pi_enabled pi_idle pi_bad pi_glyphLine pi_rowToFetch ic_rows ic_keysSeen ic_flags ic_enabled ta_controlBits ta_control ta_count ta_latch tb_controlBits tb_control tb_count tb_latch f_ra f_rA f_rc f_rk f_po f_co f_wc f_wo f_ky)) hD hS hA [0, 1, 2, 3, 4, 5, 6, 7, 8, 9, 10, 11, 12, 13, 14, 15] rfl
    refine va_calli (va_runV (As := []) (rest := []) ⟨hx, hb, hml, hown, hts⟩ (mX3_stores l dC dI q_pr q_rg q_bu q_ra q_rA q_rc q_rk q_pi q_po q_co q_wc q_wo q_ic q_ky q_ta q_tb k_ra k_rA k_rc k_rk k_po k_co k_wc k_wo k_ky s.heap.size pr_stuck pr_waits pr_interruptsBegun pr_kind pr_step pr_code pr_low pr_high pr_changed pr_missing rg_a rg_x rg_y rg_s rg_flags rg_p bu_port bu_latest pi_line pi_cycle pi_control pi_compareLine pi_ground pi_border pi_base pi_flag pi_enabled pi_idle pi_bad pi_glyphLine pi_rowToFetch ic_rows ic_keysSeen ic_flags ic_enabled ta_controlBits ta_control ta_count ta_latch tb_controlBits tb_control tb_count tb_latch f_ra f_rA f_rc f_rk f_po f_co f_wc f_wo f_ky) (cwV 0 hts (ub_V kMX3_116 kYX3_stores kSX3_stores kIX3 kBX3_stores) rfl rfl rfl (by decide +kernel) ⟨Nat.le_of_ble_eq_true rfl, Nat.le_of_ble_eq_true rfl⟩) ⟨fun a U g mk q => by obtain ⟨q0, q1, qP, qK, qD⟩ := q; exact ⟨q0, q1, qP, va_K.moved (u := U) (U := U.calling g mk a) (Vm.Alike.refl U.vm) qK, qD⟩, va_recv hKc hPc (ci := 3) (q0 := 0) rfl rfl, fun U hU hW => ⟨rfl, by rw [hU], by rw [hU]; exact hPc, va_K.moved hW.alike hKc, hDc.weaken (fun _ _ _ _ => trivial)⟩⟩ rfl rfl hl.1 rfl (lv_room (Nat.le_of_ble_eq_true rfl)) dX3_writesNext_111 ⟨(Nat.zero_le _), (Nat.zero_le _)⟩) hS (fun q _ h => hFc q h) hFc (fun r_111 u_111 t H locs ht hvm hw hB hz1 hk1 hS => ?_)
    obtain ⟨hP1, hK1, hD1⟩ := hB
    rw [ht] at hP1
    subst hw
    obtain ⟨hP, hD⟩ := vb_back (wc := (wwX3 q_pr q_rg q_bu q_ra q_rA q_rc q_rk q_pi q_po q_co q_wc q_wo q_ic q_ky q_ta q_tb k_ra k_rA k_rc k_rk k_po k_co k_wc k_wo k_ky pr_stuck pr_waits pr_interruptsBegun pr_kind pr_step pr_code pr_low pr_high pr_changed pr_missing rg_a rg_x rg_y rg_s rg_flags rg_p bu_port bu_latest pi_line pi_cycle pi_control pi_compareLine pi_ground pi_border pi_base pi_flag pi_enabled pi_idle pi_bad pi_glyphLine pi_rowToFetch ic_rows ic_keysSeen ic_flags ic_enabled ta_controlBits ta_control ta_count ta_latch tb_controlBits tb_control tb_count tb_latch f_ra f_rA f_rc f_rk f_po f_co f_wc f_wo f_ky)) (ws' := (wwX3 q_pr q_rg q_bu q_ra q_rA q_rc q_rk q_pi q_po q_co q_wc q_wo q_ic q_ky q_ta q_tb k_ra k_rA k_rc k_rk k_po k_co k_wc k_wo k_ky pr_stuck pr_waits pr_interruptsBegun pr_kind pr_step pr_code pr_low pr_high pr_changed pr_missing rg_a rg_x rg_y rg_s rg_flags rg_p bu_port bu_latest pi_line pi_cycle pi_control pi_compareLine pi_ground pi_border pi_base pi_flag pi_enabled pi_idle pi_bad pi_glyphLine pi_rowToFetch ic_rows ic_keysSeen ic_flags ic_enabled ta_controlBits ta_control ta_count ta_latch tb_controlBits tb_control tb_count tb_latch f_ra f_rA f_rc f_rk f_po f_co f_wc f_wo f_ky)) hP hD hD1 [0, 1, 2, 3, 4, 5, 6, 7, 8, 9, 10, 11, 12, 13, 14, 15] [] rfl rfl ae_n rfl rfl hk1 hP1
    refine vj_join (j := 127) (rest := []) (Hyp := fun z H locs => z = (if (fX3_stores pr_code) = (0:Int32) then (0:Int32) else (if (pr_step + (1:Int32)) = (4:Int32) then (1:Int32) else (0:Int32))) ∧ va_P (dC, dI) vwCl (wwX3 q_pr q_rg q_bu q_ra q_rA q_rc q_rk q_pi q_po q_co q_wc q_wo q_ic q_ky q_ta q_tb k_ra k_rA k_rc k_rk k_po k_co k_wc k_wo k_ky pr_stuck pr_waits pr_interruptsBegun pr_kind pr_step pr_code pr_low pr_high pr_changed pr_missing rg_a rg_x rg_y rg_s rg_flags rg_p bu_port bu_latest pi_line pi_cycle pi_control pi_compareLine pi_ground pi_border pi_base pi_flag pi_enabled pi_idle pi_bad pi_glyphLine pi_rowToFetch ic_rows ic_keysSeen ic_flags ic_enabled ta_controlBits ta_control ta_count ta_latch tb_controlBits tb_control tb_count tb_latch f_ra f_rA f_rc f_rk f_po f_co f_wc f_wo f_ky) H ∧ va_S A s.heap H locs) (fun z H locs hh => ?_) (fun J127 => ?_)
    · obtain ⟨hz, hP, hS⟩ := hh
      subst hz
      exact W.zret (v := (if (fX3_stores pr_code) = (0:Int32) then (0:Int32) else (if (pr_step + (1:Int32)) = (4:Int32) then (1:Int32) else (0:Int32)))) hx hb hr (nb_if rfl (nb_if rfl rfl)) (fun t ht hW => ⟨⟨(if (fX3_stores pr_code) = (0:Int32) then (0:Int32) else (if (pr_step + (1:Int32)) = (4:Int32) then (1:Int32) else (0:Int32))), (), rfl, hF.symm, by rw [ht]; exact hP, va_K.moved hW.alike hK, hD⟩, hS.F ht⟩) hS.2.2 dX3_writesNext_127
    · refine lv_if_eq (tgt := 126) hx hb dX3_writesNext_114 (by decide) (fun c_114 => ?_) (fun c_114 => ?_)
      · refine lv_iconst (v := 0) hx hb dX3_writesNext_126 (by decide) ?_
        exact J127 _ _ _ ⟨by rw [if_pos c_114], hP, hS⟩
      · refine lv_iload_n hx hb dX3_writesNext_117 rfl (lv_at hl 0 rfl) ?_
        refine lv_iconst (v := 4) hx hb dX3_writesNext_118 (by decide) ?_
        refine lv_icmp_ne (tgt := 126) hx hb dX3_writesNext_119 (by decide) (fun c_119 => ?_) (fun c_119 => ?_)
        · refine lv_iconst (v := 0) hx hb dX3_writesNext_126 (by decide) ?_
          exact J127 _ _ _ ⟨by rw [if_neg c_114, if_neg c_119], hP, hS⟩
        · refine lv_iconst (v := 1) hx hb dX3_writesNext_122 (by decide) ?_
          refine lv_goto (tgt := 127) hx hb dX3_writesNext_123 (by decide) ?_
          exact J127 _ _ _ ⟨by rw [if_neg c_114, if_pos c_119], hP, hS⟩
  have hF := hF.trans (if_neg c_11_6)
  by_cases c_11_7 : pr_kind = (7:Int32)
  · have hF := hF.trans (if_pos c_11_7)
    refine lv_tableIn (off := 117) (tgt := 128) hx hb dX3_writesNext_11 (by rw [c_11_7]; decide) (by rw [c_11_7]; decide) (by rw [c_11_7]; first | rfl | decide) (by decide) ?_
    refine lv_aload_n hx hb dX3_writesNext_128 rfl (lv_at hl 1 rfl) ?_
    have hPc := hP.sub (ws' := (wwX3 q_pr q_rg q_bu q_ra q_rA q_rc q_rk q_pi q_po q_co q_wc q_wo q_ic q_ky q_ta q_tb k_ra k_rA k_rc k_rk k_po k_co k_wc k_wo k_ky pr_stuck pr_waits pr_interruptsBegun pr_kind pr_step pr_code pr_low pr_high pr_changed pr_missing rg_a rg_x rg_y rg_s rg_flags rg_p bu_port bu_latest pi_line pi_cycle pi_control pi_compareLine pi_ground pi_border pi_base pi_flag pi_enabled pi_idle pi_bad pi_glyphLine pi_rowToFetch ic_rows ic_keysSeen ic_flags ic_enabled ta_controlBits ta_control ta_count ta_latch tb_controlBits tb_control tb_count tb_latch f_ra f_rA f_rc f_rk f_po f_co f_wc f_wo f_ky)) [0, 1, 2, 3, 4, 5, 6, 7, 8, 9, 10, 11, 12, 13, 14, 15] rfl
    have hDc := hD.sub (ws' := (wwX3 q_pr q_rg q_bu q_ra q_rA q_rc q_rk q_pi q_po q_co q_wc q_wo q_ic q_ky q_ta q_tb k_ra k_rA k_rc k_rk k_po k_co k_wc k_wo k_ky pr_stuck pr_waits pr_interruptsBegun pr_kind pr_step pr_code pr_low pr_high pr_changed pr_missing rg_a rg_x rg_y rg_s rg_flags rg_p bu_port bu_latest pi_line pi_cycle pi_control pi_compareLine pi_ground pi_border pi_base pi_flag pi_enabled pi_idle pi_bad pi_glyphLine pi_rowToFetch ic_rows ic_keysSeen ic_flags ic_enabled ta_controlBits ta_control ta_count ta_latch tb_controlBits tb_control tb_count tb_latch f_ra f_rA f_rc f_rk f_po f_co f_wc f_wo f_ky)) [0, 1, 2, 3, 4, 5, 6, 7, 8, 9, 10, 11, 12, 13, 14, 15] (by decide) rfl
    have hKc := hK.sub (tys' := [(k_ra, .int), (k_rA, .int), (k_rc, .int), (k_rk, .int), (k_po, .int), (k_co, .int), (k_wc, .int), (k_wo, .int), (k_ky, .int)]) [0, 1, 2, 3, 4, 5, 6, 7, 8] rfl
    have hFc := va_free (wc := (wwX3 q_pr q_rg q_bu q_ra q_rA q_rc q_rk q_pi q_po q_co q_wc q_wo q_ic q_ky q_ta q_tb k_ra k_rA k_rc k_rk k_po k_co k_wc k_wo k_ky pr_stuck pr_waits pr_interruptsBegun pr_kind pr_step pr_code pr_low pr_high pr_changed pr_missing rg_a rg_x rg_y rg_s rg_flags rg_p bu_port bu_latest pi_line pi_cycle pi_control pi_compareLine pi_ground pi_border pi_base pi_flag pi_enabled pi_idle pi_bad pi_glyphLine pi_rowToFetch ic_rows ic_keysSeen ic_flags ic_enabled ta_controlBits ta_control ta_count ta_latch tb_controlBits tb_control tb_count tb_latch f_ra f_rA f_rc f_rk f_po f_co f_wc f_wo f_ky)) hD hS hA [0, 1, 2, 3, 4, 5, 6, 7, 8, 9, 10, 11, 12, 13, 14, 15] rfl
    refine va_calli (va_runV (As := []) (rest := []) ⟨hx, hb, hml, hown, hts⟩ (mX3_stores l dC dI q_pr q_rg q_bu q_ra q_rA q_rc q_rk q_pi q_po q_co q_wc q_wo q_ic q_ky q_ta q_tb k_ra k_rA k_rc k_rk k_po k_co k_wc k_wo k_ky s.heap.size pr_stuck pr_waits pr_interruptsBegun pr_kind pr_step pr_code pr_low pr_high pr_changed pr_missing rg_a rg_x rg_y rg_s rg_flags rg_p bu_port bu_latest pi_line pi_cycle pi_control pi_compareLine pi_ground pi_border pi_base pi_flag pi_enabled pi_idle pi_bad pi_glyphLine pi_rowToFetch ic_rows ic_keysSeen ic_flags ic_enabled ta_controlBits ta_control ta_count ta_latch tb_controlBits tb_control tb_count tb_latch f_ra f_rA f_rc f_rk f_po f_co f_wc f_wo f_ky) (cwV 0 hts (ub_V kMX3_116 kYX3_stores kSX3_stores kIX3 kBX3_stores) rfl rfl rfl (by decide +kernel) ⟨Nat.le_of_ble_eq_true rfl, Nat.le_of_ble_eq_true rfl⟩) ⟨fun a U g mk q => by obtain ⟨q0, q1, qP, qK, qD⟩ := q; exact ⟨q0, q1, qP, va_K.moved (u := U) (U := U.calling g mk a) (Vm.Alike.refl U.vm) qK, qD⟩, va_recv hKc hPc (ci := 3) (q0 := 0) rfl rfl, fun U hU hW => ⟨rfl, by rw [hU], by rw [hU]; exact hPc, va_K.moved hW.alike hKc, hDc.weaken (fun _ _ _ _ => trivial)⟩⟩ rfl rfl hl.1 rfl (lv_room (Nat.le_of_ble_eq_true rfl)) dX3_writesNext_129 ⟨(Nat.zero_le _), (Nat.zero_le _)⟩) hS (fun q _ h => hFc q h) hFc (fun r_129 u_129 t H locs ht hvm hw hB hz1 hk1 hS => ?_)
    obtain ⟨hP1, hK1, hD1⟩ := hB
    rw [ht] at hP1
    subst hw
    obtain ⟨hP, hD⟩ := vb_back (wc := (wwX3 q_pr q_rg q_bu q_ra q_rA q_rc q_rk q_pi q_po q_co q_wc q_wo q_ic q_ky q_ta q_tb k_ra k_rA k_rc k_rk k_po k_co k_wc k_wo k_ky pr_stuck pr_waits pr_interruptsBegun pr_kind pr_step pr_code pr_low pr_high pr_changed pr_missing rg_a rg_x rg_y rg_s rg_flags rg_p bu_port bu_latest pi_line pi_cycle pi_control pi_compareLine pi_ground pi_border pi_base pi_flag pi_enabled pi_idle pi_bad pi_glyphLine pi_rowToFetch ic_rows ic_keysSeen ic_flags ic_enabled ta_controlBits ta_control ta_count ta_latch tb_controlBits tb_control tb_count tb_latch f_ra f_rA f_rc f_rk f_po f_co f_wc f_wo f_ky)) (ws' := (wwX3 q_pr q_rg q_bu q_ra q_rA q_rc q_rk q_pi q_po q_co q_wc q_wo q_ic q_ky q_ta q_tb k_ra k_rA k_rc k_rk k_po k_co k_wc k_wo k_ky pr_stuck pr_waits pr_interruptsBegun pr_kind pr_step pr_code pr_low pr_high pr_changed pr_missing rg_a rg_x rg_y rg_s rg_flags rg_p bu_port bu_latest pi_line pi_cycle pi_control pi_compareLine pi_ground pi_border pi_base pi_flag pi_enabled pi_idle pi_bad pi_glyphLine pi_rowToFetch ic_rows ic_keysSeen ic_flags ic_enabled ta_controlBits ta_control ta_count ta_latch tb_controlBits tb_control tb_count tb_latch f_ra f_rA f_rc f_rk f_po f_co f_wc f_wo f_ky)) hP hD hD1 [0, 1, 2, 3, 4, 5, 6, 7, 8, 9, 10, 11, 12, 13, 14, 15] [] rfl rfl ae_n rfl rfl hk1 hP1
    refine vj_join (j := 145) (rest := []) (Hyp := fun z H locs => z = (if (fX3_stores pr_code) = (0:Int32) then (0:Int32) else (if (pr_step + (1:Int32)) = (5:Int32) then (1:Int32) else (0:Int32))) ∧ va_P (dC, dI) vwCl (wwX3 q_pr q_rg q_bu q_ra q_rA q_rc q_rk q_pi q_po q_co q_wc q_wo q_ic q_ky q_ta q_tb k_ra k_rA k_rc k_rk k_po k_co k_wc k_wo k_ky pr_stuck pr_waits pr_interruptsBegun pr_kind pr_step pr_code pr_low pr_high pr_changed pr_missing rg_a rg_x rg_y rg_s rg_flags rg_p bu_port bu_latest pi_line pi_cycle pi_control pi_compareLine pi_ground pi_border pi_base pi_flag pi_enabled pi_idle pi_bad pi_glyphLine pi_rowToFetch ic_rows ic_keysSeen ic_flags ic_enabled ta_controlBits ta_control ta_count ta_latch tb_controlBits tb_control tb_count tb_latch f_ra f_rA f_rc f_rk f_po f_co f_wc f_wo f_ky) H ∧ va_S A s.heap H locs) (fun z H locs hh => ?_) (fun J145 => ?_)
    · obtain ⟨hz, hP, hS⟩ := hh
      subst hz
      exact W.zret (v := (if (fX3_stores pr_code) = (0:Int32) then (0:Int32) else (if (pr_step + (1:Int32)) = (5:Int32) then (1:Int32) else (0:Int32)))) hx hb hr (nb_if rfl (nb_if rfl rfl)) (fun t ht hW => ⟨⟨(if (fX3_stores pr_code) = (0:Int32) then (0:Int32) else (if (pr_step + (1:Int32)) = (5:Int32) then (1:Int32) else (0:Int32))), (), rfl, hF.symm, by rw [ht]; exact hP, va_K.moved hW.alike hK, hD⟩, hS.F ht⟩) hS.2.2 dX3_writesNext_145
    · refine lv_if_eq (tgt := 144) hx hb dX3_writesNext_132 (by decide) (fun c_132 => ?_) (fun c_132 => ?_)
      · refine lv_iconst (v := 0) hx hb dX3_writesNext_144 (by decide) ?_
        exact J145 _ _ _ ⟨by rw [if_pos c_132], hP, hS⟩
      · refine lv_iload_n hx hb dX3_writesNext_135 rfl (lv_at hl 0 rfl) ?_
        refine lv_iconst (v := 5) hx hb dX3_writesNext_136 (by decide) ?_
        refine lv_icmp_ne (tgt := 144) hx hb dX3_writesNext_137 (by decide) (fun c_137 => ?_) (fun c_137 => ?_)
        · refine lv_iconst (v := 0) hx hb dX3_writesNext_144 (by decide) ?_
          exact J145 _ _ _ ⟨by rw [if_neg c_132, if_neg c_137], hP, hS⟩
        · refine lv_iconst (v := 1) hx hb dX3_writesNext_140 (by decide) ?_
          refine lv_goto (tgt := 145) hx hb dX3_writesNext_141 (by decide) ?_
          exact J145 _ _ _ ⟨by rw [if_neg c_132, if_pos c_137], hP, hS⟩
  have hF := hF.trans (if_neg c_11_7)
  by_cases c_11_8 : pr_kind = (8:Int32)
  · have hF := hF.trans (if_pos c_11_8)
    refine lv_tableIn (off := 135) (tgt := 146) hx hb dX3_writesNext_11 (by rw [c_11_8]; decide) (by rw [c_11_8]; decide) (by rw [c_11_8]; first | rfl | decide) (by decide) ?_
    refine lv_iload_n hx hb dX3_writesNext_146 rfl (lv_at hl 0 rfl) ?_
    refine lv_iconst (v := 4) hx hb dX3_writesNext_147 (by decide) ?_
    refine vj_join (j := 156) (rest := []) (Hyp := fun z H locs => z = (if (pr_step + (1:Int32)) < (4:Int32) then (0:Int32) else (1:Int32)) ∧ va_P (dC, dI) vwCl (wwX3 q_pr q_rg q_bu q_ra q_rA q_rc q_rk q_pi q_po q_co q_wc q_wo q_ic q_ky q_ta q_tb k_ra k_rA k_rc k_rk k_po k_co k_wc k_wo k_ky pr_stuck pr_waits pr_interruptsBegun pr_kind pr_step pr_code pr_low pr_high pr_changed pr_missing rg_a rg_x rg_y rg_s rg_flags rg_p bu_port bu_latest pi_line pi_cycle pi_control pi_compareLine pi_ground pi_border pi_base pi_flag pi_enabled pi_idle pi_bad pi_glyphLine pi_rowToFetch ic_rows ic_keysSeen ic_flags ic_enabled ta_controlBits ta_control ta_count ta_latch tb_controlBits tb_control tb_count tb_latch f_ra f_rA f_rc f_rk f_po f_co f_wc f_wo f_ky) H ∧ va_S A s.heap H locs) (fun z H locs hh => ?_) (fun J156 => ?_)
    · obtain ⟨hz, hP, hS⟩ := hh
      subst hz
      exact W.zret (v := (if (pr_step + (1:Int32)) < (4:Int32) then (0:Int32) else (1:Int32))) hx hb hr (nb_if rfl rfl) (fun t ht hW => ⟨⟨(if (pr_step + (1:Int32)) < (4:Int32) then (0:Int32) else (1:Int32)), (), rfl, hF.symm, by rw [ht]; exact hP, va_K.moved hW.alike hK, hD⟩, hS.F ht⟩) hS.2.2 dX3_writesNext_156
    · refine lv_icmp_lt (tgt := 155) hx hb dX3_writesNext_148 (by decide) (fun c_148 => ?_) (fun c_148 => ?_)
      · refine lv_iconst (v := 0) hx hb dX3_writesNext_155 (by decide) ?_
        exact J156 _ _ _ ⟨by rw [if_pos c_148], hP, hS⟩
      · refine lv_iconst (v := 1) hx hb dX3_writesNext_151 (by decide) ?_
        refine lv_goto (tgt := 156) hx hb dX3_writesNext_152 (by decide) ?_
        exact J156 _ _ _ ⟨by rw [if_neg c_148], hP, hS⟩
  have hF := hF.trans (if_neg c_11_8)
  by_cases c_11_11 : pr_kind = (11:Int32)
  · have hF := hF.trans (if_pos c_11_11)
    refine lv_tableIn (off := 146) (tgt := 157) hx hb dX3_writesNext_11 (by rw [c_11_11]; decide) (by rw [c_11_11]; decide) (by rw [c_11_11]; first | rfl | decide) (by decide) ?_
    refine lv_iload_n hx hb dX3_writesNext_157 rfl (lv_at hl 0 rfl) ?_
    refine lv_iconst (v := 4) hx hb dX3_writesNext_158 (by decide) ?_
    refine vj_join (j := 172) (rest := []) (Hyp := fun z H locs => z = (if (pr_step + (1:Int32)) = (4:Int32) then (1:Int32) else (if (pr_step + (1:Int32)) = (5:Int32) then (1:Int32) else (0:Int32))) ∧ va_P (dC, dI) vwCl (wwX3 q_pr q_rg q_bu q_ra q_rA q_rc q_rk q_pi q_po q_co q_wc q_wo q_ic q_ky q_ta q_tb k_ra k_rA k_rc k_rk k_po k_co k_wc k_wo k_ky pr_stuck pr_waits pr_interruptsBegun pr_kind pr_step pr_code pr_low pr_high pr_changed pr_missing rg_a rg_x rg_y rg_s rg_flags rg_p bu_port bu_latest pi_line pi_cycle pi_control pi_compareLine pi_ground pi_border pi_base pi_flag pi_enabled pi_idle pi_bad pi_glyphLine pi_rowToFetch ic_rows ic_keysSeen ic_flags ic_enabled ta_controlBits ta_control ta_count ta_latch tb_controlBits tb_control tb_count tb_latch f_ra f_rA f_rc f_rk f_po f_co f_wc f_wo f_ky) H ∧ va_S A s.heap H locs) (fun z H locs hh => ?_) (fun J172 => ?_)
    · obtain ⟨hz, hP, hS⟩ := hh
      subst hz
      exact W.zret (v := (if (pr_step + (1:Int32)) = (4:Int32) then (1:Int32) else (if (pr_step + (1:Int32)) = (5:Int32) then (1:Int32) else (0:Int32)))) hx hb hr (nb_if rfl (nb_if rfl rfl)) (fun t ht hW => ⟨⟨(if (pr_step + (1:Int32)) = (4:Int32) then (1:Int32) else (if (pr_step + (1:Int32)) = (5:Int32) then (1:Int32) else (0:Int32))), (), rfl, hF.symm, by rw [ht]; exact hP, va_K.moved hW.alike hK, hD⟩, hS.F ht⟩) hS.2.2 dX3_writesNext_172
    · refine lv_icmp_eq (tgt := 167) hx hb dX3_writesNext_159 (by decide) (fun c_159 => ?_) (fun c_159 => ?_)
      · refine lv_iconst (v := 1) hx hb dX3_writesNext_167 (by decide) ?_
        refine lv_goto (tgt := 172) hx hb dX3_writesNext_168 (by decide) ?_
        exact J172 _ _ _ ⟨by rw [if_pos c_159], hP, hS⟩
      · refine lv_iload_n hx hb dX3_writesNext_162 rfl (lv_at hl 0 rfl) ?_
        refine lv_iconst (v := 5) hx hb dX3_writesNext_163 (by decide) ?_
        refine lv_icmp_ne (tgt := 171) hx hb dX3_writesNext_164 (by decide) (fun c_164 => ?_) (fun c_164 => ?_)
        · refine lv_iconst (v := 0) hx hb dX3_writesNext_171 (by decide) ?_
          exact J172 _ _ _ ⟨by rw [if_neg c_159, if_neg c_164], hP, hS⟩
        · refine lv_iconst (v := 1) hx hb dX3_writesNext_167 (by decide) ?_
          refine lv_goto (tgt := 172) hx hb dX3_writesNext_168 (by decide) ?_
          exact J172 _ _ _ ⟨by rw [if_neg c_159, if_pos c_164], hP, hS⟩
  have hF := hF.trans (if_neg c_11_11)
  by_cases c_11_14 : pr_kind = (14:Int32)
  · have hF := hF.trans (if_pos c_11_14)
    refine lv_tableIn (off := 162) (tgt := 173) hx hb dX3_writesNext_11 (by rw [c_11_14]; decide) (by rw [c_11_14]; decide) (by rw [c_11_14]; first | rfl | decide) (by decide) ?_
    refine lv_iload_n hx hb dX3_writesNext_173 rfl (lv_at hl 0 rfl) ?_
    refine lv_iconst (v := 3) hx hb dX3_writesNext_174 (by decide) ?_
    refine vj_join (j := 183) (rest := []) (Hyp := fun z H locs => z = (if (pr_step + (1:Int32)) = (3:Int32) then (1:Int32) else (0:Int32)) ∧ va_P (dC, dI) vwCl (wwX3 q_pr q_rg q_bu q_ra q_rA q_rc q_rk q_pi q_po q_co q_wc q_wo q_ic q_ky q_ta q_tb k_ra k_rA k_rc k_rk k_po k_co k_wc k_wo k_ky pr_stuck pr_waits pr_interruptsBegun pr_kind pr_step pr_code pr_low pr_high pr_changed pr_missing rg_a rg_x rg_y rg_s rg_flags rg_p bu_port bu_latest pi_line pi_cycle pi_control pi_compareLine pi_ground pi_border pi_base pi_flag pi_enabled pi_idle pi_bad pi_glyphLine pi_rowToFetch ic_rows ic_keysSeen ic_flags ic_enabled ta_controlBits ta_control ta_count ta_latch tb_controlBits tb_control tb_count tb_latch f_ra f_rA f_rc f_rk f_po f_co f_wc f_wo f_ky) H ∧ va_S A s.heap H locs) (fun z H locs hh => ?_) (fun J183 => ?_)
    · obtain ⟨hz, hP, hS⟩ := hh
      subst hz
      exact W.zret (v := (if (pr_step + (1:Int32)) = (3:Int32) then (1:Int32) else (0:Int32))) hx hb hr (nb_if rfl rfl) (fun t ht hW => ⟨⟨(if (pr_step + (1:Int32)) = (3:Int32) then (1:Int32) else (0:Int32)), (), rfl, hF.symm, by rw [ht]; exact hP, va_K.moved hW.alike hK, hD⟩, hS.F ht⟩) hS.2.2 dX3_writesNext_183
    · refine lv_icmp_ne (tgt := 182) hx hb dX3_writesNext_175 (by decide) (fun c_175 => ?_) (fun c_175 => ?_)
      · refine lv_iconst (v := 0) hx hb dX3_writesNext_182 (by decide) ?_
        exact J183 _ _ _ ⟨by rw [if_neg c_175], hP, hS⟩
      · refine lv_iconst (v := 1) hx hb dX3_writesNext_178 (by decide) ?_
        refine lv_goto (tgt := 183) hx hb dX3_writesNext_179 (by decide) ?_
        exact J183 _ _ _ ⟨by rw [if_pos c_175], hP, hS⟩
  have hF := hF.trans (if_neg c_11_14)
  refine vt_dflt (tgt := 184) hx hb dX3_writesNext_11 (fun x_ h1 h2 h3 => by have n2 := lv_neT (a := 2) c_11_2 rfl; have n5 := lv_neT (a := 5) c_11_5 rfl; have n6 := lv_neT (a := 6) c_11_6 rfl; have n7 := lv_neT (a := 7) c_11_7 rfl; have n8 := lv_neT (a := 8) c_11_8 rfl; have n11 := lv_neT (a := 11) c_11_11 rfl; have n14 := lv_neT (a := 14) c_11_14 rfl; have h4 : x_ = 3 ∨ x_ = 4 ∨ x_ = 9 ∨ x_ = 10 ∨ x_ = 12 ∨ x_ = 13 := (by omega); rcases h4 with rfl | rfl | rfl | rfl | rfl | rfl <;> rfl) (by decide) ?_
  refine lv_iconst (v := 0) hx hb dX3_writesNext_184 (by decide) ?_
  exact W.zret (v := (0:Int32)) hx hb hr rfl (fun t ht hW => ⟨⟨(0:Int32), (), rfl, hF.symm, by rw [ht]; exact hP, va_K.moved hW.alike hK, hD⟩, hS.F ht⟩) hS.2.2 dX3_writesNext_185
def fX4_has (p1 : Int32) (rg_flags : Int32) : Int32 :=
  (if (rg_flags &&& p1) = (0:Int32) then (0:Int32) else (1:Int32))
set_option maxHeartbeats 4000000 in
set_option maxRecDepth 100000 in
theorem mX4_has (l : Launch) (dC : Nat → ClassId) (dI : Nat → Nat → Nat) (q_rg : Nat) (sz : Nat) (rg_a rg_x rg_y rg_s rg_flags rg_p : Int32) (p1 : Int32) : Met l yX4_has uX4_has ({ frames := 0, cells := 0, slots := 0, locals := 0 }) (va_Pc [.ref q_rg, .int p1] (fun U => U.heap.size = sz ∧ va_P (dC, dI) vwCl (wwX4 q_rg rg_a rg_x rg_y rg_s rg_flags rg_p) U.heap ∧ va_K (dC, dI) vwCl [] U ∧ va_D (fun _ => True) (wwX4 q_rg rg_a rg_x rg_y rg_s rg_flags rg_p))) (va_Qi (fun (r : Int32) (u : Unit) => r = fX4_has p1 rg_flags) (fun (u : Unit) (t : State) => va_P (dC, dI) vwCl (wwX4 q_rg rg_a rg_x rg_y rg_s rg_flags rg_p) t.heap ∧ va_K (dC, dI) vwCl [] t ∧ va_D (va_A (wwX4 q_rg rg_a rg_x rg_y rg_s rg_flags rg_p) sz) (wwX4 q_rg rg_a rg_x rg_y rg_s rg_flags rg_p)) (va_A (wwX4 q_rg rg_a rg_x rg_y rg_s rg_flags rg_p) sz)) 0 0 (va_A (wwX4 q_rg rg_a rg_x rg_y rg_s rg_flags rg_p) sz) := by
  refine Met.ofW (cc := cX4_has) (maxL := 2) (ret := (some .boolean)) (by decide) rfl ?_
  intro p e s m args below meth c s₁ B hml hv
  obtain ⟨rfl, hsz, hP, hK, hD0⟩ := hv
  have hx := B.exec
  have hb := B.bytes
  have hr := B.returns
  have hts : ∀ w ∈ ub, w.before _ s = true := fun w h => atoms_spec (ws := uX4_has) B.pre w (List.mem_cons_of_mem _ h)
  have hown : s.vm.findClass RX4 = some m.cls := findClass_of_methodNamed B.named
  have hlocks := B.notSynchronized
  subst hsz
  have hD := hD0.self (sz := s.heap.size)
  generalize hAe : va_A (wwX4 q_rg rg_a rg_x rg_y rg_s rg_flags rg_p) s.heap.size = A at hD ⊢
  have hA : ∀ q : Nat, s.heap.size ≤ q → A q := fun q h => by rw [← hAe]; exact Or.inr h
  have hS : va_S A s.heap s.heap [] := va_S.rf
  have hl := lv_entry ([.ref q_rg, .int p1]) (n := 2) (Nat.le_of_ble_eq_true rfl)
  rw [lg_entry_eq]
  generalize (lg_sl ([.ref q_rg, .int p1]) ++ List.replicate (2 - (lg_sl ([.ref q_rg, .int p1])).length) Slot.unset).toArray = ls at hl ⊢
  have hl : lv_has ls 2 [(0, .ref q_rg), (1, .int p1)] := hl
  have hF := fX4_has.eq_1 p1 rg_flags
  refine lv_aload_n hx hb dX4_has_0 rfl (lv_at hl 0 rfl) ?_
  refine va_get (D := (dC, dI)) (ci := 4) (v := .int rg_flags) (C := RX4) (T := TX4) (N := 6) hx hb hts hiX4 hown hK hP 0 rfl rfl 4 (by decide) (hts _ kFX4_13) (fun _ h9 => h9) rfl dX4_has_1 ?_
  refine lv_iload_n hx hb dX4_has_4 rfl (lv_at hl 1 rfl) ?_
  refine lv_iand hx hb dX4_has_5 ?_
  refine vj_join (j := 14) (rest := []) (Hyp := fun z H locs => z = (if (rg_flags &&& p1) = (0:Int32) then (0:Int32) else (1:Int32)) ∧ va_P (dC, dI) vwCl (wwX4 q_rg rg_a rg_x rg_y rg_s rg_flags rg_p) H ∧ va_S A s.heap H locs) (fun z H locs hh => ?_) (fun J14 => ?_)
  · obtain ⟨hz, hP, hS⟩ := hh
    subst hz
    exact W.zret (v := (if (rg_flags &&& p1) = (0:Int32) then (0:Int32) else (1:Int32))) hx hb hr (nb_if rfl rfl) (fun t ht hW => ⟨⟨(if (rg_flags &&& p1) = (0:Int32) then (0:Int32) else (1:Int32)), (), rfl, hF.symm, by rw [ht]; exact hP, va_K.moved hW.alike hK, hD⟩, hS.F ht⟩) hS.2.2 dX4_has_14
  · refine lv_if_eq (tgt := 13) hx hb dX4_has_6 (by decide) (fun c_6 => ?_) (fun c_6 => ?_)
    · refine lv_iconst (v := 0) hx hb dX4_has_13 (by decide) ?_
      exact J14 _ _ _ ⟨by rw [if_pos c_6], hP, hS⟩
    · refine lv_iconst (v := 1) hx hb dX4_has_9 (by decide) ?_
      refine lv_goto (tgt := 14) hx hb dX4_has_10 (by decide) ?_
      exact J14 _ _ _ ⟨by rw [if_neg c_6], hP, hS⟩
def fX3_nextByte (rg_p : Int32) (bu_port : Int32) (pi_line : Int32) (pi_control : Int32) (pi_ground : Int32) (pi_border : Int32) (pi_base : Int32) (pi_flag : Int32) (pi_enabled : Int32) (ic_rows : Int32) (ic_keysSeen : Int32) (ic_flags : Int32) (ic_enabled : Int32) (ta_control : Int32) (ta_count : Int32) (tb_control : Int32) (tb_count : Int32) (f_ra : Nat → Int32) (f_rA : Nat → Int32) (f_rc : Nat → Int32) (f_rk : Nat → Int32) (f_co : Nat → Int32) : Int32 × Int32 × Int32 × Int32 :=
  match (fX0_read rg_p bu_port pi_line pi_control pi_ground pi_border pi_base pi_flag pi_enabled ic_rows ic_keysSeen ic_flags ic_enabled ta_control ta_count tb_control tb_count f_ra f_rA f_rc f_rk f_co) with
  | (r_11, bu_latest_11, ic_flags_11) =>
   (r_11, ((rg_p + (1:Int32)) &&& (65535:Int32)), bu_latest_11, ic_flags_11)
set_option maxHeartbeats 4000000 in
set_option maxRecDepth 100000 in
theorem mX3_nextByte (l : Launch) (dC : Nat → ClassId) (dI : Nat → Nat → Nat) (q_pr q_rg q_bu q_ra q_rA q_rc q_rk q_pi q_po q_co q_wc q_wo q_ic q_ky q_ta q_tb : Nat) (k_ra k_rA k_rc k_rk k_po k_co k_wc k_wo k_ky : ClassId) (sz : Nat) (pr_stuck pr_waits pr_interruptsBegun pr_kind pr_step pr_code pr_low pr_high pr_changed pr_missing rg_a rg_x rg_y rg_s rg_flags rg_p bu_port bu_latest pi_line pi_cycle pi_control pi_compareLine pi_ground pi_border pi_base pi_flag pi_enabled pi_idle pi_bad pi_glyphLine pi_rowToFetch ic_rows ic_keysSeen ic_flags ic_enabled ta_controlBits ta_control ta_count ta_latch tb_controlBits tb_control tb_count tb_latch : Int32) (f_ra f_rA f_rc f_rk f_po f_co f_wc f_wo f_ky : Nat → Int32) : Met l yX3_nextByte uX3_nextByte ({ frames := 3, cells := 0, slots := 0, locals := 70 }) (va_Pc [.ref q_pr] (fun U => U.heap.size = sz ∧ va_P (dC, dI) vwCl (wwX3 q_pr q_rg q_bu q_ra q_rA q_rc q_rk q_pi q_po q_co q_wc q_wo q_ic q_ky q_ta q_tb k_ra k_rA k_rc k_rk k_po k_co k_wc k_wo k_ky pr_stuck pr_waits pr_interruptsBegun pr_kind pr_step pr_code pr_low pr_high pr_changed pr_missing rg_a rg_x rg_y rg_s rg_flags rg_p bu_port bu_latest pi_line pi_cycle pi_control pi_compareLine pi_ground pi_border pi_base pi_flag pi_enabled pi_idle pi_bad pi_glyphLine pi_rowToFetch ic_rows ic_keysSeen ic_flags ic_enabled ta_controlBits ta_control ta_count ta_latch tb_controlBits tb_control tb_count tb_latch f_ra f_rA f_rc f_rk f_po f_co f_wc f_wo f_ky) U.heap ∧ va_K (dC, dI) vwCl [(k_ra, .int), (k_rA, .int), (k_rc, .int), (k_rk, .int), (k_po, .int), (k_co, .int), (k_wc, .int), (k_wo, .int), (k_ky, .int)] U ∧ va_D (fun _ => True) (wwX3 q_pr q_rg q_bu q_ra q_rA q_rc q_rk q_pi q_po q_co q_wc q_wo q_ic q_ky q_ta q_tb k_ra k_rA k_rc k_rk k_po k_co k_wc k_wo k_ky pr_stuck pr_waits pr_interruptsBegun pr_kind pr_step pr_code pr_low pr_high pr_changed pr_missing rg_a rg_x rg_y rg_s rg_flags rg_p bu_port bu_latest pi_line pi_cycle pi_control pi_compareLine pi_ground pi_border pi_base pi_flag pi_enabled pi_idle pi_bad pi_glyphLine pi_rowToFetch ic_rows ic_keysSeen ic_flags ic_enabled ta_controlBits ta_control ta_count ta_latch tb_controlBits tb_control tb_count tb_latch f_ra f_rA f_rc f_rk f_po f_co f_wc f_wo f_ky))) (va_Qi (fun (r : Int32) (u : Int32 × Int32 × Int32) => (r, u) = fX3_nextByte rg_p bu_port pi_line pi_control pi_ground pi_border pi_base pi_flag pi_enabled ic_rows ic_keysSeen ic_flags ic_enabled ta_control ta_count tb_control tb_count f_ra f_rA f_rc f_rk f_co) (fun (u : Int32 × Int32 × Int32) (t : State) => va_P (dC, dI) vwCl (wwX3 q_pr q_rg q_bu q_ra q_rA q_rc q_rk q_pi q_po q_co q_wc q_wo q_ic q_ky q_ta q_tb k_ra k_rA k_rc k_rk k_po k_co k_wc k_wo k_ky pr_stuck pr_waits pr_interruptsBegun pr_kind pr_step pr_code pr_low pr_high pr_changed pr_missing rg_a rg_x rg_y rg_s rg_flags u.1 bu_port u.2.1 pi_line pi_cycle pi_control pi_compareLine pi_ground pi_border pi_base pi_flag pi_enabled pi_idle pi_bad pi_glyphLine pi_rowToFetch ic_rows ic_keysSeen u.2.2 ic_enabled ta_controlBits ta_control ta_count ta_latch tb_controlBits tb_control tb_count tb_latch f_ra f_rA f_rc f_rk f_po f_co f_wc f_wo f_ky) t.heap ∧ va_K (dC, dI) vwCl [(k_ra, .int), (k_rA, .int), (k_rc, .int), (k_rk, .int), (k_po, .int), (k_co, .int), (k_wc, .int), (k_wo, .int), (k_ky, .int)] t ∧ va_D (va_A (wwX3 q_pr q_rg q_bu q_ra q_rA q_rc q_rk q_pi q_po q_co q_wc q_wo q_ic q_ky q_ta q_tb k_ra k_rA k_rc k_rk k_po k_co k_wc k_wo k_ky pr_stuck pr_waits pr_interruptsBegun pr_kind pr_step pr_code pr_low pr_high pr_changed pr_missing rg_a rg_x rg_y rg_s rg_flags rg_p bu_port bu_latest pi_line pi_cycle pi_control pi_compareLine pi_ground pi_border pi_base pi_flag pi_enabled pi_idle pi_bad pi_glyphLine pi_rowToFetch ic_rows ic_keysSeen ic_flags ic_enabled ta_controlBits ta_control ta_count ta_latch tb_controlBits tb_control tb_count tb_latch f_ra f_rA f_rc f_rk f_po f_co f_wc f_wo f_ky) sz) (wwX3 q_pr q_rg q_bu q_ra q_rA q_rc q_rk q_pi q_po q_co q_wc q_wo q_ic q_ky q_ta q_tb k_ra k_rA k_rc k_rk k_po k_co k_wc k_wo k_ky pr_stuck pr_waits pr_interruptsBegun pr_kind pr_step pr_code pr_low pr_high pr_changed pr_missing rg_a rg_x rg_y rg_s rg_flags u.1 bu_port u.2.1 pi_line pi_cycle pi_control pi_compareLine pi_ground pi_border pi_base pi_flag pi_enabled pi_idle pi_bad pi_glyphLine pi_rowToFetch ic_rows ic_keysSeen u.2.2 ic_enabled ta_controlBits ta_control ta_count ta_latch tb_controlBits tb_control tb_count tb_latch f_ra f_rA f_rc f_rk f_po f_co f_wc f_wo f_ky)) (va_A (wwX3 q_pr q_rg q_bu q_ra q_rA q_rc q_rk q_pi q_po q_co q_wc q_wo q_ic q_ky q_ta q_tb k_ra k_rA k_rc k_rk k_po k_co k_wc k_wo k_ky pr_stuck pr_waits pr_interruptsBegun pr_kind pr_step pr_code pr_low pr_high pr_changed pr_missing rg_a rg_x rg_y rg_s rg_flags rg_p bu_port bu_latest pi_line pi_cycle pi_control pi_compareLine pi_ground pi_border pi_base pi_flag pi_enabled pi_idle pi_bad pi_glyphLine pi_rowToFetch ic_rows ic_keysSeen ic_flags ic_enabled ta_controlBits ta_control ta_count ta_latch tb_controlBits tb_control tb_count tb_latch f_ra f_rA f_rc f_rk f_po f_co f_wc f_wo f_ky) sz)) 0 0 (va_A (wwX3 q_pr q_rg q_bu q_ra q_rA q_rc q_rk q_pi q_po q_co q_wc q_wo q_ic q_ky q_ta q_tb k_ra k_rA k_rc k_rk k_po k_co k_wc k_wo k_ky pr_stuck pr_waits pr_interruptsBegun pr_kind pr_step pr_code pr_low pr_high pr_changed pr_missing rg_a rg_x rg_y rg_s rg_flags rg_p bu_port bu_latest pi_line pi_cycle pi_control pi_compareLine pi_ground pi_border pi_base pi_flag pi_enabled pi_idle pi_bad pi_glyphLine pi_rowToFetch ic_rows ic_keysSeen ic_flags ic_enabled ta_controlBits ta_control ta_count ta_latch tb_controlBits tb_control tb_count tb_latch f_ra f_rA f_rc f_rk f_po f_co f_wc f_wo f_ky) sz) := by
  refine Met.ofW (cc := cX3_nextByte) (maxL := 2) (ret := (some .int)) (by decide) rfl ?_
  intro p e s m args below meth c s₁ B hml hv
  obtain ⟨rfl, hsz, hP, hK, hD0⟩ := hv
  have hx := B.exec
  have hb := B.bytes
  have hr := B.returns
  have hts : ∀ w ∈ ub, w.before _ s = true := fun w h => atoms_spec (ws := uX3_nextByte) B.pre w (List.mem_cons_of_mem _ h)
  have hown : s.vm.findClass RX3 = some m.cls := findClass_of_methodNamed B.named
  have hlocks := B.notSynchronized
  subst hsz
  have hD := hD0.self (sz := s.heap.size)
  generalize hAe : va_A (wwX3 q_pr q_rg q_bu q_ra q_rA q_rc q_rk q_pi q_po q_co q_wc q_wo q_ic q_ky q_ta q_tb k_ra k_rA k_rc k_rk k_po k_co k_wc k_wo k_ky pr_stuck pr_waits pr_interruptsBegun pr_kind pr_step pr_code pr_low pr_high pr_changed pr_missing rg_a rg_x rg_y rg_s rg_flags rg_p bu_port bu_latest pi_line pi_cycle pi_control pi_compareLine pi_ground pi_border pi_base pi_flag pi_enabled pi_idle pi_bad pi_glyphLine pi_rowToFetch ic_rows ic_keysSeen ic_flags ic_enabled ta_controlBits ta_control ta_count ta_latch tb_controlBits tb_control tb_count tb_latch f_ra f_rA f_rc f_rk f_po f_co f_wc f_wo f_ky) s.heap.size = A at hD ⊢
  have hA : ∀ q : Nat, s.heap.size ≤ q → A q := fun q h => by rw [← hAe]; exact Or.inr h
  have hS : va_S A s.heap s.heap [] := va_S.rf
  have hl := lv_entry ([.ref q_pr]) (n := 2) (Nat.le_of_ble_eq_true rfl)
  rw [lg_entry_eq]
  generalize (lg_sl ([.ref q_pr]) ++ List.replicate (2 - (lg_sl ([.ref q_pr])).length) Slot.unset).toArray = ls at hl ⊢
  have hl : lv_has ls 2 [(0, .ref q_pr)] := hl
  have hF := fX3_nextByte.eq_1 rg_p bu_port pi_line pi_control pi_ground pi_border pi_base pi_flag pi_enabled ic_rows ic_keysSeen ic_flags ic_enabled ta_control ta_count tb_control tb_count f_ra f_rA f_rc f_rk f_co
  refine lv_aload_n hx hb dX3_nextByte_0 rfl (lv_at hl 0 rfl) ?_
  refine va_get (D := (dC, dI)) (ci := 3) (v := .ref q_bu) (C := RX3) (T := TX3) (N := 14) hx hb hts hiX3 hown hK hP 0 rfl rfl 4 (by decide) (hts _ kFX3_26) (fun _ h9 => h9) rfl dX3_nextByte_1 ?_
  refine lv_aload_n hx hb dX3_nextByte_4 rfl (lv_at hl 0 rfl) ?_
  refine va_get (D := (dC, dI)) (ci := 3) (v := .ref q_rg) (C := RX3) (T := TX3) (N := 14) hx hb hts hiX3 hown hK hP 0 rfl rfl 0 (by decide) (hts _ kFX3_12) (fun _ h9 => h9) rfl dX3_nextByte_5 ?_
  refine va_get (D := (dC, dI)) (ci := 4) (v := .int rg_p) (C := RX4) (T := TX4) (N := 6) hx hb hts hiX4 hown hK hP 1 rfl rfl 5 (by decide) (hts _ kFX3_122) (fun _ h9 => h9) rfl dX3_nextByte_8 ?_
  have hPc := hP.sub (ws' := (wwX0 q_bu q_ra q_rA q_rc q_rk q_pi q_po q_co q_wc q_wo q_ic q_ky q_ta q_tb k_ra k_rA k_rc k_rk k_po k_co k_wc k_wo k_ky bu_port bu_latest pi_line pi_cycle pi_control pi_compareLine pi_ground pi_border pi_base pi_flag pi_enabled pi_idle pi_bad pi_glyphLine pi_rowToFetch ic_rows ic_keysSeen ic_flags ic_enabled ta_controlBits ta_control ta_count ta_latch tb_controlBits tb_control tb_count tb_latch f_ra f_rA f_rc f_rk f_po f_co f_wc f_wo f_ky)) [2, 3, 4, 5, 6, 7, 8, 9, 10, 11, 12, 13, 14, 15] rfl
  have hDc := hD.sub (ws' := (wwX0 q_bu q_ra q_rA q_rc q_rk q_pi q_po q_co q_wc q_wo q_ic q_ky q_ta q_tb k_ra k_rA k_rc k_rk k_po k_co k_wc k_wo k_ky bu_port bu_latest pi_line pi_cycle pi_control pi_compareLine pi_ground pi_border pi_base pi_flag pi_enabled pi_idle pi_bad pi_glyphLine pi_rowToFetch ic_rows ic_keysSeen ic_flags ic_enabled ta_controlBits ta_control ta_count ta_latch tb_controlBits tb_control tb_count tb_latch f_ra f_rA f_rc f_rk f_po f_co f_wc f_wo f_ky)) [2, 3, 4, 5, 6, 7, 8, 9, 10, 11, 12, 13, 14, 15] (by decide) rfl
  have hKc := hK.sub (tys' := [(k_ra, .int), (k_rA, .int), (k_rc, .int), (k_rk, .int), (k_po, .int), (k_co, .int), (k_wc, .int), (k_wo, .int), (k_ky, .int)]) [0, 1, 2, 3, 4, 5, 6, 7, 8] rfl
  have hFc := va_free (wc := (wwX0 q_bu q_ra q_rA q_rc q_rk q_pi q_po q_co q_wc q_wo q_ic q_ky q_ta q_tb k_ra k_rA k_rc k_rk k_po k_co k_wc k_wo k_ky bu_port bu_latest pi_line pi_cycle pi_control pi_compareLine pi_ground pi_border pi_base pi_flag pi_enabled pi_idle pi_bad pi_glyphLine pi_rowToFetch ic_rows ic_keysSeen ic_flags ic_enabled ta_controlBits ta_control ta_count ta_latch tb_controlBits tb_control tb_count tb_latch f_ra f_rA f_rc f_rk f_po f_co f_wc f_wo f_ky)) hD hS hA [2, 3, 4, 5, 6, 7, 8, 9, 10, 11, 12, 13, 14, 15] rfl
  refine va_calli (va_runV (As := [.int rg_p]) (rest := []) ⟨hx, hb, hml, hown, hts⟩ (mX0_read l dC dI q_bu q_ra q_rA q_rc q_rk q_pi q_po q_co q_wc q_wo q_ic q_ky q_ta q_tb k_ra k_rA k_rc k_rk k_po k_co k_wc k_wo k_ky s.heap.size bu_port bu_latest pi_line pi_cycle pi_control pi_compareLine pi_ground pi_border pi_base pi_flag pi_enabled pi_idle pi_bad pi_glyphLine pi_rowToFetch ic_rows ic_keysSeen ic_flags ic_enabled ta_controlBits ta_control ta_count ta_latch tb_controlBits tb_control tb_count tb_latch f_ra f_rA f_rc f_rk f_po f_co f_wc f_wo f_ky rg_p) (cwV 1 hts (ub_V kMX3_125 kYX0_read kSX0_read kIX0 kBX0_read) rfl rfl rfl (by decide +kernel) ⟨Nat.le_of_ble_eq_true rfl, Nat.le_of_ble_eq_true rfl⟩) ⟨fun a U g mk q => by obtain ⟨q0, q1, qP, qK, qD⟩ := q; exact ⟨q0, q1, qP, va_K.moved (u := U) (U := U.calling g mk a) (Vm.Alike.refl U.vm) qK, qD⟩, va_recv hKc hPc (ci := 0) (q0 := 0) rfl rfl, fun U hU hW => ⟨rfl, by rw [hU], by rw [hU]; exact hPc, va_K.moved hW.alike hKc, hDc.weaken (fun _ _ _ _ => trivial)⟩⟩ rfl rfl hl.1 rfl (lv_room (Nat.le_of_ble_eq_true rfl)) dX3_nextByte_11 ⟨(Nat.zero_le _), (Nat.zero_le _)⟩) hS (fun q _ h => hFc q h) hFc (fun r_11 u_11 t H locs ht hvm hw hB hz1 hk1 hS => ?_)
  obtain ⟨bu_latest_11, ic_flags_11⟩ := u_11
  obtain ⟨hP1, hK1, hD1⟩ := hB
  rw [ht] at hP1
  obtain ⟨hP, hD⟩ := vb_back (wc := (wwX0 q_bu q_ra q_rA q_rc q_rk q_pi q_po q_co q_wc q_wo q_ic q_ky q_ta q_tb k_ra k_rA k_rc k_rk k_po k_co k_wc k_wo k_ky bu_port bu_latest pi_line pi_cycle pi_control pi_compareLine pi_ground pi_border pi_base pi_flag pi_enabled pi_idle pi_bad pi_glyphLine pi_rowToFetch ic_rows ic_keysSeen ic_flags ic_enabled ta_controlBits ta_control ta_count ta_latch tb_controlBits tb_control tb_count tb_latch f_ra f_rA f_rc f_rk f_po f_co f_wc f_wo f_ky)) (ws' := (wwX3 q_pr q_rg q_bu q_ra q_rA q_rc q_rk q_pi q_po q_co q_wc q_wo q_ic q_ky q_ta q_tb k_ra k_rA k_rc k_rk k_po k_co k_wc k_wo k_ky pr_stuck pr_waits pr_interruptsBegun pr_kind pr_step pr_code pr_low pr_high pr_changed pr_missing rg_a rg_x rg_y rg_s rg_flags rg_p bu_port bu_latest_11 pi_line pi_cycle pi_control pi_compareLine pi_ground pi_border pi_base pi_flag pi_enabled pi_idle pi_bad pi_glyphLine pi_rowToFetch ic_rows ic_keysSeen ic_flags_11 ic_enabled ta_controlBits ta_control ta_count ta_latch tb_controlBits tb_control tb_count tb_latch f_ra f_rA f_rc f_rk f_po f_co f_wc f_wo f_ky)) hP hD hD1 [2, 3, 4, 5, 6, 7, 8, 9, 10, 11, 12, 13, 14, 15] [0, 1] rfl rfl (ae_c rfl (ae_c rfl ae_n)) rfl rfl hk1 hP1
  rw [← hw] at hF
  dsimp only at hF
  refine lv_istore_n (lv' := [(1, .int r_11), (0, .ref q_pr)]) hx hb dX3_nextByte_14 rfl hl (by decide) rfl (fun ls hl => ?_)
  refine lv_aload_n hx hb dX3_nextByte_15 rfl (lv_at hl 1 rfl) ?_
  refine va_get (D := (dC, dI)) (ci := 3) (v := .ref q_rg) (C := RX3) (T := TX3) (N := 14) hx hb hts hiX3 hown hK hP 0 rfl rfl 0 (by decide) (hts _ kFX3_12) (fun _ h9 => h9) rfl dX3_nextByte_16 ?_
  refine lv_aload_n hx hb dX3_nextByte_19 rfl (lv_at hl 1 rfl) ?_
  refine va_get (D := (dC, dI)) (ci := 3) (v := .ref q_rg) (C := RX3) (T := TX3) (N := 14) hx hb hts hiX3 hown hK hP 0 rfl rfl 0 (by decide) (hts _ kFX3_12) (fun _ h9 => h9) rfl dX3_nextByte_20 ?_
  refine va_get (D := (dC, dI)) (ci := 4) (v := .int rg_p) (C := RX4) (T := TX4) (N := 6) hx hb hts hiX4 hown hK hP 1 rfl rfl 5 (by decide) (hts _ kFX3_122) (fun _ h9 => h9) rfl dX3_nextByte_23 ?_
  refine lv_iconst (v := 1) hx hb dX3_nextByte_26 (by decide) ?_
  refine lv_iadd hx hb dX3_nextByte_27 ?_
  refine lv_ldc (v := 65535) hx hb hown (hts _ kKX3_128) dX3_nextByte_28 ?_
  refine lv_iand hx hb dX3_nextByte_30 ?_
  refine va_put (D := (dC, dI)) (ci := 4) (v := .int ((rg_p + (1:Int32)) &&& (65535:Int32))) (ty := .int) (C := RX4) (T := TX4) (N := 6) hx hb hts hiX4 tyX4 tyX4_ok nmX4 hown hK hP hD hS 1 rfl rfl 5 (by decide) (hts _ kFX3_122) (fun _ h9 => h9) rfl (by decide +kernel) rfl rfl (Nat.le_of_ble_eq_true rfl) dX3_nextByte_31 (fun H locs hP hD hS => ?_)
  have hP : va_P (dC, dI) vwCl (wwX3 q_pr q_rg q_bu q_ra q_rA q_rc q_rk q_pi q_po q_co q_wc q_wo q_ic q_ky q_ta q_tb k_ra k_rA k_rc k_rk k_po k_co k_wc k_wo k_ky pr_stuck pr_waits pr_interruptsBegun pr_kind pr_step pr_code pr_low pr_high pr_changed pr_missing rg_a rg_x rg_y rg_s rg_flags ((rg_p + (1:Int32)) &&& (65535:Int32)) bu_port bu_latest_11 pi_line pi_cycle pi_control pi_compareLine pi_ground pi_border pi_base pi_flag pi_enabled pi_idle pi_bad pi_glyphLine pi_rowToFetch ic_rows ic_keysSeen ic_flags_11 ic_enabled ta_controlBits ta_control ta_count ta_latch tb_controlBits tb_control tb_count tb_latch f_ra f_rA f_rc f_rk f_po f_co f_wc f_wo f_ky) H := hP
  have hD : va_D A (wwX3 q_pr q_rg q_bu q_ra q_rA q_rc q_rk q_pi q_po q_co q_wc q_wo q_ic q_ky q_ta q_tb k_ra k_rA k_rc k_rk k_po k_co k_wc k_wo k_ky pr_stuck pr_waits pr_interruptsBegun pr_kind pr_step pr_code pr_low pr_high pr_changed pr_missing rg_a rg_x rg_y rg_s rg_flags ((rg_p + (1:Int32)) &&& (65535:Int32)) bu_port bu_latest_11 pi_line pi_cycle pi_control pi_compareLine pi_ground pi_border pi_base pi_flag pi_enabled pi_idle pi_bad pi_glyphLine pi_rowToFetch ic_rows ic_keysSeen ic_flags_11 ic_enabled ta_controlBits ta_control ta_count ta_latch tb_controlBits tb_control tb_count tb_latch f_ra f_rA f_rc f_rk f_po f_co f_wc f_wo f_ky) := hD
  refine lv_iload_n hx hb dX3_nextByte_34 rfl (lv_at hl 0 rfl) ?_
  exact W.iret (v := r_11) hx hb hr (fun t ht hW => ⟨⟨r_11, (((rg_p + (1:Int32)) &&& (65535:Int32)), bu_latest_11, ic_flags_11), rfl, hF.symm, by rw [ht]; exact hP, va_K.moved hW.alike hK, hD⟩, hS.F ht⟩) hS.2.2 dX3_nextByte_35
def fX3_arithmeticKindOf (p1 : Int32) : Int32 :=
  if (p1 &&& (3:Int32)) = (1:Int32) then
   if ((p1 >>> ((2:Int32) &&& (31:Int32))) &&& (7:Int32)) = (1:Int32) then
    (5:Int32)
   else
    if ((p1 >>> ((2:Int32) &&& (31:Int32))) &&& (7:Int32)) = (2:Int32) then
     (if (p1 >>> ((5:Int32) &&& (31:Int32))) = (4:Int32) then (1:Int32) else (4:Int32))
    else
     if ((p1 >>> ((2:Int32) &&& (31:Int32))) &&& (7:Int32)) = (3:Int32) then
      (6:Int32)
     else
      if ((p1 >>> ((2:Int32) &&& (31:Int32))) &&& (7:Int32)) = (7:Int32) then
       (7:Int32)
      else
       (1:Int32)
  else
   (1:Int32)
set_option maxHeartbeats 4000000 in
set_option maxRecDepth 100000 in
theorem mX3_arithmeticKindOf (l : Launch) (dC : Nat → ClassId) (dI : Nat → Nat → Nat) (sz : Nat) (p1 : Int32) : Met l yX3_arithmeticKindOf uX3_arithmeticKindOf ({ frames := 0, cells := 0, slots := 0, locals := 0 }) (va_Pc [.int p1] (fun U => U.heap.size = sz ∧ va_P (dC, dI) vwCl ([] : va_W) U.heap ∧ va_K (dC, dI) vwCl [] U ∧ va_D (fun _ => True) ([] : va_W))) (va_Qi (fun (r : Int32) (u : Unit) => r = fX3_arithmeticKindOf p1) (fun (u : Unit) (t : State) => va_P (dC, dI) vwCl ([] : va_W) t.heap ∧ va_K (dC, dI) vwCl [] t ∧ va_D (va_A ([] : va_W) sz) ([] : va_W)) (va_A ([] : va_W) sz)) 0 0 (va_A ([] : va_W) sz) := by
  refine Met.ofW (cc := cX3_arithmeticKindOf) (maxL := 1) (ret := (some .int)) (by decide) rfl ?_
  intro p e s m args below meth c s₁ B hml hv
  obtain ⟨rfl, hsz, hP, hK, hD0⟩ := hv
  have hx := B.exec
  have hb := B.bytes
  have hr := B.returns
  have hts : ∀ w ∈ ub, w.before _ s = true := fun w h => atoms_spec (ws := uX3_arithmeticKindOf) B.pre w (List.mem_cons_of_mem _ h)
  have hown : s.vm.findClass RX3 = some m.cls := findClass_of_methodNamed B.named
  have hlocks := B.notSynchronized
  subst hsz
  have hD := hD0.self (sz := s.heap.size)
  generalize hAe : va_A ([] : va_W) s.heap.size = A at hD ⊢
  have hA : ∀ q : Nat, s.heap.size ≤ q → A q := fun q h => by rw [← hAe]; exact Or.inr h
  have hS : va_S A s.heap s.heap [] := va_S.rf
  have hl := lv_entry ([.int p1]) (n := 1) (Nat.le_of_ble_eq_true rfl)
  rw [lg_entry_eq]
  generalize (lg_sl ([.int p1]) ++ List.replicate (1 - (lg_sl ([.int p1])).length) Slot.unset).toArray = ls at hl ⊢
  have hl : lv_has ls 1 [(0, .int p1)] := hl
  have hF := fX3_arithmeticKindOf.eq_1 p1
  refine lv_iload_n hx hb dX3_arithmeticKindOf_0 rfl (lv_at hl 0 rfl) ?_
  refine lv_iconst (v := 3) hx hb dX3_arithmeticKindOf_1 (by decide) ?_
  refine lv_iand hx hb dX3_arithmeticKindOf_2 ?_
  refine lv_iconst (v := 1) hx hb dX3_arithmeticKindOf_3 (by decide) ?_
  refine lv_icmp_eq (tgt := 9) hx hb dX3_arithmeticKindOf_4 (by decide) (fun c_4 => ?_) (fun c_4 => ?_)
  · have hF := hF.trans (if_pos c_4)
    refine lv_iload_n hx hb dX3_arithmeticKindOf_9 rfl (lv_at hl 0 rfl) ?_
    refine lv_iconst (v := 2) hx hb dX3_arithmeticKindOf_10 (by decide) ?_
    refine lv_ishr hx hb dX3_arithmeticKindOf_11 ?_
    refine lv_bipush (v := 7) hx hb dX3_arithmeticKindOf_12 (by decide) ?_
    refine lv_iand hx hb dX3_arithmeticKindOf_14 ?_
    by_cases c_15_1 : ((p1 >>> ((2:Int32) &&& (31:Int32))) &&& (7:Int32)) = (1:Int32)
    · have hF := hF.trans (if_pos c_15_1)
      refine lv_tableIn (off := 41) (tgt := 56) hx hb dX3_arithmeticKindOf_15 (by rw [c_15_1]; decide) (by rw [c_15_1]; decide) (by rw [c_15_1]; first | rfl | decide) (by decide) ?_
      refine lv_iconst (v := 5) hx hb dX3_arithmeticKindOf_56 (by decide) ?_
      exact W.iret (v := (5:Int32)) hx hb hr (fun t ht hW => ⟨⟨(5:Int32), (), rfl, hF.symm, by rw [ht]; exact hP, va_K.moved hW.alike hK, hD⟩, hS.F ht⟩) hS.2.2 dX3_arithmeticKindOf_57
    have hF := hF.trans (if_neg c_15_1)
    by_cases c_15_2 : ((p1 >>> ((2:Int32) &&& (31:Int32))) &&& (7:Int32)) = (2:Int32)
    · have hF := hF.trans (if_pos c_15_2)
      refine lv_tableIn (off := 43) (tgt := 58) hx hb dX3_arithmeticKindOf_15 (by rw [c_15_2]; decide) (by rw [c_15_2]; decide) (by rw [c_15_2]; first | rfl | decide) (by decide) ?_
      refine lv_iload_n hx hb dX3_arithmeticKindOf_58 rfl (lv_at hl 0 rfl) ?_
      refine lv_iconst (v := 5) hx hb dX3_arithmeticKindOf_59 (by decide) ?_
      refine lv_ishr hx hb dX3_arithmeticKindOf_60 ?_
      refine lv_iconst (v := 4) hx hb dX3_arithmeticKindOf_61 (by decide) ?_
      refine vj_join (j := 70) (rest := []) (Hyp := fun z H locs => z = (if (p1 >>> ((5:Int32) &&& (31:Int32))) = (4:Int32) then (1:Int32) else (4:Int32)) ∧ va_P (dC, dI) vwCl ([] : va_W) H ∧ va_S A s.heap H locs) (fun z H locs hh => ?_) (fun J70 => ?_)
      · obtain ⟨hz, hP, hS⟩ := hh
        subst hz
        exact W.iret (v := (if (p1 >>> ((5:Int32) &&& (31:Int32))) = (4:Int32) then (1:Int32) else (4:Int32))) hx hb hr (fun t ht hW => ⟨⟨(if (p1 >>> ((5:Int32) &&& (31:Int32))) = (4:Int32) then (1:Int32) else (4:Int32)), (), rfl, hF.symm, by rw [ht]; exact hP, va_K.moved hW.alike hK, hD⟩, hS.F ht⟩) hS.2.2 dX3_arithmeticKindOf_70
      · refine lv_icmp_ne (tgt := 69) hx hb dX3_arithmeticKindOf_62 (by decide) (fun c_62 => ?_) (fun c_62 => ?_)
        · refine lv_iconst (v := 4) hx hb dX3_arithmeticKindOf_69 (by decide) ?_
          exact J70 _ _ _ ⟨by rw [if_neg c_62], hP, hS⟩
        · refine lv_iconst (v := 1) hx hb dX3_arithmeticKindOf_65 (by decide) ?_
          refine lv_goto (tgt := 70) hx hb dX3_arithmeticKindOf_66 (by decide) ?_
          exact J70 _ _ _ ⟨by rw [if_pos c_62], hP, hS⟩
    have hF := hF.trans (if_neg c_15_2)
    by_cases c_15_3 : ((p1 >>> ((2:Int32) &&& (31:Int32))) &&& (7:Int32)) = (3:Int32)
    · have hF := hF.trans (if_pos c_15_3)
      refine lv_tableIn (off := 56) (tgt := 71) hx hb dX3_arithmeticKindOf_15 (by rw [c_15_3]; decide) (by rw [c_15_3]; decide) (by rw [c_15_3]; first | rfl | decide) (by decide) ?_
      refine lv_bipush (v := 6) hx hb dX3_arithmeticKindOf_71 (by decide) ?_
      exact W.iret (v := (6:Int32)) hx hb hr (fun t ht hW => ⟨⟨(6:Int32), (), rfl, hF.symm, by rw [ht]; exact hP, va_K.moved hW.alike hK, hD⟩, hS.F ht⟩) hS.2.2 dX3_arithmeticKindOf_73
    have hF := hF.trans (if_neg c_15_3)
    by_cases c_15_7 : ((p1 >>> ((2:Int32) &&& (31:Int32))) &&& (7:Int32)) = (7:Int32)
    · have hF := hF.trans (if_pos c_15_7)
      refine lv_tableIn (off := 59) (tgt := 74) hx hb dX3_arithmeticKindOf_15 (by rw [c_15_7]; decide) (by rw [c_15_7]; decide) (by rw [c_15_7]; first | rfl | decide) (by decide) ?_
      refine lv_bipush (v := 7) hx hb dX3_arithmeticKindOf_74 (by decide) ?_
      exact W.iret (v := (7:Int32)) hx hb hr (fun t ht hW => ⟨⟨(7:Int32), (), rfl, hF.symm, by rw [ht]; exact hP, va_K.moved hW.alike hK, hD⟩, hS.F ht⟩) hS.2.2 dX3_arithmeticKindOf_76
    have hF := hF.trans (if_neg c_15_7)
    refine vt_dflt (tgt := 77) hx hb dX3_arithmeticKindOf_15 (fun x_ h1 h2 h3 => by have n1 := lv_neT (a := 1) c_15_1 rfl; have n2 := lv_neT (a := 2) c_15_2 rfl; have n3 := lv_neT (a := 3) c_15_3 rfl; have n7 := lv_neT (a := 7) c_15_7 rfl; have h4 : x_ = 4 ∨ x_ = 5 ∨ x_ = 6 := (by omega); rcases h4 with rfl | rfl | rfl <;> rfl) (by decide) ?_
    refine lv_iconst (v := 1) hx hb dX3_arithmeticKindOf_77 (by decide) ?_
    exact W.iret (v := (1:Int32)) hx hb hr (fun t ht hW => ⟨⟨(1:Int32), (), rfl, hF.symm, by rw [ht]; exact hP, va_K.moved hW.alike hK, hD⟩, hS.F ht⟩) hS.2.2 dX3_arithmeticKindOf_78
  · have hF := hF.trans (if_neg c_4)
    refine lv_iconst (v := 1) hx hb dX3_arithmeticKindOf_7 (by decide) ?_
    exact W.iret (v := (1:Int32)) hx hb hr (fun t ht hW => ⟨⟨(1:Int32), (), rfl, hF.symm, by rw [ht]; exact hP, va_K.moved hW.alike hK, hD⟩, hS.F ht⟩) hS.2.2 dX3_arithmeticKindOf_8
def fX3_kindOf (p1 : Int32) : Int32 :=
  if p1 = (10:Int32) then
   (3:Int32)
  else
   if p1 = (16:Int32) then
    (9:Int32)
   else
    if p1 = (24:Int32) then
     (3:Int32)
    else
     if p1 = (32:Int32) then
      (11:Int32)
     else
      if p1 = (48:Int32) then
       (9:Int32)
      else
       if p1 = (56:Int32) then
        (3:Int32)
       else
        if p1 = (64:Int32) then
         (13:Int32)
        else
         if p1 = (72:Int32) then
          (14:Int32)
         else
          if p1 = (74:Int32) then
           (3:Int32)
          else
           if p1 = (76:Int32) then
            (10:Int32)
           else
            if p1 = (80:Int32) then
             (9:Int32)
            else
             if p1 = (88:Int32) then
              (3:Int32)
             else
              if p1 = (96:Int32) then
               (12:Int32)
              else
               if p1 = (104:Int32) then
                (15:Int32)
               else
                if p1 = (112:Int32) then
                 (9:Int32)
                else
                 if p1 = (120:Int32) then
                  (3:Int32)
                 else
                  if p1 = (132:Int32) then
                   (5:Int32)
                  else
                   if p1 = (134:Int32) then
                    (5:Int32)
                   else
                    if p1 = (136:Int32) then
                     (3:Int32)
                    else
                     if p1 = (138:Int32) then
                      (3:Int32)
                     else
                      if p1 = (144:Int32) then
                       (9:Int32)
                      else
                       if p1 = (152:Int32) then
                        (3:Int32)
                       else
                        if p1 = (160:Int32) then
                         (4:Int32)
                        else
                         if p1 = (162:Int32) then
                          (4:Int32)
                         else
                          if p1 = (168:Int32) then
                           (3:Int32)
                          else
                           if p1 = (170:Int32) then
                            (3:Int32)
                           else
                            if p1 = (176:Int32) then
                             (9:Int32)
                            else
                             if p1 = (192:Int32) then
                              (4:Int32)
                             else
                              if p1 = (198:Int32) then
                               (8:Int32)
                              else
                               if p1 = (200:Int32) then
                                (3:Int32)
                               else
                                if p1 = (202:Int32) then
                                 (3:Int32)
                                else
                                 if p1 = (208:Int32) then
                                  (9:Int32)
                                 else
                                  if p1 = (216:Int32) then
                                   (3:Int32)
                                  else
                                   if p1 = (224:Int32) then
                                    (4:Int32)
                                   else
                                    if p1 = (230:Int32) then
                                     (8:Int32)
                                    else
                                     if p1 = (232:Int32) then
                                      (3:Int32)
                                     else
                                      if p1 = (234:Int32) then
                                       (3:Int32)
                                      else
                                       if p1 = (240:Int32) then
                                        (9:Int32)
                                       else
                                        if p1 = (248:Int32) then
                                         (3:Int32)
                                        else
                                         (fX3_arithmeticKindOf p1)
set_option maxHeartbeats 4000000 in
set_option maxRecDepth 100000 in
theorem mX3_kindOf (l : Launch) (dC : Nat → ClassId) (dI : Nat → Nat → Nat) (sz : Nat) (p1 : Int32) : Met l yX3_kindOf uX3_kindOf ({ frames := 1, cells := 0, slots := 0, locals := 20 }) (va_Pc [.int p1] (fun U => U.heap.size = sz ∧ va_P (dC, dI) vwCl ([] : va_W) U.heap ∧ va_K (dC, dI) vwCl [] U ∧ va_D (fun _ => True) ([] : va_W))) (va_Qi (fun (r : Int32) (u : Unit) => r = fX3_kindOf p1) (fun (u : Unit) (t : State) => va_P (dC, dI) vwCl ([] : va_W) t.heap ∧ va_K (dC, dI) vwCl [] t ∧ va_D (va_A ([] : va_W) sz) ([] : va_W)) (va_A ([] : va_W) sz)) 0 0 (va_A ([] : va_W) sz) := by
  refine Met.ofW (cc := cX3_kindOf) (maxL := 1) (ret := (some .int)) (by decide) rfl ?_
  intro p e s m args below meth c s₁ B hml hv
  obtain ⟨rfl, hsz, hP, hK, hD0⟩ := hv
  have hx := B.exec
  have hb := B.bytes
  have hr := B.returns
  have hts : ∀ w ∈ ub, w.before _ s = true := fun w h => atoms_spec (ws := uX3_kindOf) B.pre w (List.mem_cons_of_mem _ h)
  have hown : s.vm.findClass RX3 = some m.cls := findClass_of_methodNamed B.named
  have hlocks := B.notSynchronized
  subst hsz
  have hD := hD0.self (sz := s.heap.size)
  generalize hAe : va_A ([] : va_W) s.heap.size = A at hD ⊢
  have hA : ∀ q : Nat, s.heap.size ≤ q → A q := fun q h => by rw [← hAe]; exact Or.inr h
  have hS : va_S A s.heap s.heap [] := va_S.rf
  have hl := lv_entry ([.int p1]) (n := 1) (Nat.le_of_ble_eq_true rfl)
  rw [lg_entry_eq]
  generalize (lg_sl ([.int p1]) ++ List.replicate (1 - (lg_sl ([.int p1])).length) Slot.unset).toArray = ls at hl ⊢
  have hl : lv_has ls 1 [(0, .int p1)] := hl
  have hF := fX3_kindOf.eq_1 p1
  refine lv_iload_n hx hb dX3_kindOf_0 rfl (lv_at hl 0 rfl) ?_
  by_cases c_1_10 : p1 = (10:Int32)
  · have hF := hF.trans (if_pos c_1_10)
    refine lv_lookup (off := 351) (tgt := 352) hx hb dX3_kindOf_1 (by decide) (by rw [c_1_10]; first | rfl | decide) (by decide) ?_
    refine lv_iconst (v := 3) hx hb dX3_kindOf_352 (by decide) ?_
    exact W.iret (v := (3:Int32)) hx hb hr (fun t ht hW => ⟨⟨(3:Int32), (), rfl, hF.symm, by rw [ht]; exact hP, va_K.moved hW.alike hK, hD⟩, hS.F ht⟩) hS.2.2 dX3_kindOf_353
  have hF := hF.trans (if_neg c_1_10)
  by_cases c_1_16 : p1 = (16:Int32)
  · have hF := hF.trans (if_pos c_1_16)
    refine lv_lookup (off := 330) (tgt := 331) hx hb dX3_kindOf_1 (by decide) (by rw [c_1_16]; first | rfl | decide) (by decide) ?_
    refine lv_bipush (v := 9) hx hb dX3_kindOf_331 (by decide) ?_
    exact W.iret (v := (9:Int32)) hx hb hr (fun t ht hW => ⟨⟨(9:Int32), (), rfl, hF.symm, by rw [ht]; exact hP, va_K.moved hW.alike hK, hD⟩, hS.F ht⟩) hS.2.2 dX3_kindOf_333
  have hF := hF.trans (if_neg c_1_16)
  by_cases c_1_24 : p1 = (24:Int32)
  · have hF := hF.trans (if_pos c_1_24)
    refine lv_lookup (off := 351) (tgt := 352) hx hb dX3_kindOf_1 (by decide) (by rw [c_1_24]; first | rfl | decide) (by decide) ?_
    refine lv_iconst (v := 3) hx hb dX3_kindOf_352 (by decide) ?_
    exact W.iret (v := (3:Int32)) hx hb hr (fun t ht hW => ⟨⟨(3:Int32), (), rfl, hF.symm, by rw [ht]; exact hP, va_K.moved hW.alike hK, hD⟩, hS.F ht⟩) hS.2.2 dX3_kindOf_353
  have hF := hF.trans (if_neg c_1_24)
  by_cases c_1_32 : p1 = (32:Int32)
  · have hF := hF.trans (if_pos c_1_32)
    refine lv_lookup (off := 336) (tgt := 337) hx hb dX3_kindOf_1 (by decide) (by rw [c_1_32]; first | rfl | decide) (by decide) ?_
    refine lv_bipush (v := 11) hx hb dX3_kindOf_337 (by decide) ?_
    exact W.iret (v := (11:Int32)) hx hb hr (fun t ht hW => ⟨⟨(11:Int32), (), rfl, hF.symm, by rw [ht]; exact hP, va_K.moved hW.alike hK, hD⟩, hS.F ht⟩) hS.2.2 dX3_kindOf_339
  have hF := hF.trans (if_neg c_1_32)
  by_cases c_1_48 : p1 = (48:Int32)
  · have hF := hF.trans (if_pos c_1_48)
    refine lv_lookup (off := 330) (tgt := 331) hx hb dX3_kindOf_1 (by decide) (by rw [c_1_48]; first | rfl | decide) (by decide) ?_
    refine lv_bipush (v := 9) hx hb dX3_kindOf_331 (by decide) ?_
    exact W.iret (v := (9:Int32)) hx hb hr (fun t ht hW => ⟨⟨(9:Int32), (), rfl, hF.symm, by rw [ht]; exact hP, va_K.moved hW.alike hK, hD⟩, hS.F ht⟩) hS.2.2 dX3_kindOf_333
  have hF := hF.trans (if_neg c_1_48)
  by_cases c_1_56 : p1 = (56:Int32)
  · have hF := hF.trans (if_pos c_1_56)
    refine lv_lookup (off := 351) (tgt := 352) hx hb dX3_kindOf_1 (by decide) (by rw [c_1_56]; first | rfl | decide) (by decide) ?_
    refine lv_iconst (v := 3) hx hb dX3_kindOf_352 (by decide) ?_
    exact W.iret (v := (3:Int32)) hx hb hr (fun t ht hW => ⟨⟨(3:Int32), (), rfl, hF.symm, by rw [ht]; exact hP, va_K.moved hW.alike hK, hD⟩, hS.F ht⟩) hS.2.2 dX3_kindOf_353
  have hF := hF.trans (if_neg c_1_56)
  by_cases c_1_64 : p1 = (64:Int32)
  · have hF := hF.trans (if_pos c_1_64)
    refine lv_lookup (off := 342) (tgt := 343) hx hb dX3_kindOf_1 (by decide) (by rw [c_1_64]; first | rfl | decide) (by decide) ?_
    refine lv_bipush (v := 13) hx hb dX3_kindOf_343 (by decide) ?_
    exact W.iret (v := (13:Int32)) hx hb hr (fun t ht hW => ⟨⟨(13:Int32), (), rfl, hF.symm, by rw [ht]; exact hP, va_K.moved hW.alike hK, hD⟩, hS.F ht⟩) hS.2.2 dX3_kindOf_345
  have hF := hF.trans (if_neg c_1_64)
  by_cases c_1_72 : p1 = (72:Int32)
  · have hF := hF.trans (if_pos c_1_72)
    refine lv_lookup (off := 345) (tgt := 346) hx hb dX3_kindOf_1 (by decide) (by rw [c_1_72]; first | rfl | decide) (by decide) ?_
    refine lv_bipush (v := 14) hx hb dX3_kindOf_346 (by decide) ?_
    exact W.iret (v := (14:Int32)) hx hb hr (fun t ht hW => ⟨⟨(14:Int32), (), rfl, hF.symm, by rw [ht]; exact hP, va_K.moved hW.alike hK, hD⟩, hS.F ht⟩) hS.2.2 dX3_kindOf_348
  have hF := hF.trans (if_neg c_1_72)
  by_cases c_1_74 : p1 = (74:Int32)
  · have hF := hF.trans (if_pos c_1_74)
    refine lv_lookup (off := 351) (tgt := 352) hx hb dX3_kindOf_1 (by decide) (by rw [c_1_74]; first | rfl | decide) (by decide) ?_
    refine lv_iconst (v := 3) hx hb dX3_kindOf_352 (by decide) ?_
    exact W.iret (v := (3:Int32)) hx hb hr (fun t ht hW => ⟨⟨(3:Int32), (), rfl, hF.symm, by rw [ht]; exact hP, va_K.moved hW.alike hK, hD⟩, hS.F ht⟩) hS.2.2 dX3_kindOf_353
  have hF := hF.trans (if_neg c_1_74)
  by_cases c_1_76 : p1 = (76:Int32)
  · have hF := hF.trans (if_pos c_1_76)
    refine lv_lookup (off := 333) (tgt := 334) hx hb dX3_kindOf_1 (by decide) (by rw [c_1_76]; first | rfl | decide) (by decide) ?_
    refine lv_bipush (v := 10) hx hb dX3_kindOf_334 (by decide) ?_
    exact W.iret (v := (10:Int32)) hx hb hr (fun t ht hW => ⟨⟨(10:Int32), (), rfl, hF.symm, by rw [ht]; exact hP, va_K.moved hW.alike hK, hD⟩, hS.F ht⟩) hS.2.2 dX3_kindOf_336
  have hF := hF.trans (if_neg c_1_76)
  by_cases c_1_80 : p1 = (80:Int32)
  · have hF := hF.trans (if_pos c_1_80)
    refine lv_lookup (off := 330) (tgt := 331) hx hb dX3_kindOf_1 (by decide) (by rw [c_1_80]; first | rfl | decide) (by decide) ?_
    refine lv_bipush (v := 9) hx hb dX3_kindOf_331 (by decide) ?_
    exact W.iret (v := (9:Int32)) hx hb hr (fun t ht hW => ⟨⟨(9:Int32), (), rfl, hF.symm, by rw [ht]; exact hP, va_K.moved hW.alike hK, hD⟩, hS.F ht⟩) hS.2.2 dX3_kindOf_333
  have hF := hF.trans (if_neg c_1_80)
  by_cases c_1_88 : p1 = (88:Int32)
  · have hF := hF.trans (if_pos c_1_88)
    refine lv_lookup (off := 351) (tgt := 352) hx hb dX3_kindOf_1 (by decide) (by rw [c_1_88]; first | rfl | decide) (by decide) ?_
    refine lv_iconst (v := 3) hx hb dX3_kindOf_352 (by decide) ?_
    exact W.iret (v := (3:Int32)) hx hb hr (fun t ht hW => ⟨⟨(3:Int32), (), rfl, hF.symm, by rw [ht]; exact hP, va_K.moved hW.alike hK, hD⟩, hS.F ht⟩) hS.2.2 dX3_kindOf_353
  have hF := hF.trans (if_neg c_1_88)
  by_cases c_1_96 : p1 = (96:Int32)
  · have hF := hF.trans (if_pos c_1_96)
    refine lv_lookup (off := 339) (tgt := 340) hx hb dX3_kindOf_1 (by decide) (by rw [c_1_96]; first | rfl | decide) (by decide) ?_
    refine lv_bipush (v := 12) hx hb dX3_kindOf_340 (by decide) ?_
    exact W.iret (v := (12:Int32)) hx hb hr (fun t ht hW => ⟨⟨(12:Int32), (), rfl, hF.symm, by rw [ht]; exact hP, va_K.moved hW.alike hK, hD⟩, hS.F ht⟩) hS.2.2 dX3_kindOf_342
  have hF := hF.trans (if_neg c_1_96)
  by_cases c_1_104 : p1 = (104:Int32)
  · have hF := hF.trans (if_pos c_1_104)
    refine lv_lookup (off := 348) (tgt := 349) hx hb dX3_kindOf_1 (by decide) (by rw [c_1_104]; first | rfl | decide) (by decide) ?_
    refine lv_bipush (v := 15) hx hb dX3_kindOf_349 (by decide) ?_
    exact W.iret (v := (15:Int32)) hx hb hr (fun t ht hW => ⟨⟨(15:Int32), (), rfl, hF.symm, by rw [ht]; exact hP, va_K.moved hW.alike hK, hD⟩, hS.F ht⟩) hS.2.2 dX3_kindOf_351
  have hF := hF.trans (if_neg c_1_104)
  by_cases c_1_112 : p1 = (112:Int32)
  · have hF := hF.trans (if_pos c_1_112)
    refine lv_lookup (off := 330) (tgt := 331) hx hb dX3_kindOf_1 (by decide) (by rw [c_1_112]; first | rfl | decide) (by decide) ?_
    refine lv_bipush (v := 9) hx hb dX3_kindOf_331 (by decide) ?_
    exact W.iret (v := (9:Int32)) hx hb hr (fun t ht hW => ⟨⟨(9:Int32), (), rfl, hF.symm, by rw [ht]; exact hP, va_K.moved hW.alike hK, hD⟩, hS.F ht⟩) hS.2.2 dX3_kindOf_333
  have hF := hF.trans (if_neg c_1_112)
  by_cases c_1_120 : p1 = (120:Int32)
  · have hF := hF.trans (if_pos c_1_120)
    refine lv_lookup (off := 351) (tgt := 352) hx hb dX3_kindOf_1 (by decide) (by rw [c_1_120]; first | rfl | decide) (by decide) ?_
    refine lv_iconst (v := 3) hx hb dX3_kindOf_352 (by decide) ?_
    exact W.iret (v := (3:Int32)) hx hb hr (fun t ht hW => ⟨⟨(3:Int32), (), rfl, hF.symm, by rw [ht]; exact hP, va_K.moved hW.alike hK, hD⟩, hS.F ht⟩) hS.2.2 dX3_kindOf_353
  have hF := hF.trans (if_neg c_1_120)
  by_cases c_1_132 : p1 = (132:Int32)
  · have hF := hF.trans (if_pos c_1_132)
    refine lv_lookup (off := 325) (tgt := 326) hx hb dX3_kindOf_1 (by decide) (by rw [c_1_132]; first | rfl | decide) (by decide) ?_
    refine lv_iconst (v := 5) hx hb dX3_kindOf_326 (by decide) ?_
    exact W.iret (v := (5:Int32)) hx hb hr (fun t ht hW => ⟨⟨(5:Int32), (), rfl, hF.symm, by rw [ht]; exact hP, va_K.moved hW.alike hK, hD⟩, hS.F ht⟩) hS.2.2 dX3_kindOf_327
  have hF := hF.trans (if_neg c_1_132)
  by_cases c_1_134 : p1 = (134:Int32)
  · have hF := hF.trans (if_pos c_1_134)
    refine lv_lookup (off := 325) (tgt := 326) hx hb dX3_kindOf_1 (by decide) (by rw [c_1_134]; first | rfl | decide) (by decide) ?_
    refine lv_iconst (v := 5) hx hb dX3_kindOf_326 (by decide) ?_
    exact W.iret (v := (5:Int32)) hx hb hr (fun t ht hW => ⟨⟨(5:Int32), (), rfl, hF.symm, by rw [ht]; exact hP, va_K.moved hW.alike hK, hD⟩, hS.F ht⟩) hS.2.2 dX3_kindOf_327
  have hF := hF.trans (if_neg c_1_134)
  by_cases c_1_136 : p1 = (136:Int32)
  · have hF := hF.trans (if_pos c_1_136)
    refine lv_lookup (off := 351) (tgt := 352) hx hb dX3_kindOf_1 (by decide) (by rw [c_1_136]; first | rfl | decide) (by decide) ?_
    refine lv_iconst (v := 3) hx hb dX3_kindOf_352 (by decide) ?_
    exact W.iret (v := (3:Int32)) hx hb hr (fun t ht hW => ⟨⟨(3:Int32), (), rfl, hF.symm, by rw [ht]; exact hP, va_K.moved hW.alike hK, hD⟩, hS.F ht⟩) hS.2.2 dX3_kindOf_353
  have hF := hF.trans (if_neg c_1_136)
  by_cases c_1_138 : p1 = (138:Int32)
  · have hF := hF.trans (if_pos c_1_138)
    refine lv_lookup (off := 351) (tgt := 352) hx hb dX3_kindOf_1 (by decide) (by rw [c_1_138]; first | rfl | decide) (by decide) ?_
    refine lv_iconst (v := 3) hx hb dX3_kindOf_352 (by decide) ?_
    exact W.iret (v := (3:Int32)) hx hb hr (fun t ht hW => ⟨⟨(3:Int32), (), rfl, hF.symm, by rw [ht]; exact hP, va_K.moved hW.alike hK, hD⟩, hS.F ht⟩) hS.2.2 dX3_kindOf_353
  have hF := hF.trans (if_neg c_1_138)
  by_cases c_1_144 : p1 = (144:Int32)
  · have hF := hF.trans (if_pos c_1_144)
    refine lv_lookup (off := 330) (tgt := 331) hx hb dX3_kindOf_1 (by decide) (by rw [c_1_144]; first | rfl | decide) (by decide) ?_
    refine lv_bipush (v := 9) hx hb dX3_kindOf_331 (by decide) ?_
    exact W.iret (v := (9:Int32)) hx hb hr (fun t ht hW => ⟨⟨(9:Int32), (), rfl, hF.symm, by rw [ht]; exact hP, va_K.moved hW.alike hK, hD⟩, hS.F ht⟩) hS.2.2 dX3_kindOf_333
  have hF := hF.trans (if_neg c_1_144)
  by_cases c_1_152 : p1 = (152:Int32)
  · have hF := hF.trans (if_pos c_1_152)
    refine lv_lookup (off := 351) (tgt := 352) hx hb dX3_kindOf_1 (by decide) (by rw [c_1_152]; first | rfl | decide) (by decide) ?_
    refine lv_iconst (v := 3) hx hb dX3_kindOf_352 (by decide) ?_
    exact W.iret (v := (3:Int32)) hx hb hr (fun t ht hW => ⟨⟨(3:Int32), (), rfl, hF.symm, by rw [ht]; exact hP, va_K.moved hW.alike hK, hD⟩, hS.F ht⟩) hS.2.2 dX3_kindOf_353
  have hF := hF.trans (if_neg c_1_152)
  by_cases c_1_160 : p1 = (160:Int32)
  · have hF := hF.trans (if_pos c_1_160)
    refine lv_lookup (off := 323) (tgt := 324) hx hb dX3_kindOf_1 (by decide) (by rw [c_1_160]; first | rfl | decide) (by decide) ?_
    refine lv_iconst (v := 4) hx hb dX3_kindOf_324 (by decide) ?_
    exact W.iret (v := (4:Int32)) hx hb hr (fun t ht hW => ⟨⟨(4:Int32), (), rfl, hF.symm, by rw [ht]; exact hP, va_K.moved hW.alike hK, hD⟩, hS.F ht⟩) hS.2.2 dX3_kindOf_325
  have hF := hF.trans (if_neg c_1_160)
  by_cases c_1_162 : p1 = (162:Int32)
  · have hF := hF.trans (if_pos c_1_162)
    refine lv_lookup (off := 323) (tgt := 324) hx hb dX3_kindOf_1 (by decide) (by rw [c_1_162]; first | rfl | decide) (by decide) ?_
    refine lv_iconst (v := 4) hx hb dX3_kindOf_324 (by decide) ?_
    exact W.iret (v := (4:Int32)) hx hb hr (fun t ht hW => ⟨⟨(4:Int32), (), rfl, hF.symm, by rw [ht]; exact hP, va_K.moved hW.alike hK, hD⟩, hS.F ht⟩) hS.2.2 dX3_kindOf_325
  have hF := hF.trans (if_neg c_1_162)
  by_cases c_1_168 : p1 = (168:Int32)
  · have hF := hF.trans (if_pos c_1_168)
    refine lv_lookup (off := 351) (tgt := 352) hx hb dX3_kindOf_1 (by decide) (by rw [c_1_168]; first | rfl | decide) (by decide) ?_
    refine lv_iconst (v := 3) hx hb dX3_kindOf_352 (by decide) ?_
    exact W.iret (v := (3:Int32)) hx hb hr (fun t ht hW => ⟨⟨(3:Int32), (), rfl, hF.symm, by rw [ht]; exact hP, va_K.moved hW.alike hK, hD⟩, hS.F ht⟩) hS.2.2 dX3_kindOf_353
  have hF := hF.trans (if_neg c_1_168)
  by_cases c_1_170 : p1 = (170:Int32)
  · have hF := hF.trans (if_pos c_1_170)
    refine lv_lookup (off := 351) (tgt := 352) hx hb dX3_kindOf_1 (by decide) (by rw [c_1_170]; first | rfl | decide) (by decide) ?_
    refine lv_iconst (v := 3) hx hb dX3_kindOf_352 (by decide) ?_
    exact W.iret (v := (3:Int32)) hx hb hr (fun t ht hW => ⟨⟨(3:Int32), (), rfl, hF.symm, by rw [ht]; exact hP, va_K.moved hW.alike hK, hD⟩, hS.F ht⟩) hS.2.2 dX3_kindOf_353
  have hF := hF.trans (if_neg c_1_170)
  by_cases c_1_176 : p1 = (176:Int32)
  · have hF := hF.trans (if_pos c_1_176)
    refine lv_lookup (off := 330) (tgt := 331) hx hb dX3_kindOf_1 (by decide) (by rw [c_1_176]; first | rfl | decide) (by decide) ?_
    refine lv_bipush (v := 9) hx hb dX3_kindOf_331 (by decide) ?_
    exact W.iret (v := (9:Int32)) hx hb hr (fun t ht hW => ⟨⟨(9:Int32), (), rfl, hF.symm, by rw [ht]; exact hP, va_K.moved hW.alike hK, hD⟩, hS.F ht⟩) hS.2.2 dX3_kindOf_333
  have hF := hF.trans (if_neg c_1_176)
  by_cases c_1_192 : p1 = (192:Int32)
  · have hF := hF.trans (if_pos c_1_192)
    refine lv_lookup (off := 323) (tgt := 324) hx hb dX3_kindOf_1 (by decide) (by rw [c_1_192]; first | rfl | decide) (by decide) ?_
    refine lv_iconst (v := 4) hx hb dX3_kindOf_324 (by decide) ?_
    exact W.iret (v := (4:Int32)) hx hb hr (fun t ht hW => ⟨⟨(4:Int32), (), rfl, hF.symm, by rw [ht]; exact hP, va_K.moved hW.alike hK, hD⟩, hS.F ht⟩) hS.2.2 dX3_kindOf_325
  have hF := hF.trans (if_neg c_1_192)
  by_cases c_1_198 : p1 = (198:Int32)
  · have hF := hF.trans (if_pos c_1_198)
    refine lv_lookup (off := 327) (tgt := 328) hx hb dX3_kindOf_1 (by decide) (by rw [c_1_198]; first | rfl | decide) (by decide) ?_
    refine lv_bipush (v := 8) hx hb dX3_kindOf_328 (by decide) ?_
    exact W.iret (v := (8:Int32)) hx hb hr (fun t ht hW => ⟨⟨(8:Int32), (), rfl, hF.symm, by rw [ht]; exact hP, va_K.moved hW.alike hK, hD⟩, hS.F ht⟩) hS.2.2 dX3_kindOf_330
  have hF := hF.trans (if_neg c_1_198)
  by_cases c_1_200 : p1 = (200:Int32)
  · have hF := hF.trans (if_pos c_1_200)
    refine lv_lookup (off := 351) (tgt := 352) hx hb dX3_kindOf_1 (by decide) (by rw [c_1_200]; first | rfl | decide) (by decide) ?_
    refine lv_iconst (v := 3) hx hb dX3_kindOf_352 (by decide) ?_
    exact W.iret (v := (3:Int32)) hx hb hr (fun t ht hW => ⟨⟨(3:Int32), (), rfl, hF.symm, by rw [ht]; exact hP, va_K.moved hW.alike hK, hD⟩, hS.F ht⟩) hS.2.2 dX3_kindOf_353
  have hF := hF.trans (if_neg c_1_200)
  by_cases c_1_202 : p1 = (202:Int32)
  · have hF := hF.trans (if_pos c_1_202)
    refine lv_lookup (off := 351) (tgt := 352) hx hb dX3_kindOf_1 (by decide) (by rw [c_1_202]; first | rfl | decide) (by decide) ?_
    refine lv_iconst (v := 3) hx hb dX3_kindOf_352 (by decide) ?_
    exact W.iret (v := (3:Int32)) hx hb hr (fun t ht hW => ⟨⟨(3:Int32), (), rfl, hF.symm, by rw [ht]; exact hP, va_K.moved hW.alike hK, hD⟩, hS.F ht⟩) hS.2.2 dX3_kindOf_353
  have hF := hF.trans (if_neg c_1_202)
  by_cases c_1_208 : p1 = (208:Int32)
  · have hF := hF.trans (if_pos c_1_208)
    refine lv_lookup (off := 330) (tgt := 331) hx hb dX3_kindOf_1 (by decide) (by rw [c_1_208]; first | rfl | decide) (by decide) ?_
    refine lv_bipush (v := 9) hx hb dX3_kindOf_331 (by decide) ?_
    exact W.iret (v := (9:Int32)) hx hb hr (fun t ht hW => ⟨⟨(9:Int32), (), rfl, hF.symm, by rw [ht]; exact hP, va_K.moved hW.alike hK, hD⟩, hS.F ht⟩) hS.2.2 dX3_kindOf_333
  have hF := hF.trans (if_neg c_1_208)
  by_cases c_1_216 : p1 = (216:Int32)
  · have hF := hF.trans (if_pos c_1_216)
    refine lv_lookup (off := 351) (tgt := 352) hx hb dX3_kindOf_1 (by decide) (by rw [c_1_216]; first | rfl | decide) (by decide) ?_
    refine lv_iconst (v := 3) hx hb dX3_kindOf_352 (by decide) ?_
    exact W.iret (v := (3:Int32)) hx hb hr (fun t ht hW => ⟨⟨(3:Int32), (), rfl, hF.symm, by rw [ht]; exact hP, va_K.moved hW.alike hK, hD⟩, hS.F ht⟩) hS.2.2 dX3_kindOf_353
  have hF := hF.trans (if_neg c_1_216)
  by_cases c_1_224 : p1 = (224:Int32)
  · have hF := hF.trans (if_pos c_1_224)
    refine lv_lookup (off := 323) (tgt := 324) hx hb dX3_kindOf_1 (by decide) (by rw [c_1_224]; first | rfl | decide) (by decide) ?_
    refine lv_iconst (v := 4) hx hb dX3_kindOf_324 (by decide) ?_
    exact W.iret (v := (4:Int32)) hx hb hr (fun t ht hW => ⟨⟨(4:Int32), (), rfl, hF.symm, by rw [ht]; exact hP, va_K.moved hW.alike hK, hD⟩, hS.F ht⟩) hS.2.2 dX3_kindOf_325
  have hF := hF.trans (if_neg c_1_224)
  by_cases c_1_230 : p1 = (230:Int32)
  · have hF := hF.trans (if_pos c_1_230)
    refine lv_lookup (off := 327) (tgt := 328) hx hb dX3_kindOf_1 (by decide) (by rw [c_1_230]; first | rfl | decide) (by decide) ?_
    refine lv_bipush (v := 8) hx hb dX3_kindOf_328 (by decide) ?_
    exact W.iret (v := (8:Int32)) hx hb hr (fun t ht hW => ⟨⟨(8:Int32), (), rfl, hF.symm, by rw [ht]; exact hP, va_K.moved hW.alike hK, hD⟩, hS.F ht⟩) hS.2.2 dX3_kindOf_330
  have hF := hF.trans (if_neg c_1_230)
  by_cases c_1_232 : p1 = (232:Int32)
  · have hF := hF.trans (if_pos c_1_232)
    refine lv_lookup (off := 351) (tgt := 352) hx hb dX3_kindOf_1 (by decide) (by rw [c_1_232]; first | rfl | decide) (by decide) ?_
    refine lv_iconst (v := 3) hx hb dX3_kindOf_352 (by decide) ?_
    exact W.iret (v := (3:Int32)) hx hb hr (fun t ht hW => ⟨⟨(3:Int32), (), rfl, hF.symm, by rw [ht]; exact hP, va_K.moved hW.alike hK, hD⟩, hS.F ht⟩) hS.2.2 dX3_kindOf_353
  have hF := hF.trans (if_neg c_1_232)
  by_cases c_1_234 : p1 = (234:Int32)
  · have hF := hF.trans (if_pos c_1_234)
    refine lv_lookup (off := 351) (tgt := 352) hx hb dX3_kindOf_1 (by decide) (by rw [c_1_234]; first | rfl | decide) (by decide) ?_
    refine lv_iconst (v := 3) hx hb dX3_kindOf_352 (by decide) ?_
    exact W.iret (v := (3:Int32)) hx hb hr (fun t ht hW => ⟨⟨(3:Int32), (), rfl, hF.symm, by rw [ht]; exact hP, va_K.moved hW.alike hK, hD⟩, hS.F ht⟩) hS.2.2 dX3_kindOf_353
  have hF := hF.trans (if_neg c_1_234)
  by_cases c_1_240 : p1 = (240:Int32)
  · have hF := hF.trans (if_pos c_1_240)
    refine lv_lookup (off := 330) (tgt := 331) hx hb dX3_kindOf_1 (by decide) (by rw [c_1_240]; first | rfl | decide) (by decide) ?_
    refine lv_bipush (v := 9) hx hb dX3_kindOf_331 (by decide) ?_
    exact W.iret (v := (9:Int32)) hx hb hr (fun t ht hW => ⟨⟨(9:Int32), (), rfl, hF.symm, by rw [ht]; exact hP, va_K.moved hW.alike hK, hD⟩, hS.F ht⟩) hS.2.2 dX3_kindOf_333
  have hF := hF.trans (if_neg c_1_240)
  by_cases c_1_248 : p1 = (248:Int32)
  · have hF := hF.trans (if_pos c_1_248)
    refine lv_lookup (off := 351) (tgt := 352) hx hb dX3_kindOf_1 (by decide) (by rw [c_1_248]; first | rfl | decide) (by decide) ?_
    refine lv_iconst (v := 3) hx hb dX3_kindOf_352 (by decide) ?_
    exact W.iret (v := (3:Int32)) hx hb hr (fun t ht hW => ⟨⟨(3:Int32), (), rfl, hF.symm, by rw [ht]; exact hP, va_K.moved hW.alike hK, hD⟩, hS.F ht⟩) hS.2.2 dX3_kindOf_353
  have hF := hF.trans (if_neg c_1_248)
  refine lv_lookup (off := 353) (tgt := 354) hx hb dX3_kindOf_1 (by decide) (by show Op.lookupswitch.offset ((10, 351) :: (16, 330) :: (24, 351) :: (32, 336) :: (48, 330) :: (56, 351) :: (64, 342) :: (72, 345) :: (74, 351) :: (76, 333) :: (80, 330) :: (88, 351) :: (96, 339) :: (104, 348) :: (112, 330) :: (120, 351) :: (132, 325) :: (134, 325) :: (136, 351) :: (138, 351) :: (144, 330) :: (152, 351) :: (160, 323) :: (162, 323) :: (168, 351) :: (170, 351) :: (176, 330) :: (192, 323) :: (198, 327) :: (200, 351) :: (202, 351) :: (208, 330) :: (216, 351) :: (224, 323) :: (230, 327) :: (232, 351) :: (234, 351) :: (240, 330) :: (248, 351) :: []) 353 _ = _; rw [lv_osw (a := 10) c_1_10 (by decide), lv_osw (a := 16) c_1_16 (by decide), lv_osw (a := 24) c_1_24 (by decide), lv_osw (a := 32) c_1_32 (by decide), lv_osw (a := 48) c_1_48 (by decide), lv_osw (a := 56) c_1_56 (by decide), lv_osw (a := 64) c_1_64 (by decide), lv_osw (a := 72) c_1_72 (by decide), lv_osw (a := 74) c_1_74 (by decide), lv_osw (a := 76) c_1_76 (by decide), lv_osw (a := 80) c_1_80 (by decide), lv_osw (a := 88) c_1_88 (by decide), lv_osw (a := 96) c_1_96 (by decide), lv_osw (a := 104) c_1_104 (by decide), lv_osw (a := 112) c_1_112 (by decide), lv_osw (a := 120) c_1_120 (by decide), lv_osw (a := 132) c_1_132 (by decide), lv_osw (a := 134) c_1_134 (by decide), lv_osw (a := 136) c_1_136 (by decide), lv_osw (a := 138) c_1_138 (by decide), lv_osw (a := 144) c_1_144 (by decide), lv_osw (a := 152) c_1_152 (by decide), lv_osw (a := 160) c_1_160 (by decide), lv_osw (a := 162) c_1_162 (by decide), lv_osw (a := 168) c_1_168 (by decide), lv_osw (a := 170) c_1_170 (by decide), lv_osw (a := 176) c_1_176 (by decide), lv_osw (a := 192) c_1_192 (by decide), lv_osw (a := 198) c_1_198 (by decide), lv_osw (a := 200) c_1_200 (by decide), lv_osw (a := 202) c_1_202 (by decide), lv_osw (a := 208) c_1_208 (by decide), lv_osw (a := 216) c_1_216 (by decide), lv_osw (a := 224) c_1_224 (by decide), lv_osw (a := 230) c_1_230 (by decide), lv_osw (a := 232) c_1_232 (by decide), lv_osw (a := 234) c_1_234 (by decide), lv_osw (a := 240) c_1_240 (by decide), lv_osw (a := 248) c_1_248 (by decide)]; rfl) (by decide) ?_
  refine lv_iload_n hx hb dX3_kindOf_354 rfl (lv_at hl 0 rfl) ?_
  have hPc := hP.sub (ws' := ([] : va_W)) [] rfl
  have hDc := hD.sub (ws' := ([] : va_W)) [] (by decide) rfl
  have hKc := hK.sub (tys' := []) [] rfl
  have hFc := va_free (wc := ([] : va_W)) hD hS hA [] rfl
  refine va_calli (va_runS (As := [.int p1]) (rest := []) ⟨hx, hb, hml, hown, hts⟩ (mX3_arithmeticKindOf l dC dI s.heap.size p1) (va_cwS 1 hts (ub_S kMX3_155 kTX3_arithmeticKindOf kIX3 kBX3_arithmeticKindOf) rfl rfl rfl (by decide +kernel) ⟨Nat.le_of_ble_eq_true rfl, Nat.le_of_ble_eq_true rfl⟩) ⟨fun a U g mk q => by obtain ⟨q0, q1, qP, qK, qD⟩ := q; exact ⟨q0, q1, qP, va_K.moved (u := U) (U := U.calling g mk a) (Vm.Alike.refl U.vm) qK, qD⟩, fun U hU hW => ⟨rfl, by rw [hU], by rw [hU]; exact hPc, va_K.moved hW.alike hKc, hDc.weaken (fun _ _ _ _ => trivial)⟩⟩ rfl rfl hl.1 rfl (lv_room (Nat.le_of_ble_eq_true rfl)) dX3_kindOf_355 ⟨(Nat.zero_le _), (Nat.zero_le _)⟩) hS (fun q _ h => hFc q h) hFc (fun r_355 u_355 t H locs ht hvm hw hB hz1 hk1 hS => ?_)
  obtain ⟨hP1, hK1, hD1⟩ := hB
  rw [ht] at hP1
  subst hw
  obtain ⟨hP, hD⟩ := vb_back (wc := ([] : va_W)) (ws' := ([] : va_W)) hP hD hD1 [] [] rfl rfl ae_n rfl rfl hk1 hP1
  exact W.iret (v := (fX3_arithmeticKindOf p1)) hx hb hr (fun t ht hW => ⟨⟨(fX3_arithmeticKindOf p1), (), rfl, hF.symm, by rw [ht]; exact hP, va_K.moved hW.alike hK, hD⟩, hS.F ht⟩) hS.2.2 dX3_kindOf_358
def fX3_begin (pr_stuck : Int32) (pr_interruptsBegun : Int32) (pr_code : Int32) (rg_flags : Int32) (rg_p : Int32) (bu_port : Int32) (pi_line : Int32) (pi_control : Int32) (pi_ground : Int32) (pi_border : Int32) (pi_base : Int32) (pi_flag : Int32) (pi_enabled : Int32) (ic_rows : Int32) (ic_keysSeen : Int32) (ic_flags : Int32) (ic_enabled : Int32) (ta_control : Int32) (ta_count : Int32) (tb_control : Int32) (tb_count : Int32) (f_ra : Nat → Int32) (f_rA : Nat → Int32) (f_rc : Nat → Int32) (f_rk : Nat → Int32) (f_co : Nat → Int32) : Int32 × Int32 × Int32 × Int32 × Int32 × Int32 × Int32 :=
  if (if (fX2_asksInterrupt pi_flag pi_enabled) = (0:Int32) then (if (fX1_asksInterrupt ic_flags ic_enabled) = (0:Int32) then (0:Int32) else (1:Int32)) else (1:Int32)) = (0:Int32) then
   match (fX3_nextByte rg_p bu_port pi_line pi_control pi_ground pi_border pi_base pi_flag pi_enabled ic_rows ic_keysSeen ic_flags ic_enabled ta_control ta_count tb_control tb_count f_ra f_rA f_rc f_rk f_co) with
   | (r_74, rg_p_74, bu_latest_74, ic_flags_74) =>
    ((if (fX3_kindOf r_74) = (1:Int32) then (1:Int32) else (0:Int32)), pr_interruptsBegun, (fX3_kindOf r_74), r_74, rg_p_74, bu_latest_74, ic_flags_74)
  else
   if (fX4_has (4:Int32) rg_flags) = (0:Int32) then
    match (fX0_read rg_p bu_port pi_line pi_control pi_ground pi_border pi_base pi_flag pi_enabled ic_rows ic_keysSeen ic_flags ic_enabled ta_control ta_count tb_control tb_count f_ra f_rA f_rc f_rk f_co) with
    | (r_67, bu_latest_67, ic_flags_67) =>
     (pr_stuck, (pr_interruptsBegun + (1:Int32)), (2:Int32), pr_code, rg_p, bu_latest_67, ic_flags_67)
   else
    match (fX3_nextByte rg_p bu_port pi_line pi_control pi_ground pi_border pi_base pi_flag pi_enabled ic_rows ic_keysSeen ic_flags ic_enabled ta_control ta_count tb_control tb_count f_ra f_rA f_rc f_rk f_co) with
    | (r_74, rg_p_74, bu_latest_74, ic_flags_74) =>
     ((if (fX3_kindOf r_74) = (1:Int32) then (1:Int32) else (0:Int32)), pr_interruptsBegun, (fX3_kindOf r_74), r_74, rg_p_74, bu_latest_74, ic_flags_74)
set_option maxHeartbeats 4000000 in
set_option maxRecDepth 100000 in
theorem mX3_begin (l : Launch) (dC : Nat → ClassId) (dI : Nat → Nat → Nat) (q_pr q_rg q_bu q_ra q_rA q_rc q_rk q_pi q_po q_co q_wc q_wo q_ic q_ky q_ta q_tb : Nat) (k_ra k_rA k_rc k_rk k_po k_co k_wc k_wo k_ky : ClassId) (sz : Nat) (pr_stuck pr_waits pr_interruptsBegun pr_kind pr_step pr_code pr_low pr_high pr_changed pr_missing rg_a rg_x rg_y rg_s rg_flags rg_p bu_port bu_latest pi_line pi_cycle pi_control pi_compareLine pi_ground pi_border pi_base pi_flag pi_enabled pi_idle pi_bad pi_glyphLine pi_rowToFetch ic_rows ic_keysSeen ic_flags ic_enabled ta_controlBits ta_control ta_count ta_latch tb_controlBits tb_control tb_count tb_latch : Int32) (f_ra f_rA f_rc f_rk f_po f_co f_wc f_wo f_ky : Nat → Int32) : Met l yX3_begin uX3_begin ({ frames := 4, cells := 0, slots := 0, locals := 91 }) (va_Pc [.ref q_pr] (fun U => U.heap.size = sz ∧ va_P (dC, dI) vwCl (wwX3 q_pr q_rg q_bu q_ra q_rA q_rc q_rk q_pi q_po q_co q_wc q_wo q_ic q_ky q_ta q_tb k_ra k_rA k_rc k_rk k_po k_co k_wc k_wo k_ky pr_stuck pr_waits pr_interruptsBegun pr_kind pr_step pr_code pr_low pr_high pr_changed pr_missing rg_a rg_x rg_y rg_s rg_flags rg_p bu_port bu_latest pi_line pi_cycle pi_control pi_compareLine pi_ground pi_border pi_base pi_flag pi_enabled pi_idle pi_bad pi_glyphLine pi_rowToFetch ic_rows ic_keysSeen ic_flags ic_enabled ta_controlBits ta_control ta_count ta_latch tb_controlBits tb_control tb_count tb_latch f_ra f_rA f_rc f_rk f_po f_co f_wc f_wo f_ky) U.heap ∧ va_K (dC, dI) vwCl [(k_ra, .int), (k_rA, .int), (k_rc, .int), (k_rk, .int), (k_po, .int), (k_co, .int), (k_wc, .int), (k_wo, .int), (k_ky, .int)] U ∧ va_D (fun _ => True) (wwX3 q_pr q_rg q_bu q_ra q_rA q_rc q_rk q_pi q_po q_co q_wc q_wo q_ic q_ky q_ta q_tb k_ra k_rA k_rc k_rk k_po k_co k_wc k_wo k_ky pr_stuck pr_waits pr_interruptsBegun pr_kind pr_step pr_code pr_low pr_high pr_changed pr_missing rg_a rg_x rg_y rg_s rg_flags rg_p bu_port bu_latest pi_line pi_cycle pi_control pi_compareLine pi_ground pi_border pi_base pi_flag pi_enabled pi_idle pi_bad pi_glyphLine pi_rowToFetch ic_rows ic_keysSeen ic_flags ic_enabled ta_controlBits ta_control ta_count ta_latch tb_controlBits tb_control tb_count tb_latch f_ra f_rA f_rc f_rk f_po f_co f_wc f_wo f_ky))) (va_Qv (fun (u : Int32 × Int32 × Int32 × Int32 × Int32 × Int32 × Int32) => u = fX3_begin pr_stuck pr_interruptsBegun pr_code rg_flags rg_p bu_port pi_line pi_control pi_ground pi_border pi_base pi_flag pi_enabled ic_rows ic_keysSeen ic_flags ic_enabled ta_control ta_count tb_control tb_count f_ra f_rA f_rc f_rk f_co) (fun (u : Int32 × Int32 × Int32 × Int32 × Int32 × Int32 × Int32) (t : State) => va_P (dC, dI) vwCl (wwX3 q_pr q_rg q_bu q_ra q_rA q_rc q_rk q_pi q_po q_co q_wc q_wo q_ic q_ky q_ta q_tb k_ra k_rA k_rc k_rk k_po k_co k_wc k_wo k_ky u.1 pr_waits u.2.1 u.2.2.1 pr_step u.2.2.2.1 pr_low pr_high pr_changed pr_missing rg_a rg_x rg_y rg_s rg_flags u.2.2.2.2.1 bu_port u.2.2.2.2.2.1 pi_line pi_cycle pi_control pi_compareLine pi_ground pi_border pi_base pi_flag pi_enabled pi_idle pi_bad pi_glyphLine pi_rowToFetch ic_rows ic_keysSeen u.2.2.2.2.2.2 ic_enabled ta_controlBits ta_control ta_count ta_latch tb_controlBits tb_control tb_count tb_latch f_ra f_rA f_rc f_rk f_po f_co f_wc f_wo f_ky) t.heap ∧ va_K (dC, dI) vwCl [(k_ra, .int), (k_rA, .int), (k_rc, .int), (k_rk, .int), (k_po, .int), (k_co, .int), (k_wc, .int), (k_wo, .int), (k_ky, .int)] t ∧ va_D (va_A (wwX3 q_pr q_rg q_bu q_ra q_rA q_rc q_rk q_pi q_po q_co q_wc q_wo q_ic q_ky q_ta q_tb k_ra k_rA k_rc k_rk k_po k_co k_wc k_wo k_ky pr_stuck pr_waits pr_interruptsBegun pr_kind pr_step pr_code pr_low pr_high pr_changed pr_missing rg_a rg_x rg_y rg_s rg_flags rg_p bu_port bu_latest pi_line pi_cycle pi_control pi_compareLine pi_ground pi_border pi_base pi_flag pi_enabled pi_idle pi_bad pi_glyphLine pi_rowToFetch ic_rows ic_keysSeen ic_flags ic_enabled ta_controlBits ta_control ta_count ta_latch tb_controlBits tb_control tb_count tb_latch f_ra f_rA f_rc f_rk f_po f_co f_wc f_wo f_ky) sz) (wwX3 q_pr q_rg q_bu q_ra q_rA q_rc q_rk q_pi q_po q_co q_wc q_wo q_ic q_ky q_ta q_tb k_ra k_rA k_rc k_rk k_po k_co k_wc k_wo k_ky u.1 pr_waits u.2.1 u.2.2.1 pr_step u.2.2.2.1 pr_low pr_high pr_changed pr_missing rg_a rg_x rg_y rg_s rg_flags u.2.2.2.2.1 bu_port u.2.2.2.2.2.1 pi_line pi_cycle pi_control pi_compareLine pi_ground pi_border pi_base pi_flag pi_enabled pi_idle pi_bad pi_glyphLine pi_rowToFetch ic_rows ic_keysSeen u.2.2.2.2.2.2 ic_enabled ta_controlBits ta_control ta_count ta_latch tb_controlBits tb_control tb_count tb_latch f_ra f_rA f_rc f_rk f_po f_co f_wc f_wo f_ky)) (va_A (wwX3 q_pr q_rg q_bu q_ra q_rA q_rc q_rk q_pi q_po q_co q_wc q_wo q_ic q_ky q_ta q_tb k_ra k_rA k_rc k_rk k_po k_co k_wc k_wo k_ky pr_stuck pr_waits pr_interruptsBegun pr_kind pr_step pr_code pr_low pr_high pr_changed pr_missing rg_a rg_x rg_y rg_s rg_flags rg_p bu_port bu_latest pi_line pi_cycle pi_control pi_compareLine pi_ground pi_border pi_base pi_flag pi_enabled pi_idle pi_bad pi_glyphLine pi_rowToFetch ic_rows ic_keysSeen ic_flags ic_enabled ta_controlBits ta_control ta_count ta_latch tb_controlBits tb_control tb_count tb_latch f_ra f_rA f_rc f_rk f_po f_co f_wc f_wo f_ky) sz)) 0 0 (va_A (wwX3 q_pr q_rg q_bu q_ra q_rA q_rc q_rk q_pi q_po q_co q_wc q_wo q_ic q_ky q_ta q_tb k_ra k_rA k_rc k_rk k_po k_co k_wc k_wo k_ky pr_stuck pr_waits pr_interruptsBegun pr_kind pr_step pr_code pr_low pr_high pr_changed pr_missing rg_a rg_x rg_y rg_s rg_flags rg_p bu_port bu_latest pi_line pi_cycle pi_control pi_compareLine pi_ground pi_border pi_base pi_flag pi_enabled pi_idle pi_bad pi_glyphLine pi_rowToFetch ic_rows ic_keysSeen ic_flags ic_enabled ta_controlBits ta_control ta_count ta_latch tb_controlBits tb_control tb_count tb_latch f_ra f_rA f_rc f_rk f_po f_co f_wc f_wo f_ky) sz) := by
  refine Met.ofW (cc := cX3_begin) (maxL := 2) (ret := none) (by decide) rfl ?_
  intro p e s m args below meth c s₁ B hml hv
  obtain ⟨rfl, hsz, hP, hK, hD0⟩ := hv
  have hx := B.exec
  have hb := B.bytes
  have hr := B.returns
  have hts : ∀ w ∈ ub, w.before _ s = true := fun w h => atoms_spec (ws := uX3_begin) B.pre w (List.mem_cons_of_mem _ h)
  have hown : s.vm.findClass RX3 = some m.cls := findClass_of_methodNamed B.named
  have hlocks := B.notSynchronized
  subst hsz
  have hD := hD0.self (sz := s.heap.size)
  generalize hAe : va_A (wwX3 q_pr q_rg q_bu q_ra q_rA q_rc q_rk q_pi q_po q_co q_wc q_wo q_ic q_ky q_ta q_tb k_ra k_rA k_rc k_rk k_po k_co k_wc k_wo k_ky pr_stuck pr_waits pr_interruptsBegun pr_kind pr_step pr_code pr_low pr_high pr_changed pr_missing rg_a rg_x rg_y rg_s rg_flags rg_p bu_port bu_latest pi_line pi_cycle pi_control pi_compareLine pi_ground pi_border pi_base pi_flag pi_enabled pi_idle pi_bad pi_glyphLine pi_rowToFetch ic_rows ic_keysSeen ic_flags ic_enabled ta_controlBits ta_control ta_count ta_latch tb_controlBits tb_control tb_count tb_latch f_ra f_rA f_rc f_rk f_po f_co f_wc f_wo f_ky) s.heap.size = A at hD ⊢
  have hA : ∀ q : Nat, s.heap.size ≤ q → A q := fun q h => by rw [← hAe]; exact Or.inr h
  have hS : va_S A s.heap s.heap [] := va_S.rf
  have hl := lv_entry ([.ref q_pr]) (n := 2) (Nat.le_of_ble_eq_true rfl)
  rw [lg_entry_eq]
  generalize (lg_sl ([.ref q_pr]) ++ List.replicate (2 - (lg_sl ([.ref q_pr])).length) Slot.unset).toArray = ls at hl ⊢
  have hl : lv_has ls 2 [(0, .ref q_pr)] := hl
  have hF := fX3_begin.eq_1 pr_stuck pr_interruptsBegun pr_code rg_flags rg_p bu_port pi_line pi_control pi_ground pi_border pi_base pi_flag pi_enabled ic_rows ic_keysSeen ic_flags ic_enabled ta_control ta_count tb_control tb_count f_ra f_rA f_rc f_rk f_co
  refine lv_aload_n hx hb dX3_begin_0 rfl (lv_at hl 0 rfl) ?_
  refine va_get (D := (dC, dI)) (ci := 3) (v := .ref q_pi) (C := RX3) (T := TX3) (N := 14) hx hb hts hiX3 hown hK hP 0 rfl rfl 5 (by decide) (hts _ kFX3_30) (fun _ h9 => h9) rfl dX3_begin_1 ?_
  have hPc := hP.sub (ws' := (wwX2 q_pi q_ra q_rc q_po q_co q_wc q_wo k_ra k_rc k_po k_co k_wc k_wo pi_line pi_cycle pi_control pi_compareLine pi_ground pi_border pi_base pi_flag pi_enabled pi_idle pi_bad pi_glyphLine pi_rowToFetch f_ra f_rc f_po f_co f_wc f_wo)) [7, 3, 5, 8, 9, 10, 11] rfl
  have hDc := hD.sub (ws' := (wwX2 q_pi q_ra q_rc q_po q_co q_wc q_wo k_ra k_rc k_po k_co k_wc k_wo pi_line pi_cycle pi_control pi_compareLine pi_ground pi_border pi_base pi_flag pi_enabled pi_idle pi_bad pi_glyphLine pi_rowToFetch f_ra f_rc f_po f_co f_wc f_wo)) [7, 3, 5, 8, 9, 10, 11] (by decide) rfl
  have hKc := hK.sub (tys' := [(k_ra, .int), (k_rc, .int), (k_po, .int), (k_co, .int), (k_wc, .int), (k_wo, .int)]) [0, 2, 4, 5, 6, 7] rfl
  have hFc := va_free (wc := (wwX2 q_pi q_ra q_rc q_po q_co q_wc q_wo k_ra k_rc k_po k_co k_wc k_wo pi_line pi_cycle pi_control pi_compareLine pi_ground pi_border pi_base pi_flag pi_enabled pi_idle pi_bad pi_glyphLine pi_rowToFetch f_ra f_rc f_po f_co f_wc f_wo)) hD hS hA [7, 3, 5, 8, 9, 10, 11] rfl
  refine va_calli (va_runV (As := []) (rest := []) ⟨hx, hb, hml, hown, hts⟩ (mX2_asksInterrupt l dC dI q_pi q_ra q_rc q_po q_co q_wc q_wo k_ra k_rc k_po k_co k_wc k_wo s.heap.size pi_line pi_cycle pi_control pi_compareLine pi_ground pi_border pi_base pi_flag pi_enabled pi_idle pi_bad pi_glyphLine pi_rowToFetch f_ra f_rc f_po f_co f_wc f_wo) (cwV 0 hts (ub_V kMX3_136 kYX2_asksInterrupt kSX2_asksInterrupt kIX2 kBX2_asksInterrupt) rfl rfl rfl (by decide +kernel) ⟨Nat.le_of_ble_eq_true rfl, Nat.le_of_ble_eq_true rfl⟩) ⟨fun a U g mk q => by obtain ⟨q0, q1, qP, qK, qD⟩ := q; exact ⟨q0, q1, qP, va_K.moved (u := U) (U := U.calling g mk a) (Vm.Alike.refl U.vm) qK, qD⟩, va_recv hKc hPc (ci := 2) (q0 := 0) rfl rfl, fun U hU hW => ⟨rfl, by rw [hU], by rw [hU]; exact hPc, va_K.moved hW.alike hKc, hDc.weaken (fun _ _ _ _ => trivial)⟩⟩ rfl rfl hl.1 rfl (lv_room (Nat.le_of_ble_eq_true rfl)) dX3_begin_4 ⟨(Nat.zero_le _), (Nat.zero_le _)⟩) hS (fun q _ h => hFc q h) hFc (fun r_4 u_4 t H locs ht hvm hw hB hz1 hk1 hS => ?_)
  obtain ⟨hP1, hK1, hD1⟩ := hB
  rw [ht] at hP1
  subst hw
  obtain ⟨hP, hD⟩ := vb_back (wc := (wwX2 q_pi q_ra q_rc q_po q_co q_wc q_wo k_ra k_rc k_po k_co k_wc k_wo pi_line pi_cycle pi_control pi_compareLine pi_ground pi_border pi_base pi_flag pi_enabled pi_idle pi_bad pi_glyphLine pi_rowToFetch f_ra f_rc f_po f_co f_wc f_wo)) (ws' := (wwX3 q_pr q_rg q_bu q_ra q_rA q_rc q_rk q_pi q_po q_co q_wc q_wo q_ic q_ky q_ta q_tb k_ra k_rA k_rc k_rk k_po k_co k_wc k_wo k_ky pr_stuck pr_waits pr_interruptsBegun pr_kind pr_step pr_code pr_low pr_high pr_changed pr_missing rg_a rg_x rg_y rg_s rg_flags rg_p bu_port bu_latest pi_line pi_cycle pi_control pi_compareLine pi_ground pi_border pi_base pi_flag pi_enabled pi_idle pi_bad pi_glyphLine pi_rowToFetch ic_rows ic_keysSeen ic_flags ic_enabled ta_controlBits ta_control ta_count ta_latch tb_controlBits tb_control tb_count tb_latch f_ra f_rA f_rc f_rk f_po f_co f_wc f_wo f_ky)) hP hD hD1 [7, 3, 5, 8, 9, 10, 11] [0, 1, 2, 4, 6, 12, 13, 14, 15] rfl rfl (ae_c rfl (ae_c rfl (ae_c rfl (ae_c rfl (ae_c rfl (ae_c rfl (ae_c rfl (ae_c rfl (ae_c rfl ae_n))))))))) rfl rfl hk1 hP1
  refine vj_join (j := 25) (rest := []) (Hyp := fun z H locs => z = (if (fX2_asksInterrupt pi_flag pi_enabled) = (0:Int32) then (if (fX1_asksInterrupt ic_flags ic_enabled) = (0:Int32) then (0:Int32) else (1:Int32)) else (1:Int32)) ∧ va_P (dC, dI) vwCl (wwX3 q_pr q_rg q_bu q_ra q_rA q_rc q_rk q_pi q_po q_co q_wc q_wo q_ic q_ky q_ta q_tb k_ra k_rA k_rc k_rk k_po k_co k_wc k_wo k_ky pr_stuck pr_waits pr_interruptsBegun pr_kind pr_step pr_code pr_low pr_high pr_changed pr_missing rg_a rg_x rg_y rg_s rg_flags rg_p bu_port bu_latest pi_line pi_cycle pi_control pi_compareLine pi_ground pi_border pi_base pi_flag pi_enabled pi_idle pi_bad pi_glyphLine pi_rowToFetch ic_rows ic_keysSeen ic_flags ic_enabled ta_controlBits ta_control ta_count ta_latch tb_controlBits tb_control tb_count tb_latch f_ra f_rA f_rc f_rk f_po f_co f_wc f_wo f_ky) H ∧ va_S A s.heap H locs) (fun z H locs hh => ?_) (fun J25 => ?_)
  · obtain ⟨hz, hP, hS⟩ := hh
    subst hz
    refine lv_istore_n (lv' := [(1, .int (if (fX2_asksInterrupt pi_flag pi_enabled) = (0:Int32) then (if (fX1_asksInterrupt ic_flags ic_enabled) = (0:Int32) then (0:Int32) else (1:Int32)) else (1:Int32))), (0, .ref q_pr)]) hx hb dX3_begin_25 rfl hl (by decide) rfl (fun ls hl => ?_)
    refine lv_iload_n hx hb dX3_begin_26 rfl (lv_at hl 0 rfl) ?_
    refine lv_if_eq (tgt := 72) hx hb dX3_begin_27 (by decide) (fun c_27 => ?_) (fun c_27 => ?_)
    · have hF := hF.trans (if_pos c_27)
      refine lv_aload_n hx hb dX3_begin_72 rfl (lv_at hl 1 rfl) ?_
      refine lv_aload_n hx hb dX3_begin_73 rfl (lv_at hl 1 rfl) ?_
      have hPc := hP.sub (ws' := (wwX3 q_pr q_rg q_bu q_ra q_rA q_rc q_rk q_pi q_po q_co q_wc q_wo q_ic q_ky q_ta q_tb k_ra k_rA k_rc k_rk k_po k_co k_wc k_wo k_ky pr_stuck pr_waits pr_interruptsBegun pr_kind pr_step pr_code pr_low pr_high pr_changed pr_missing rg_a rg_x rg_y rg_s rg_flags rg_p bu_port bu_latest pi_line pi_cycle pi_control pi_compareLine pi_ground pi_border pi_base pi_flag pi_enabled pi_idle pi_bad pi_glyphLine pi_rowToFetch ic_rows ic_keysSeen ic_flags ic_enabled ta_controlBits ta_control ta_count ta_latch tb_controlBits tb_control tb_count tb_latch f_ra f_rA f_rc f_rk f_po f_co f_wc f_wo f_ky)) [0, 1, 2, 3, 4, 5, 6, 7, 8, 9, 10, 11, 12, 13, 14, 15] rfl
      have hDc := hD.sub (ws' := (wwX3 q_pr q_rg q_bu q_ra q_rA q_rc q_rk q_pi q_po q_co q_wc q_wo q_ic q_ky q_ta q_tb k_ra k_rA k_rc k_rk k_po k_co k_wc k_wo k_ky pr_stuck pr_waits pr_interruptsBegun pr_kind pr_step pr_code pr_low pr_high pr_changed pr_missing rg_a rg_x rg_y rg_s rg_flags rg_p bu_port bu_latest pi_line pi_cycle pi_control pi_compareLine pi_ground pi_border pi_base pi_flag pi_enabled pi_idle pi_bad pi_glyphLine pi_rowToFetch ic_rows ic_keysSeen ic_flags ic_enabled ta_controlBits ta_control ta_count ta_latch tb_controlBits tb_control tb_count tb_latch f_ra f_rA f_rc f_rk f_po f_co f_wc f_wo f_ky)) [0, 1, 2, 3, 4, 5, 6, 7, 8, 9, 10, 11, 12, 13, 14, 15] (by decide) rfl
      have hKc := hK.sub (tys' := [(k_ra, .int), (k_rA, .int), (k_rc, .int), (k_rk, .int), (k_po, .int), (k_co, .int), (k_wc, .int), (k_wo, .int), (k_ky, .int)]) [0, 1, 2, 3, 4, 5, 6, 7, 8] rfl
      have hFc := va_free (wc := (wwX3 q_pr q_rg q_bu q_ra q_rA q_rc q_rk q_pi q_po q_co q_wc q_wo q_ic q_ky q_ta q_tb k_ra k_rA k_rc k_rk k_po k_co k_wc k_wo k_ky pr_stuck pr_waits pr_interruptsBegun pr_kind pr_step pr_code pr_low pr_high pr_changed pr_missing rg_a rg_x rg_y rg_s rg_flags rg_p bu_port bu_latest pi_line pi_cycle pi_control pi_compareLine pi_ground pi_border pi_base pi_flag pi_enabled pi_idle pi_bad pi_glyphLine pi_rowToFetch ic_rows ic_keysSeen ic_flags ic_enabled ta_controlBits ta_control ta_count ta_latch tb_controlBits tb_control tb_count tb_latch f_ra f_rA f_rc f_rk f_po f_co f_wc f_wo f_ky)) hD hS hA [0, 1, 2, 3, 4, 5, 6, 7, 8, 9, 10, 11, 12, 13, 14, 15] rfl
      refine va_calli (va_runV (As := []) (rest := [.ref q_pr]) ⟨hx, hb, hml, hown, hts⟩ (mX3_nextByte l dC dI q_pr q_rg q_bu q_ra q_rA q_rc q_rk q_pi q_po q_co q_wc q_wo q_ic q_ky q_ta q_tb k_ra k_rA k_rc k_rk k_po k_co k_wc k_wo k_ky H.size pr_stuck pr_waits pr_interruptsBegun pr_kind pr_step pr_code pr_low pr_high pr_changed pr_missing rg_a rg_x rg_y rg_s rg_flags rg_p bu_port bu_latest pi_line pi_cycle pi_control pi_compareLine pi_ground pi_border pi_base pi_flag pi_enabled pi_idle pi_bad pi_glyphLine pi_rowToFetch ic_rows ic_keysSeen ic_flags ic_enabled ta_controlBits ta_control ta_count ta_latch tb_controlBits tb_control tb_count tb_latch f_ra f_rA f_rc f_rk f_po f_co f_wc f_wo f_ky) (cwV 0 hts (ub_V kMX3_148 kYX3_nextByte kSX3_nextByte kIX3 kBX3_nextByte) rfl rfl rfl (by decide +kernel) ⟨Nat.le_of_ble_eq_true rfl, Nat.le_of_ble_eq_true rfl⟩) ⟨fun a U g mk q => by obtain ⟨q0, q1, qP, qK, qD⟩ := q; exact ⟨q0, q1, qP, va_K.moved (u := U) (U := U.calling g mk a) (Vm.Alike.refl U.vm) qK, qD⟩, va_recv hKc hPc (ci := 3) (q0 := 0) rfl rfl, fun U hU hW => ⟨rfl, by rw [hU], by rw [hU]; exact hPc, va_K.moved hW.alike hKc, hDc.weaken (fun _ _ _ _ => trivial)⟩⟩ rfl rfl hl.1 rfl (lv_room (Nat.le_of_ble_eq_true rfl)) dX3_begin_74 ⟨(Nat.zero_le _), (Nat.zero_le _)⟩) hS (fun q _ h => hFc q h) hFc (fun r_74 u_74 t H locs ht hvm hw hB hz1 hk1 hS => ?_)
      obtain ⟨rg_p_74, bu_latest_74, ic_flags_74⟩ := u_74
      obtain ⟨hP1, hK1, hD1⟩ := hB
      rw [ht] at hP1
      obtain ⟨hP, hD⟩ := vb_back (wc := (wwX3 q_pr q_rg q_bu q_ra q_rA q_rc q_rk q_pi q_po q_co q_wc q_wo q_ic q_ky q_ta q_tb k_ra k_rA k_rc k_rk k_po k_co k_wc k_wo k_ky pr_stuck pr_waits pr_interruptsBegun pr_kind pr_step pr_code pr_low pr_high pr_changed pr_missing rg_a rg_x rg_y rg_s rg_flags rg_p bu_port bu_latest pi_line pi_cycle pi_control pi_compareLine pi_ground pi_border pi_base pi_flag pi_enabled pi_idle pi_bad pi_glyphLine pi_rowToFetch ic_rows ic_keysSeen ic_flags ic_enabled ta_controlBits ta_control ta_count ta_latch tb_controlBits tb_control tb_count tb_latch f_ra f_rA f_rc f_rk f_po f_co f_wc f_wo f_ky)) (ws' := (wwX3 q_pr q_rg q_bu q_ra q_rA q_rc q_rk q_pi q_po q_co q_wc q_wo q_ic q_ky q_ta q_tb k_ra k_rA k_rc k_rk k_po k_co k_wc k_wo k_ky pr_stuck pr_waits pr_interruptsBegun pr_kind pr_step pr_code pr_low pr_high pr_changed pr_missing rg_a rg_x rg_y rg_s rg_flags rg_p_74 bu_port bu_latest_74 pi_line pi_cycle pi_control pi_compareLine pi_ground pi_border pi_base pi_flag pi_enabled pi_idle pi_bad pi_glyphLine pi_rowToFetch ic_rows ic_keysSeen ic_flags_74 ic_enabled ta_controlBits ta_control ta_count ta_latch tb_controlBits tb_control tb_count tb_latch f_ra f_rA f_rc f_rk f_po f_co f_wc f_wo f_ky)) hP hD hD1 [0, 1, 2, 3, 4, 5, 6, 7, 8, 9, 10, 11, 12, 13, 14, 15] [] rfl rfl ae_n rfl rfl hk1 hP1
      rw [← hw] at hF
      dsimp only at hF
      refine va_put (D := (dC, dI)) (ci := 3) (v := .int r_74) (ty := .int) (C := RX3) (T := TX3) (N := 14) hx hb hts hiX3 tyX3 tyX3_ok nmX3 hown hK hP hD hS 0 rfl rfl 9 (by decide) (hts _ kFX3_119) (fun _ h9 => h9) rfl (by decide +kernel) rfl rfl (Nat.le_of_ble_eq_true rfl) dX3_begin_77 (fun H locs hP hD hS => ?_)
      have hP : va_P (dC, dI) vwCl (wwX3 q_pr q_rg q_bu q_ra q_rA q_rc q_rk q_pi q_po q_co q_wc q_wo q_ic q_ky q_ta q_tb k_ra k_rA k_rc k_rk k_po k_co k_wc k_wo k_ky pr_stuck pr_waits pr_interruptsBegun pr_kind pr_step r_74 pr_low pr_high pr_changed pr_missing rg_a rg_x rg_y rg_s rg_flags rg_p_74 bu_port bu_latest_74 pi_line pi_cycle pi_control pi_compareLine pi_ground pi_border pi_base pi_flag pi_enabled pi_idle pi_bad pi_glyphLine pi_rowToFetch ic_rows ic_keysSeen ic_flags_74 ic_enabled ta_controlBits ta_control ta_count ta_latch tb_controlBits tb_control tb_count tb_latch f_ra f_rA f_rc f_rk f_po f_co f_wc f_wo f_ky) H := hP
      have hD : va_D A (wwX3 q_pr q_rg q_bu q_ra q_rA q_rc q_rk q_pi q_po q_co q_wc q_wo q_ic q_ky q_ta q_tb k_ra k_rA k_rc k_rk k_po k_co k_wc k_wo k_ky pr_stuck pr_waits pr_interruptsBegun pr_kind pr_step r_74 pr_low pr_high pr_changed pr_missing rg_a rg_x rg_y rg_s rg_flags rg_p_74 bu_port bu_latest_74 pi_line pi_cycle pi_control pi_compareLine pi_ground pi_border pi_base pi_flag pi_enabled pi_idle pi_bad pi_glyphLine pi_rowToFetch ic_rows ic_keysSeen ic_flags_74 ic_enabled ta_controlBits ta_control ta_count ta_latch tb_controlBits tb_control tb_count tb_latch f_ra f_rA f_rc f_rk f_po f_co f_wc f_wo f_ky) := hD
      refine lv_aload_n hx hb dX3_begin_80 rfl (lv_at hl 1 rfl) ?_
      refine lv_aload_n hx hb dX3_begin_81 rfl (lv_at hl 1 rfl) ?_
      refine va_get (D := (dC, dI)) (ci := 3) (v := .int r_74) (C := RX3) (T := TX3) (N := 14) hx hb hts hiX3 hown hK hP 0 rfl rfl 9 (by decide) (hts _ kFX3_119) (fun _ h9 => h9) rfl dX3_begin_82 ?_
      have hPc := hP.sub (ws' := ([] : va_W)) [] rfl
      have hDc := hD.sub (ws' := ([] : va_W)) [] (by decide) rfl
      have hKc := hK.sub (tys' := []) [] rfl
      have hFc := va_free (wc := ([] : va_W)) hD hS hA [] rfl
      refine va_calli (va_runS (As := [.int r_74]) (rest := [.ref q_pr]) ⟨hx, hb, hml, hown, hts⟩ (mX3_kindOf l dC dI H.size r_74) (va_cwS 1 hts (ub_S kMX3_152 kTX3_kindOf kIX3 kBX3_kindOf) rfl rfl rfl (by decide +kernel) ⟨Nat.le_of_ble_eq_true rfl, Nat.le_of_ble_eq_true rfl⟩) ⟨fun a U g mk q => by obtain ⟨q0, q1, qP, qK, qD⟩ := q; exact ⟨q0, q1, qP, va_K.moved (u := U) (U := U.calling g mk a) (Vm.Alike.refl U.vm) qK, qD⟩, fun U hU hW => ⟨rfl, by rw [hU], by rw [hU]; exact hPc, va_K.moved hW.alike hKc, hDc.weaken (fun _ _ _ _ => trivial)⟩⟩ rfl rfl hl.1 rfl (lv_room (Nat.le_of_ble_eq_true rfl)) dX3_begin_85 ⟨(Nat.zero_le _), (Nat.zero_le _)⟩) hS (fun q _ h => hFc q h) hFc (fun r_85 u_85 t H locs ht hvm hw hB hz1 hk1 hS => ?_)
      obtain ⟨hP1, hK1, hD1⟩ := hB
      rw [ht] at hP1
      subst hw
      obtain ⟨hP, hD⟩ := vb_back (wc := ([] : va_W)) (ws' := (wwX3 q_pr q_rg q_bu q_ra q_rA q_rc q_rk q_pi q_po q_co q_wc q_wo q_ic q_ky q_ta q_tb k_ra k_rA k_rc k_rk k_po k_co k_wc k_wo k_ky pr_stuck pr_waits pr_interruptsBegun pr_kind pr_step r_74 pr_low pr_high pr_changed pr_missing rg_a rg_x rg_y rg_s rg_flags rg_p_74 bu_port bu_latest_74 pi_line pi_cycle pi_control pi_compareLine pi_ground pi_border pi_base pi_flag pi_enabled pi_idle pi_bad pi_glyphLine pi_rowToFetch ic_rows ic_keysSeen ic_flags_74 ic_enabled ta_controlBits ta_control ta_count ta_latch tb_controlBits tb_control tb_count tb_latch f_ra f_rA f_rc f_rk f_po f_co f_wc f_wo f_ky)) hP hD hD1 [] [0, 1, 2, 3, 4, 5, 6, 7, 8, 9, 10, 11, 12, 13, 14, 15] rfl rfl (ae_c rfl (ae_c rfl (ae_c rfl (ae_c rfl (ae_c rfl (ae_c rfl (ae_c rfl (ae_c rfl (ae_c rfl (ae_c rfl (ae_c rfl (ae_c rfl (ae_c rfl (ae_c rfl (ae_c rfl (ae_c rfl ae_n)))))))))))))))) rfl rfl hk1 hP1
      refine va_put (D := (dC, dI)) (ci := 3) (v := .int (fX3_kindOf r_74)) (ty := .int) (C := RX3) (T := TX3) (N := 14) hx hb hts hiX3 tyX3 tyX3_ok nmX3 hown hK hP hD hS 0 rfl rfl 7 (by decide) (hts _ kFX3_22) (fun _ h9 => h9) rfl (by decide +kernel) rfl rfl (Nat.le_of_ble_eq_true rfl) dX3_begin_88 (fun H locs hP hD hS => ?_)
      have hP : va_P (dC, dI) vwCl (wwX3 q_pr q_rg q_bu q_ra q_rA q_rc q_rk q_pi q_po q_co q_wc q_wo q_ic q_ky q_ta q_tb k_ra k_rA k_rc k_rk k_po k_co k_wc k_wo k_ky pr_stuck pr_waits pr_interruptsBegun (fX3_kindOf r_74) pr_step r_74 pr_low pr_high pr_changed pr_missing rg_a rg_x rg_y rg_s rg_flags rg_p_74 bu_port bu_latest_74 pi_line pi_cycle pi_control pi_compareLine pi_ground pi_border pi_base pi_flag pi_enabled pi_idle pi_bad pi_glyphLine pi_rowToFetch ic_rows ic_keysSeen ic_flags_74 ic_enabled ta_controlBits ta_control ta_count ta_latch tb_controlBits tb_control tb_count tb_latch f_ra f_rA f_rc f_rk f_po f_co f_wc f_wo f_ky) H := hP
      have hD : va_D A (wwX3 q_pr q_rg q_bu q_ra q_rA q_rc q_rk q_pi q_po q_co q_wc q_wo q_ic q_ky q_ta q_tb k_ra k_rA k_rc k_rk k_po k_co k_wc k_wo k_ky pr_stuck pr_waits pr_interruptsBegun (fX3_kindOf r_74) pr_step r_74 pr_low pr_high pr_changed pr_missing rg_a rg_x rg_y rg_s rg_flags rg_p_74 bu_port bu_latest_74 pi_line pi_cycle pi_control pi_compareLine pi_ground pi_border pi_base pi_flag pi_enabled pi_idle pi_bad pi_glyphLine pi_rowToFetch ic_rows ic_keysSeen ic_flags_74 ic_enabled ta_controlBits ta_control ta_count ta_latch tb_controlBits tb_control tb_count tb_latch f_ra f_rA f_rc f_rk f_po f_co f_wc f_wo f_ky) := hD
      refine lv_aload_n hx hb dX3_begin_91 rfl (lv_at hl 1 rfl) ?_
      refine lv_aload_n hx hb dX3_begin_92 rfl (lv_at hl 1 rfl) ?_
      refine va_get (D := (dC, dI)) (ci := 3) (v := .int (fX3_kindOf r_74)) (C := RX3) (T := TX3) (N := 14) hx hb hts hiX3 hown hK hP 0 rfl rfl 7 (by decide) (hts _ kFX3_22) (fun _ h9 => h9) rfl dX3_begin_93 ?_
      refine lv_iconst (v := 1) hx hb dX3_begin_96 (by decide) ?_
      refine vj_join (j := 105) (rest := [.ref q_pr]) (Hyp := fun z H locs => z = (if (fX3_kindOf r_74) = (1:Int32) then (1:Int32) else (0:Int32)) ∧ va_P (dC, dI) vwCl (wwX3 q_pr q_rg q_bu q_ra q_rA q_rc q_rk q_pi q_po q_co q_wc q_wo q_ic q_ky q_ta q_tb k_ra k_rA k_rc k_rk k_po k_co k_wc k_wo k_ky pr_stuck pr_waits pr_interruptsBegun (fX3_kindOf r_74) pr_step r_74 pr_low pr_high pr_changed pr_missing rg_a rg_x rg_y rg_s rg_flags rg_p_74 bu_port bu_latest_74 pi_line pi_cycle pi_control pi_compareLine pi_ground pi_border pi_base pi_flag pi_enabled pi_idle pi_bad pi_glyphLine pi_rowToFetch ic_rows ic_keysSeen ic_flags_74 ic_enabled ta_controlBits ta_control ta_count ta_latch tb_controlBits tb_control tb_count tb_latch f_ra f_rA f_rc f_rk f_po f_co f_wc f_wo f_ky) H ∧ va_S A s.heap H locs) (fun z H locs hh => ?_) (fun J105 => ?_)
      · obtain ⟨hz, hP, hS⟩ := hh
        subst hz
        refine va_put (D := (dC, dI)) (ci := 3) (v := .int (if (fX3_kindOf r_74) = (1:Int32) then (1:Int32) else (0:Int32))) (ty := .boolean) (C := RX3) (T := TX3) (N := 14) hx hb hts hiX3 tyX3 tyX3_ok nmX3 hown hK hP hD hS 0 rfl rfl 1 (by decide) (hts _ kFX3_18) (fun _ h9 => h9) rfl (by decide +kernel) (nb_if rfl rfl) (ft_if rfl rfl) (Nat.le_of_ble_eq_true rfl) dX3_begin_105 (fun H locs hP hD hS => ?_)
        have hP : va_P (dC, dI) vwCl (wwX3 q_pr q_rg q_bu q_ra q_rA q_rc q_rk q_pi q_po q_co q_wc q_wo q_ic q_ky q_ta q_tb k_ra k_rA k_rc k_rk k_po k_co k_wc k_wo k_ky (if (fX3_kindOf r_74) = (1:Int32) then (1:Int32) else (0:Int32)) pr_waits pr_interruptsBegun (fX3_kindOf r_74) pr_step r_74 pr_low pr_high pr_changed pr_missing rg_a rg_x rg_y rg_s rg_flags rg_p_74 bu_port bu_latest_74 pi_line pi_cycle pi_control pi_compareLine pi_ground pi_border pi_base pi_flag pi_enabled pi_idle pi_bad pi_glyphLine pi_rowToFetch ic_rows ic_keysSeen ic_flags_74 ic_enabled ta_controlBits ta_control ta_count ta_latch tb_controlBits tb_control tb_count tb_latch f_ra f_rA f_rc f_rk f_po f_co f_wc f_wo f_ky) H := hP
        have hD : va_D A (wwX3 q_pr q_rg q_bu q_ra q_rA q_rc q_rk q_pi q_po q_co q_wc q_wo q_ic q_ky q_ta q_tb k_ra k_rA k_rc k_rk k_po k_co k_wc k_wo k_ky (if (fX3_kindOf r_74) = (1:Int32) then (1:Int32) else (0:Int32)) pr_waits pr_interruptsBegun (fX3_kindOf r_74) pr_step r_74 pr_low pr_high pr_changed pr_missing rg_a rg_x rg_y rg_s rg_flags rg_p_74 bu_port bu_latest_74 pi_line pi_cycle pi_control pi_compareLine pi_ground pi_border pi_base pi_flag pi_enabled pi_idle pi_bad pi_glyphLine pi_rowToFetch ic_rows ic_keysSeen ic_flags_74 ic_enabled ta_controlBits ta_control ta_count ta_latch tb_controlBits tb_control tb_count tb_latch f_ra f_rA f_rc f_rk f_po f_co f_wc f_wo f_ky) := hD
        exact W.vret hx hb hr (fun t ht hW => ⟨⟨((if (fX3_kindOf r_74) = (1:Int32) then (1:Int32) else (0:Int32)), pr_interruptsBegun, (fX3_kindOf r_74), r_74, rg_p_74, bu_latest_74, ic_flags_74), rfl, hF.symm, by rw [ht]; exact hP, va_K.moved hW.alike hK, hD⟩, hS.F ht⟩) hS.2.2 dX3_begin_108
      · refine lv_icmp_ne (tgt := 104) hx hb dX3_begin_97 (by decide) (fun c_97 => ?_) (fun c_97 => ?_)
        · refine lv_iconst (v := 0) hx hb dX3_begin_104 (by decide) ?_
          exact J105 _ _ _ ⟨by rw [if_neg c_97], hP, hS⟩
        · refine lv_iconst (v := 1) hx hb dX3_begin_100 (by decide) ?_
          refine lv_goto (tgt := 105) hx hb dX3_begin_101 (by decide) ?_
          exact J105 _ _ _ ⟨by rw [if_pos c_97], hP, hS⟩
    · have hF := hF.trans (if_neg c_27)
      refine lv_aload_n hx hb dX3_begin_30 rfl (lv_at hl 1 rfl) ?_
      refine va_get (D := (dC, dI)) (ci := 3) (v := .ref q_rg) (C := RX3) (T := TX3) (N := 14) hx hb hts hiX3 hown hK hP 0 rfl rfl 0 (by decide) (hts _ kFX3_12) (fun _ h9 => h9) rfl dX3_begin_31 ?_
      refine lv_iconst (v := 4) hx hb dX3_begin_34 (by decide) ?_
      have hPc := hP.sub (ws' := (wwX4 q_rg rg_a rg_x rg_y rg_s rg_flags rg_p)) [1] rfl
      have hDc := hD.sub (ws' := (wwX4 q_rg rg_a rg_x rg_y rg_s rg_flags rg_p)) [1] (by decide) rfl
      have hKc := hK.sub (tys' := []) [] rfl
      have hFc := va_free (wc := (wwX4 q_rg rg_a rg_x rg_y rg_s rg_flags rg_p)) hD hS hA [1] rfl
      refine va_calli (va_runV (As := [.int (4:Int32)]) (rest := []) ⟨hx, hb, hml, hown, hts⟩ (mX4_has l dC dI q_rg H.size rg_a rg_x rg_y rg_s rg_flags rg_p (4:Int32)) (cwV 1 hts (ub_V kMX3_144 kYX4_has kSX4_has kIX4 kBX4_has) rfl rfl rfl (by decide +kernel) ⟨Nat.le_of_ble_eq_true rfl, Nat.le_of_ble_eq_true rfl⟩) ⟨fun a U g mk q => by obtain ⟨q0, q1, qP, qK, qD⟩ := q; exact ⟨q0, q1, qP, va_K.moved (u := U) (U := U.calling g mk a) (Vm.Alike.refl U.vm) qK, qD⟩, va_recv hKc hPc (ci := 4) (q0 := 0) rfl rfl, fun U hU hW => ⟨rfl, by rw [hU], by rw [hU]; exact hPc, va_K.moved hW.alike hKc, hDc.weaken (fun _ _ _ _ => trivial)⟩⟩ rfl rfl hl.1 rfl (lv_room (Nat.le_of_ble_eq_true rfl)) dX3_begin_35 ⟨(Nat.zero_le _), (Nat.zero_le _)⟩) hS (fun q _ h => hFc q h) hFc (fun r_35 u_35 t H locs ht hvm hw hB hz1 hk1 hS => ?_)
      obtain ⟨hP1, hK1, hD1⟩ := hB
      rw [ht] at hP1
      subst hw
      obtain ⟨hP, hD⟩ := vb_back (wc := (wwX4 q_rg rg_a rg_x rg_y rg_s rg_flags rg_p)) (ws' := (wwX3 q_pr q_rg q_bu q_ra q_rA q_rc q_rk q_pi q_po q_co q_wc q_wo q_ic q_ky q_ta q_tb k_ra k_rA k_rc k_rk k_po k_co k_wc k_wo k_ky pr_stuck pr_waits pr_interruptsBegun pr_kind pr_step pr_code pr_low pr_high pr_changed pr_missing rg_a rg_x rg_y rg_s rg_flags rg_p bu_port bu_latest pi_line pi_cycle pi_control pi_compareLine pi_ground pi_border pi_base pi_flag pi_enabled pi_idle pi_bad pi_glyphLine pi_rowToFetch ic_rows ic_keysSeen ic_flags ic_enabled ta_controlBits ta_control ta_count ta_latch tb_controlBits tb_control tb_count tb_latch f_ra f_rA f_rc f_rk f_po f_co f_wc f_wo f_ky)) hP hD hD1 [1] [0, 2, 3, 4, 5, 6, 7, 8, 9, 10, 11, 12, 13, 14, 15] rfl rfl (ae_c rfl (ae_c rfl (ae_c rfl (ae_c rfl (ae_c rfl (ae_c rfl (ae_c rfl (ae_c rfl (ae_c rfl (ae_c rfl (ae_c rfl (ae_c rfl (ae_c rfl (ae_c rfl (ae_c rfl ae_n))))))))))))))) rfl rfl hk1 hP1
      refine lv_if_ne (tgt := 72) hx hb dX3_begin_38 (by decide) (fun c_38 => ?_) (fun c_38 => ?_)
      · have hF := hF.trans (if_neg c_38)
        refine lv_aload_n hx hb dX3_begin_72 rfl (lv_at hl 1 rfl) ?_
        refine lv_aload_n hx hb dX3_begin_73 rfl (lv_at hl 1 rfl) ?_
        have hPc := hP.sub (ws' := (wwX3 q_pr q_rg q_bu q_ra q_rA q_rc q_rk q_pi q_po q_co q_wc q_wo q_ic q_ky q_ta q_tb k_ra k_rA k_rc k_rk k_po k_co k_wc k_wo k_ky pr_stuck pr_waits pr_interruptsBegun pr_kind pr_step pr_code pr_low pr_high pr_changed pr_missing rg_a rg_x rg_y rg_s rg_flags rg_p bu_port bu_latest pi_line pi_cycle pi_control pi_compareLine pi_ground pi_border pi_base pi_flag pi_enabled pi_idle pi_bad pi_glyphLine pi_rowToFetch ic_rows ic_keysSeen ic_flags ic_enabled ta_controlBits ta_control ta_count ta_latch tb_controlBits tb_control tb_count tb_latch f_ra f_rA f_rc f_rk f_po f_co f_wc f_wo f_ky)) [0, 1, 2, 3, 4, 5, 6, 7, 8, 9, 10, 11, 12, 13, 14, 15] rfl
        have hDc := hD.sub (ws' := (wwX3 q_pr q_rg q_bu q_ra q_rA q_rc q_rk q_pi q_po q_co q_wc q_wo q_ic q_ky q_ta q_tb k_ra k_rA k_rc k_rk k_po k_co k_wc k_wo k_ky pr_stuck pr_waits pr_interruptsBegun pr_kind pr_step pr_code pr_low pr_high pr_changed pr_missing rg_a rg_x rg_y rg_s rg_flags rg_p bu_port bu_latest pi_line pi_cycle pi_control pi_compareLine pi_ground pi_border pi_base pi_flag pi_enabled pi_idle pi_bad pi_glyphLine pi_rowToFetch ic_rows ic_keysSeen ic_flags ic_enabled ta_controlBits ta_control ta_count ta_latch tb_controlBits tb_control tb_count tb_latch f_ra f_rA f_rc f_rk f_po f_co f_wc f_wo f_ky)) [0, 1, 2, 3, 4, 5, 6, 7, 8, 9, 10, 11, 12, 13, 14, 15] (by decide) rfl
        have hKc := hK.sub (tys' := [(k_ra, .int), (k_rA, .int), (k_rc, .int), (k_rk, .int), (k_po, .int), (k_co, .int), (k_wc, .int), (k_wo, .int), (k_ky, .int)]) [0, 1, 2, 3, 4, 5, 6, 7, 8] rfl
        have hFc := va_free (wc := (wwX3 q_pr q_rg q_bu q_ra q_rA q_rc q_rk q_pi q_po q_co q_wc q_wo q_ic q_ky q_ta q_tb k_ra k_rA k_rc k_rk k_po k_co k_wc k_wo k_ky pr_stuck pr_waits pr_interruptsBegun pr_kind pr_step pr_code pr_low pr_high pr_changed pr_missing rg_a rg_x rg_y rg_s rg_flags rg_p bu_port bu_latest pi_line pi_cycle pi_control pi_compareLine pi_ground pi_border pi_base pi_flag pi_enabled pi_idle pi_bad pi_glyphLine pi_rowToFetch ic_rows ic_keysSeen ic_flags ic_enabled ta_controlBits ta_control ta_count ta_latch tb_controlBits tb_control tb_count tb_latch f_ra f_rA f_rc f_rk f_po f_co f_wc f_wo f_ky)) hD hS hA [0, 1, 2, 3, 4, 5, 6, 7, 8, 9, 10, 11, 12, 13, 14, 15] rfl
        refine va_calli (va_runV (As := []) (rest := [.ref q_pr]) ⟨hx, hb, hml, hown, hts⟩ (mX3_nextByte l dC dI q_pr q_rg q_bu q_ra q_rA q_rc q_rk q_pi q_po q_co q_wc q_wo q_ic q_ky q_ta q_tb k_ra k_rA k_rc k_rk k_po k_co k_wc k_wo k_ky H.size pr_stuck pr_waits pr_interruptsBegun pr_kind pr_step pr_code pr_low pr_high pr_changed pr_missing rg_a rg_x rg_y rg_s rg_flags rg_p bu_port bu_latest pi_line pi_cycle pi_control pi_compareLine pi_ground pi_border pi_base pi_flag pi_enabled pi_idle pi_bad pi_glyphLine pi_rowToFetch ic_rows ic_keysSeen ic_flags ic_enabled ta_controlBits ta_control ta_count ta_latch tb_controlBits tb_control tb_count tb_latch f_ra f_rA f_rc f_rk f_po f_co f_wc f_wo f_ky) (cwV 0 hts (ub_V kMX3_148 kYX3_nextByte kSX3_nextByte kIX3 kBX3_nextByte) rfl rfl rfl (by decide +kernel) ⟨Nat.le_of_ble_eq_true rfl, Nat.le_of_ble_eq_true rfl⟩) ⟨fun a U g mk q => by obtain ⟨q0, q1, qP, qK, qD⟩ := q; exact ⟨q0, q1, qP, va_K.moved (u := U) (U := U.calling g mk a) (Vm.Alike.refl U.vm) qK, qD⟩, va_recv hKc hPc (ci := 3) (q0 := 0) rfl rfl, fun U hU hW => ⟨rfl, by rw [hU], by rw [hU]; exact hPc, va_K.moved hW.alike hKc, hDc.weaken (fun _ _ _ _ => trivial)⟩⟩ rfl rfl hl.1 rfl (lv_room (Nat.le_of_ble_eq_true rfl)) dX3_begin_74 ⟨(Nat.zero_le _), (Nat.zero_le _)⟩) hS (fun q _ h => hFc q h) hFc (fun r_74 u_74 t H locs ht hvm hw hB hz1 hk1 hS => ?_)
        obtain ⟨rg_p_74, bu_latest_74, ic_flags_74⟩ := u_74
        obtain ⟨hP1, hK1, hD1⟩ := hB
        rw [ht] at hP1
        obtain ⟨hP, hD⟩ := vb_back (wc := (wwX3 q_pr q_rg q_bu q_ra q_rA q_rc q_rk q_pi q_po q_co q_wc q_wo q_ic q_ky q_ta q_tb k_ra k_rA k_rc k_rk k_po k_co k_wc k_wo k_ky pr_stuck pr_waits pr_interruptsBegun pr_kind pr_step pr_code pr_low pr_high pr_changed pr_missing rg_a rg_x rg_y rg_s rg_flags rg_p bu_port bu_latest pi_line pi_cycle pi_control pi_compareLine pi_ground pi_border pi_base pi_flag pi_enabled pi_idle pi_bad pi_glyphLine pi_rowToFetch ic_rows ic_keysSeen ic_flags ic_enabled ta_controlBits ta_control ta_count ta_latch tb_controlBits tb_control tb_count tb_latch f_ra f_rA f_rc f_rk f_po f_co f_wc f_wo f_ky)) (ws' := (wwX3 q_pr q_rg q_bu q_ra q_rA q_rc q_rk q_pi q_po q_co q_wc q_wo q_ic q_ky q_ta q_tb k_ra k_rA k_rc k_rk k_po k_co k_wc k_wo k_ky pr_stuck pr_waits pr_interruptsBegun pr_kind pr_step pr_code pr_low pr_high pr_changed pr_missing rg_a rg_x rg_y rg_s rg_flags rg_p_74 bu_port bu_latest_74 pi_line pi_cycle pi_control pi_compareLine pi_ground pi_border pi_base pi_flag pi_enabled pi_idle pi_bad pi_glyphLine pi_rowToFetch ic_rows ic_keysSeen ic_flags_74 ic_enabled ta_controlBits ta_control ta_count ta_latch tb_controlBits tb_control tb_count tb_latch f_ra f_rA f_rc f_rk f_po f_co f_wc f_wo f_ky)) hP hD hD1 [0, 1, 2, 3, 4, 5, 6, 7, 8, 9, 10, 11, 12, 13, 14, 15] [] rfl rfl ae_n rfl rfl hk1 hP1
        rw [← hw] at hF
        dsimp only at hF
        refine va_put (D := (dC, dI)) (ci := 3) (v := .int r_74) (ty := .int) (C := RX3) (T := TX3) (N := 14) hx hb hts hiX3 tyX3 tyX3_ok nmX3 hown hK hP hD hS 0 rfl rfl 9 (by decide) (hts _ kFX3_119) (fun _ h9 => h9) rfl (by decide +kernel) rfl rfl (Nat.le_of_ble_eq_true rfl) dX3_begin_77 (fun H locs hP hD hS => ?_)
        have hP : va_P (dC, dI) vwCl (wwX3 q_pr q_rg q_bu q_ra q_rA q_rc q_rk q_pi q_po q_co q_wc q_wo q_ic q_ky q_ta q_tb k_ra k_rA k_rc k_rk k_po k_co k_wc k_wo k_ky pr_stuck pr_waits pr_interruptsBegun pr_kind pr_step r_74 pr_low pr_high pr_changed pr_missing rg_a rg_x rg_y rg_s rg_flags rg_p_74 bu_port bu_latest_74 pi_line pi_cycle pi_control pi_compareLine pi_ground pi_border pi_base pi_flag pi_enabled pi_idle pi_bad pi_glyphLine pi_rowToFetch ic_rows ic_keysSeen ic_flags_74 ic_enabled ta_controlBits ta_control ta_count ta_latch tb_controlBits tb_control tb_count tb_latch f_ra f_rA f_rc f_rk f_po f_co f_wc f_wo f_ky) H := hP
        have hD : va_D A (wwX3 q_pr q_rg q_bu q_ra q_rA q_rc q_rk q_pi q_po q_co q_wc q_wo q_ic q_ky q_ta q_tb k_ra k_rA k_rc k_rk k_po k_co k_wc k_wo k_ky pr_stuck pr_waits pr_interruptsBegun pr_kind pr_step r_74 pr_low pr_high pr_changed pr_missing rg_a rg_x rg_y rg_s rg_flags rg_p_74 bu_port bu_latest_74 pi_line pi_cycle pi_control pi_compareLine pi_ground pi_border pi_base pi_flag pi_enabled pi_idle pi_bad pi_glyphLine pi_rowToFetch ic_rows ic_keysSeen ic_flags_74 ic_enabled ta_controlBits ta_control ta_count ta_latch tb_controlBits tb_control tb_count tb_latch f_ra f_rA f_rc f_rk f_po f_co f_wc f_wo f_ky) := hD
        refine lv_aload_n hx hb dX3_begin_80 rfl (lv_at hl 1 rfl) ?_
        refine lv_aload_n hx hb dX3_begin_81 rfl (lv_at hl 1 rfl) ?_
        refine va_get (D := (dC, dI)) (ci := 3) (v := .int r_74) (C := RX3) (T := TX3) (N := 14) hx hb hts hiX3 hown hK hP 0 rfl rfl 9 (by decide) (hts _ kFX3_119) (fun _ h9 => h9) rfl dX3_begin_82 ?_
        have hPc := hP.sub (ws' := ([] : va_W)) [] rfl
        have hDc := hD.sub (ws' := ([] : va_W)) [] (by decide) rfl
        have hKc := hK.sub (tys' := []) [] rfl
        have hFc := va_free (wc := ([] : va_W)) hD hS hA [] rfl
        refine va_calli (va_runS (As := [.int r_74]) (rest := [.ref q_pr]) ⟨hx, hb, hml, hown, hts⟩ (mX3_kindOf l dC dI H.size r_74) (va_cwS 1 hts (ub_S kMX3_152 kTX3_kindOf kIX3 kBX3_kindOf) rfl rfl rfl (by decide +kernel) ⟨Nat.le_of_ble_eq_true rfl, Nat.le_of_ble_eq_true rfl⟩) ⟨fun a U g mk q => by obtain ⟨q0, q1, qP, qK, qD⟩ := q; exact ⟨q0, q1, qP, va_K.moved (u := U) (U := U.calling g mk a) (Vm.Alike.refl U.vm) qK, qD⟩, fun U hU hW => ⟨rfl, by rw [hU], by rw [hU]; exact hPc, va_K.moved hW.alike hKc, hDc.weaken (fun _ _ _ _ => trivial)⟩⟩ rfl rfl hl.1 rfl (lv_room (Nat.le_of_ble_eq_true rfl)) dX3_begin_85 ⟨(Nat.zero_le _), (Nat.zero_le _)⟩) hS (fun q _ h => hFc q h) hFc (fun r_85 u_85 t H locs ht hvm hw hB hz1 hk1 hS => ?_)
        obtain ⟨hP1, hK1, hD1⟩ := hB
        rw [ht] at hP1
        subst hw
        obtain ⟨hP, hD⟩ := vb_back (wc := ([] : va_W)) (ws' := (wwX3 q_pr q_rg q_bu q_ra q_rA q_rc q_rk q_pi q_po q_co q_wc q_wo q_ic q_ky q_ta q_tb k_ra k_rA k_rc k_rk k_po k_co k_wc k_wo k_ky pr_stuck pr_waits pr_interruptsBegun pr_kind pr_step r_74 pr_low pr_high pr_changed pr_missing rg_a rg_x rg_y rg_s rg_flags rg_p_74 bu_port bu_latest_74 pi_line pi_cycle pi_control pi_compareLine pi_ground pi_border pi_base pi_flag pi_enabled pi_idle pi_bad pi_glyphLine pi_rowToFetch ic_rows ic_keysSeen ic_flags_74 ic_enabled ta_controlBits ta_control ta_count ta_latch tb_controlBits tb_control tb_count tb_latch f_ra f_rA f_rc f_rk f_po f_co f_wc f_wo f_ky)) hP hD hD1 [] [0, 1, 2, 3, 4, 5, 6, 7, 8, 9, 10, 11, 12, 13, 14, 15] rfl rfl (ae_c rfl (ae_c rfl (ae_c rfl (ae_c rfl (ae_c rfl (ae_c rfl (ae_c rfl (ae_c rfl (ae_c rfl (ae_c rfl (ae_c rfl (ae_c rfl (ae_c rfl (ae_c rfl (ae_c rfl (ae_c rfl ae_n)))))))))))))))) rfl rfl hk1 hP1
        refine va_put (D := (dC, dI)) (ci := 3) (v := .int (fX3_kindOf r_74)) (ty := .int) (C := RX3) (T := TX3) (N := 14) hx hb hts hiX3 tyX3 tyX3_ok nmX3 hown hK hP hD hS 0 rfl rfl 7 (by decide) (hts _ kFX3_22) (fun _ h9 => h9) rfl (by decide +kernel) rfl rfl (Nat.le_of_ble_eq_true rfl) dX3_begin_88 (fun H locs hP hD hS => ?_)
        have hP : va_P (dC, dI) vwCl (wwX3 q_pr q_rg q_bu q_ra q_rA q_rc q_rk q_pi q_po q_co q_wc q_wo q_ic q_ky q_ta q_tb k_ra k_rA k_rc k_rk k_po k_co k_wc k_wo k_ky pr_stuck pr_waits pr_interruptsBegun (fX3_kindOf r_74) pr_step r_74 pr_low pr_high pr_changed pr_missing rg_a rg_x rg_y rg_s rg_flags rg_p_74 bu_port bu_latest_74 pi_line pi_cycle pi_control pi_compareLine pi_ground pi_border pi_base pi_flag pi_enabled pi_idle pi_bad pi_glyphLine pi_rowToFetch ic_rows ic_keysSeen ic_flags_74 ic_enabled ta_controlBits ta_control ta_count ta_latch tb_controlBits tb_control tb_count tb_latch f_ra f_rA f_rc f_rk f_po f_co f_wc f_wo f_ky) H := hP
        have hD : va_D A (wwX3 q_pr q_rg q_bu q_ra q_rA q_rc q_rk q_pi q_po q_co q_wc q_wo q_ic q_ky q_ta q_tb k_ra k_rA k_rc k_rk k_po k_co k_wc k_wo k_ky pr_stuck pr_waits pr_interruptsBegun (fX3_kindOf r_74) pr_step r_74 pr_low pr_high pr_changed pr_missing rg_a rg_x rg_y rg_s rg_flags rg_p_74 bu_port bu_latest_74 pi_line pi_cycle pi_control pi_compareLine pi_ground pi_border pi_base pi_flag pi_enabled pi_idle pi_bad pi_glyphLine pi_rowToFetch ic_rows ic_keysSeen ic_flags_74 ic_enabled ta_controlBits ta_control ta_count ta_latch tb_controlBits tb_control tb_count tb_latch f_ra f_rA f_rc f_rk f_po f_co f_wc f_wo f_ky) := hD
        refine lv_aload_n hx hb dX3_begin_91 rfl (lv_at hl 1 rfl) ?_
        refine lv_aload_n hx hb dX3_begin_92 rfl (lv_at hl 1 rfl) ?_
        refine va_get (D := (dC, dI)) (ci := 3) (v := .int (fX3_kindOf r_74)) (C := RX3) (T := TX3) (N := 14) hx hb hts hiX3 hown hK hP 0 rfl rfl 7 (by decide) (hts _ kFX3_22) (fun _ h9 => h9) rfl dX3_begin_93 ?_
        refine lv_iconst (v := 1) hx hb dX3_begin_96 (by decide) ?_
        refine vj_join (j := 105) (rest := [.ref q_pr]) (Hyp := fun z H locs => z = (if (fX3_kindOf r_74) = (1:Int32) then (1:Int32) else (0:Int32)) ∧ va_P (dC, dI) vwCl (wwX3 q_pr q_rg q_bu q_ra q_rA q_rc q_rk q_pi q_po q_co q_wc q_wo q_ic q_ky q_ta q_tb k_ra k_rA k_rc k_rk k_po k_co k_wc k_wo k_ky pr_stuck pr_waits pr_interruptsBegun (fX3_kindOf r_74) pr_step r_74 pr_low pr_high pr_changed pr_missing rg_a rg_x rg_y rg_s rg_flags rg_p_74 bu_port bu_latest_74 pi_line pi_cycle pi_control pi_compareLine pi_ground pi_border pi_base pi_flag pi_enabled pi_idle pi_bad pi_glyphLine pi_rowToFetch ic_rows ic_keysSeen ic_flags_74 ic_enabled ta_controlBits ta_control ta_count ta_latch tb_controlBits tb_control tb_count tb_latch f_ra f_rA f_rc f_rk f_po f_co f_wc f_wo f_ky) H ∧ va_S A s.heap H locs) (fun z H locs hh => ?_) (fun J105 => ?_)
        · obtain ⟨hz, hP, hS⟩ := hh
          subst hz
          refine va_put (D := (dC, dI)) (ci := 3) (v := .int (if (fX3_kindOf r_74) = (1:Int32) then (1:Int32) else (0:Int32))) (ty := .boolean) (C := RX3) (T := TX3) (N := 14) hx hb hts hiX3 tyX3 tyX3_ok nmX3 hown hK hP hD hS 0 rfl rfl 1 (by decide) (hts _ kFX3_18) (fun _ h9 => h9) rfl (by decide +kernel) (nb_if rfl rfl) (ft_if rfl rfl) (Nat.le_of_ble_eq_true rfl) dX3_begin_105 (fun H locs hP hD hS => ?_)
          have hP : va_P (dC, dI) vwCl (wwX3 q_pr q_rg q_bu q_ra q_rA q_rc q_rk q_pi q_po q_co q_wc q_wo q_ic q_ky q_ta q_tb k_ra k_rA k_rc k_rk k_po k_co k_wc k_wo k_ky (if (fX3_kindOf r_74) = (1:Int32) then (1:Int32) else (0:Int32)) pr_waits pr_interruptsBegun (fX3_kindOf r_74) pr_step r_74 pr_low pr_high pr_changed pr_missing rg_a rg_x rg_y rg_s rg_flags rg_p_74 bu_port bu_latest_74 pi_line pi_cycle pi_control pi_compareLine pi_ground pi_border pi_base pi_flag pi_enabled pi_idle pi_bad pi_glyphLine pi_rowToFetch ic_rows ic_keysSeen ic_flags_74 ic_enabled ta_controlBits ta_control ta_count ta_latch tb_controlBits tb_control tb_count tb_latch f_ra f_rA f_rc f_rk f_po f_co f_wc f_wo f_ky) H := hP
          have hD : va_D A (wwX3 q_pr q_rg q_bu q_ra q_rA q_rc q_rk q_pi q_po q_co q_wc q_wo q_ic q_ky q_ta q_tb k_ra k_rA k_rc k_rk k_po k_co k_wc k_wo k_ky (if (fX3_kindOf r_74) = (1:Int32) then (1:Int32) else (0:Int32)) pr_waits pr_interruptsBegun (fX3_kindOf r_74) pr_step r_74 pr_low pr_high pr_changed pr_missing rg_a rg_x rg_y rg_s rg_flags rg_p_74 bu_port bu_latest_74 pi_line pi_cycle pi_control pi_compareLine pi_ground pi_border pi_base pi_flag pi_enabled pi_idle pi_bad pi_glyphLine pi_rowToFetch ic_rows ic_keysSeen ic_flags_74 ic_enabled ta_controlBits ta_control ta_count ta_latch tb_controlBits tb_control tb_count tb_latch f_ra f_rA f_rc f_rk f_po f_co f_wc f_wo f_ky) := hD
          exact W.vret hx hb hr (fun t ht hW => ⟨⟨((if (fX3_kindOf r_74) = (1:Int32) then (1:Int32) else (0:Int32)), pr_interruptsBegun, (fX3_kindOf r_74), r_74, rg_p_74, bu_latest_74, ic_flags_74), rfl, hF.symm, by rw [ht]; exact hP, va_K.moved hW.alike hK, hD⟩, hS.F ht⟩) hS.2.2 dX3_begin_108
        · refine lv_icmp_ne (tgt := 104) hx hb dX3_begin_97 (by decide) (fun c_97 => ?_) (fun c_97 => ?_)
          · refine lv_iconst (v := 0) hx hb dX3_begin_104 (by decide) ?_
            exact J105 _ _ _ ⟨by rw [if_neg c_97], hP, hS⟩
          · refine lv_iconst (v := 1) hx hb dX3_begin_100 (by decide) ?_
            refine lv_goto (tgt := 105) hx hb dX3_begin_101 (by decide) ?_
            exact J105 _ _ _ ⟨by rw [if_pos c_97], hP, hS⟩
      · have hF := hF.trans (if_pos c_38)
        refine lv_aload_n hx hb dX3_begin_41 rfl (lv_at hl 1 rfl) ?_
        refine lv_dup hx hb dX3_begin_42 rfl ?_
        refine va_get (D := (dC, dI)) (ci := 3) (v := .int pr_interruptsBegun) (C := RX3) (T := TX3) (N := 14) hx hb hts hiX3 hown hK hP 0 rfl rfl 3 (by decide) (hts _ kFX3_55) (fun _ h9 => h9) rfl dX3_begin_43 ?_
        refine lv_iconst (v := 1) hx hb dX3_begin_46 (by decide) ?_
        refine lv_iadd hx hb dX3_begin_47 ?_
        refine va_put (D := (dC, dI)) (ci := 3) (v := .int (pr_interruptsBegun + (1:Int32))) (ty := .int) (C := RX3) (T := TX3) (N := 14) hx hb hts hiX3 tyX3 tyX3_ok nmX3 hown hK hP hD hS 0 rfl rfl 3 (by decide) (hts _ kFX3_55) (fun _ h9 => h9) rfl (by decide +kernel) rfl rfl (Nat.le_of_ble_eq_true rfl) dX3_begin_48 (fun H locs hP hD hS => ?_)
        have hP : va_P (dC, dI) vwCl (wwX3 q_pr q_rg q_bu q_ra q_rA q_rc q_rk q_pi q_po q_co q_wc q_wo q_ic q_ky q_ta q_tb k_ra k_rA k_rc k_rk k_po k_co k_wc k_wo k_ky pr_stuck pr_waits (pr_interruptsBegun + (1:Int32)) pr_kind pr_step pr_code pr_low pr_high pr_changed pr_missing rg_a rg_x rg_y rg_s rg_flags rg_p bu_port bu_latest pi_line pi_cycle pi_control pi_compareLine pi_ground pi_border pi_base pi_flag pi_enabled pi_idle pi_bad pi_glyphLine pi_rowToFetch ic_rows ic_keysSeen ic_flags ic_enabled ta_controlBits ta_control ta_count ta_latch tb_controlBits tb_control tb_count tb_latch f_ra f_rA f_rc f_rk f_po f_co f_wc f_wo f_ky) H := hP
        have hD : va_D A (wwX3 q_pr q_rg q_bu q_ra q_rA q_rc q_rk q_pi q_po q_co q_wc q_wo q_ic q_ky q_ta q_tb k_ra k_rA k_rc k_rk k_po k_co k_wc k_wo k_ky pr_stuck pr_waits (pr_interruptsBegun + (1:Int32)) pr_kind pr_step pr_code pr_low pr_high pr_changed pr_missing rg_a rg_x rg_y rg_s rg_flags rg_p bu_port bu_latest pi_line pi_cycle pi_control pi_compareLine pi_ground pi_border pi_base pi_flag pi_enabled pi_idle pi_bad pi_glyphLine pi_rowToFetch ic_rows ic_keysSeen ic_flags ic_enabled ta_controlBits ta_control ta_count ta_latch tb_controlBits tb_control tb_count tb_latch f_ra f_rA f_rc f_rk f_po f_co f_wc f_wo f_ky) := hD
        refine lv_aload_n hx hb dX3_begin_51 rfl (lv_at hl 1 rfl) ?_
        refine lv_iconst (v := 2) hx hb dX3_begin_52 (by decide) ?_
        refine va_put (D := (dC, dI)) (ci := 3) (v := .int (2:Int32)) (ty := .int) (C := RX3) (T := TX3) (N := 14) hx hb hts hiX3 tyX3 tyX3_ok nmX3 hown hK hP hD hS 0 rfl rfl 7 (by decide) (hts _ kFX3_22) (fun _ h9 => h9) rfl (by decide +kernel) rfl rfl (Nat.le_of_ble_eq_true rfl) dX3_begin_53 (fun H locs hP hD hS => ?_)
        have hP : va_P (dC, dI) vwCl (wwX3 q_pr q_rg q_bu q_ra q_rA q_rc q_rk q_pi q_po q_co q_wc q_wo q_ic q_ky q_ta q_tb k_ra k_rA k_rc k_rk k_po k_co k_wc k_wo k_ky pr_stuck pr_waits (pr_interruptsBegun + (1:Int32)) (2:Int32) pr_step pr_code pr_low pr_high pr_changed pr_missing rg_a rg_x rg_y rg_s rg_flags rg_p bu_port bu_latest pi_line pi_cycle pi_control pi_compareLine pi_ground pi_border pi_base pi_flag pi_enabled pi_idle pi_bad pi_glyphLine pi_rowToFetch ic_rows ic_keysSeen ic_flags ic_enabled ta_controlBits ta_control ta_count ta_latch tb_controlBits tb_control tb_count tb_latch f_ra f_rA f_rc f_rk f_po f_co f_wc f_wo f_ky) H := hP
        have hD : va_D A (wwX3 q_pr q_rg q_bu q_ra q_rA q_rc q_rk q_pi q_po q_co q_wc q_wo q_ic q_ky q_ta q_tb k_ra k_rA k_rc k_rk k_po k_co k_wc k_wo k_ky pr_stuck pr_waits (pr_interruptsBegun + (1:Int32)) (2:Int32) pr_step pr_code pr_low pr_high pr_changed pr_missing rg_a rg_x rg_y rg_s rg_flags rg_p bu_port bu_latest pi_line pi_cycle pi_control pi_compareLine pi_ground pi_border pi_base pi_flag pi_enabled pi_idle pi_bad pi_glyphLine pi_rowToFetch ic_rows ic_keysSeen ic_flags ic_enabled ta_controlBits ta_control ta_count ta_latch tb_controlBits tb_control tb_count tb_latch f_ra f_rA f_rc f_rk f_po f_co f_wc f_wo f_ky) := hD
        refine lv_aload_n hx hb dX3_begin_56 rfl (lv_at hl 1 rfl) ?_
        refine va_get (D := (dC, dI)) (ci := 3) (v := .ref q_bu) (C := RX3) (T := TX3) (N := 14) hx hb hts hiX3 hown hK hP 0 rfl rfl 4 (by decide) (hts _ kFX3_26) (fun _ h9 => h9) rfl dX3_begin_57 ?_
        refine lv_aload_n hx hb dX3_begin_60 rfl (lv_at hl 1 rfl) ?_
        refine va_get (D := (dC, dI)) (ci := 3) (v := .ref q_rg) (C := RX3) (T := TX3) (N := 14) hx hb hts hiX3 hown hK hP 0 rfl rfl 0 (by decide) (hts _ kFX3_12) (fun _ h9 => h9) rfl dX3_begin_61 ?_
        refine va_get (D := (dC, dI)) (ci := 4) (v := .int rg_p) (C := RX4) (T := TX4) (N := 6) hx hb hts hiX4 hown hK hP 1 rfl rfl 5 (by decide) (hts _ kFX3_122) (fun _ h9 => h9) rfl dX3_begin_64 ?_
        have hPc := hP.sub (ws' := (wwX0 q_bu q_ra q_rA q_rc q_rk q_pi q_po q_co q_wc q_wo q_ic q_ky q_ta q_tb k_ra k_rA k_rc k_rk k_po k_co k_wc k_wo k_ky bu_port bu_latest pi_line pi_cycle pi_control pi_compareLine pi_ground pi_border pi_base pi_flag pi_enabled pi_idle pi_bad pi_glyphLine pi_rowToFetch ic_rows ic_keysSeen ic_flags ic_enabled ta_controlBits ta_control ta_count ta_latch tb_controlBits tb_control tb_count tb_latch f_ra f_rA f_rc f_rk f_po f_co f_wc f_wo f_ky)) [2, 3, 4, 5, 6, 7, 8, 9, 10, 11, 12, 13, 14, 15] rfl
        have hDc := hD.sub (ws' := (wwX0 q_bu q_ra q_rA q_rc q_rk q_pi q_po q_co q_wc q_wo q_ic q_ky q_ta q_tb k_ra k_rA k_rc k_rk k_po k_co k_wc k_wo k_ky bu_port bu_latest pi_line pi_cycle pi_control pi_compareLine pi_ground pi_border pi_base pi_flag pi_enabled pi_idle pi_bad pi_glyphLine pi_rowToFetch ic_rows ic_keysSeen ic_flags ic_enabled ta_controlBits ta_control ta_count ta_latch tb_controlBits tb_control tb_count tb_latch f_ra f_rA f_rc f_rk f_po f_co f_wc f_wo f_ky)) [2, 3, 4, 5, 6, 7, 8, 9, 10, 11, 12, 13, 14, 15] (by decide) rfl
        have hKc := hK.sub (tys' := [(k_ra, .int), (k_rA, .int), (k_rc, .int), (k_rk, .int), (k_po, .int), (k_co, .int), (k_wc, .int), (k_wo, .int), (k_ky, .int)]) [0, 1, 2, 3, 4, 5, 6, 7, 8] rfl
        have hFc := va_free (wc := (wwX0 q_bu q_ra q_rA q_rc q_rk q_pi q_po q_co q_wc q_wo q_ic q_ky q_ta q_tb k_ra k_rA k_rc k_rk k_po k_co k_wc k_wo k_ky bu_port bu_latest pi_line pi_cycle pi_control pi_compareLine pi_ground pi_border pi_base pi_flag pi_enabled pi_idle pi_bad pi_glyphLine pi_rowToFetch ic_rows ic_keysSeen ic_flags ic_enabled ta_controlBits ta_control ta_count ta_latch tb_controlBits tb_control tb_count tb_latch f_ra f_rA f_rc f_rk f_po f_co f_wc f_wo f_ky)) hD hS hA [2, 3, 4, 5, 6, 7, 8, 9, 10, 11, 12, 13, 14, 15] rfl
        refine va_calli (va_runV (As := [.int rg_p]) (rest := []) ⟨hx, hb, hml, hown, hts⟩ (mX0_read l dC dI q_bu q_ra q_rA q_rc q_rk q_pi q_po q_co q_wc q_wo q_ic q_ky q_ta q_tb k_ra k_rA k_rc k_rk k_po k_co k_wc k_wo k_ky H.size bu_port bu_latest pi_line pi_cycle pi_control pi_compareLine pi_ground pi_border pi_base pi_flag pi_enabled pi_idle pi_bad pi_glyphLine pi_rowToFetch ic_rows ic_keysSeen ic_flags ic_enabled ta_controlBits ta_control ta_count ta_latch tb_controlBits tb_control tb_count tb_latch f_ra f_rA f_rc f_rk f_po f_co f_wc f_wo f_ky rg_p) (cwV 1 hts (ub_V kMX3_125 kYX0_read kSX0_read kIX0 kBX0_read) rfl rfl rfl (by decide +kernel) ⟨Nat.le_of_ble_eq_true rfl, Nat.le_of_ble_eq_true rfl⟩) ⟨fun a U g mk q => by obtain ⟨q0, q1, qP, qK, qD⟩ := q; exact ⟨q0, q1, qP, va_K.moved (u := U) (U := U.calling g mk a) (Vm.Alike.refl U.vm) qK, qD⟩, va_recv hKc hPc (ci := 0) (q0 := 0) rfl rfl, fun U hU hW => ⟨rfl, by rw [hU], by rw [hU]; exact hPc, va_K.moved hW.alike hKc, hDc.weaken (fun _ _ _ _ => trivial)⟩⟩ rfl rfl hl.1 rfl (lv_room (Nat.le_of_ble_eq_true rfl)) dX3_begin_67 ⟨(Nat.zero_le _), (Nat.zero_le _)⟩) hS (fun q _ h => hFc q h) hFc (fun r_67 u_67 t H locs ht hvm hw hB hz1 hk1 hS => ?_)
        obtain ⟨bu_latest_67, ic_flags_67⟩ := u_67
        obtain ⟨hP1, hK1, hD1⟩ := hB
        rw [ht] at hP1
        obtain ⟨hP, hD⟩ := vb_back (wc := (wwX0 q_bu q_ra q_rA q_rc q_rk q_pi q_po q_co q_wc q_wo q_ic q_ky q_ta q_tb k_ra k_rA k_rc k_rk k_po k_co k_wc k_wo k_ky bu_port bu_latest pi_line pi_cycle pi_control pi_compareLine pi_ground pi_border pi_base pi_flag pi_enabled pi_idle pi_bad pi_glyphLine pi_rowToFetch ic_rows ic_keysSeen ic_flags ic_enabled ta_controlBits ta_control ta_count ta_latch tb_controlBits tb_control tb_count tb_latch f_ra f_rA f_rc f_rk f_po f_co f_wc f_wo f_ky)) (ws' := (wwX3 q_pr q_rg q_bu q_ra q_rA q_rc q_rk q_pi q_po q_co q_wc q_wo q_ic q_ky q_ta q_tb k_ra k_rA k_rc k_rk k_po k_co k_wc k_wo k_ky pr_stuck pr_waits (pr_interruptsBegun + (1:Int32)) (2:Int32) pr_step pr_code pr_low pr_high pr_changed pr_missing rg_a rg_x rg_y rg_s rg_flags rg_p bu_port bu_latest_67 pi_line pi_cycle pi_control pi_compareLine pi_ground pi_border pi_base pi_flag pi_enabled pi_idle pi_bad pi_glyphLine pi_rowToFetch ic_rows ic_keysSeen ic_flags_67 ic_enabled ta_controlBits ta_control ta_count ta_latch tb_controlBits tb_control tb_count tb_latch f_ra f_rA f_rc f_rk f_po f_co f_wc f_wo f_ky)) hP hD hD1 [2, 3, 4, 5, 6, 7, 8, 9, 10, 11, 12, 13, 14, 15] [0, 1] rfl rfl (ae_c rfl (ae_c rfl ae_n)) rfl rfl hk1 hP1
        rw [← hw] at hF
        dsimp only at hF
        refine lv_pop hx hb dX3_begin_70 rfl ?_
        exact W.vret hx hb hr (fun t ht hW => ⟨⟨(pr_stuck, (pr_interruptsBegun + (1:Int32)), (2:Int32), pr_code, rg_p, bu_latest_67, ic_flags_67), rfl, hF.symm, by rw [ht]; exact hP, va_K.moved hW.alike hK, hD⟩, hS.F ht⟩) hS.2.2 dX3_begin_71
  · refine lv_if_ne (tgt := 20) hx hb dX3_begin_7 (by decide) (fun c_7 => ?_) (fun c_7 => ?_)
    · refine lv_iconst (v := 1) hx hb dX3_begin_20 (by decide) ?_
      refine lv_goto (tgt := 25) hx hb dX3_begin_21 (by decide) ?_
      exact J25 _ _ _ ⟨by rw [if_neg c_7], hP, hS⟩
    · refine lv_aload_n hx hb dX3_begin_10 rfl (lv_at hl 0 rfl) ?_
      refine va_get (D := (dC, dI)) (ci := 3) (v := .ref q_ic) (C := RX3) (T := TX3) (N := 14) hx hb hts hiX3 hown hK hP 0 rfl rfl 6 (by decide) (hts _ kFX3_34) (fun _ h9 => h9) rfl dX3_begin_11 ?_
      have hPc := hP.sub (ws' := (wwX1 q_ic q_ky q_ta q_tb k_ky ic_rows ic_keysSeen ic_flags ic_enabled ta_controlBits ta_control ta_count ta_latch tb_controlBits tb_control tb_count tb_latch f_ky)) [12, 13, 14, 15] rfl
      have hDc := hD.sub (ws' := (wwX1 q_ic q_ky q_ta q_tb k_ky ic_rows ic_keysSeen ic_flags ic_enabled ta_controlBits ta_control ta_count ta_latch tb_controlBits tb_control tb_count tb_latch f_ky)) [12, 13, 14, 15] (by decide) rfl
      have hKc := hK.sub (tys' := [(k_ky, .int)]) [8] rfl
      have hFc := va_free (wc := (wwX1 q_ic q_ky q_ta q_tb k_ky ic_rows ic_keysSeen ic_flags ic_enabled ta_controlBits ta_control ta_count ta_latch tb_controlBits tb_control tb_count tb_latch f_ky)) hD hS hA [12, 13, 14, 15] rfl
      refine va_calli (va_runV (As := []) (rest := []) ⟨hx, hb, hml, hown, hts⟩ (mX1_asksInterrupt l dC dI q_ic q_ky q_ta q_tb k_ky H.size ic_rows ic_keysSeen ic_flags ic_enabled ta_controlBits ta_control ta_count ta_latch tb_controlBits tb_control tb_count tb_latch f_ky) (cwV 0 hts (ub_V kMX3_141 kYX1_asksInterrupt kSX1_asksInterrupt kIX1 kBX1_asksInterrupt) rfl rfl rfl (by decide +kernel) ⟨Nat.le_of_ble_eq_true rfl, Nat.le_of_ble_eq_true rfl⟩) ⟨fun a U g mk q => by obtain ⟨q0, q1, qP, qK, qD⟩ := q; exact ⟨q0, q1, qP, va_K.moved (u := U) (U := U.calling g mk a) (Vm.Alike.refl U.vm) qK, qD⟩, va_recv hKc hPc (ci := 1) (q0 := 0) rfl rfl, fun U hU hW => ⟨rfl, by rw [hU], by rw [hU]; exact hPc, va_K.moved hW.alike hKc, hDc.weaken (fun _ _ _ _ => trivial)⟩⟩ rfl rfl hl.1 rfl (lv_room (Nat.le_of_ble_eq_true rfl)) dX3_begin_14 ⟨(Nat.zero_le _), (Nat.zero_le _)⟩) hS (fun q _ h => hFc q h) hFc (fun r_14 u_14 t H locs ht hvm hw hB hz1 hk1 hS => ?_)
      obtain ⟨hP1, hK1, hD1⟩ := hB
      rw [ht] at hP1
      subst hw
      obtain ⟨hP, hD⟩ := vb_back (wc := (wwX1 q_ic q_ky q_ta q_tb k_ky ic_rows ic_keysSeen ic_flags ic_enabled ta_controlBits ta_control ta_count ta_latch tb_controlBits tb_control tb_count tb_latch f_ky)) (ws' := (wwX3 q_pr q_rg q_bu q_ra q_rA q_rc q_rk q_pi q_po q_co q_wc q_wo q_ic q_ky q_ta q_tb k_ra k_rA k_rc k_rk k_po k_co k_wc k_wo k_ky pr_stuck pr_waits pr_interruptsBegun pr_kind pr_step pr_code pr_low pr_high pr_changed pr_missing rg_a rg_x rg_y rg_s rg_flags rg_p bu_port bu_latest pi_line pi_cycle pi_control pi_compareLine pi_ground pi_border pi_base pi_flag pi_enabled pi_idle pi_bad pi_glyphLine pi_rowToFetch ic_rows ic_keysSeen ic_flags ic_enabled ta_controlBits ta_control ta_count ta_latch tb_controlBits tb_control tb_count tb_latch f_ra f_rA f_rc f_rk f_po f_co f_wc f_wo f_ky)) hP hD hD1 [12, 13, 14, 15] [0, 1, 2, 3, 4, 5, 6, 7, 8, 9, 10, 11] rfl rfl (ae_c rfl (ae_c rfl (ae_c rfl (ae_c rfl (ae_c rfl (ae_c rfl (ae_c rfl (ae_c rfl (ae_c rfl (ae_c rfl (ae_c rfl (ae_c rfl ae_n)))))))))))) rfl rfl hk1 hP1
      refine lv_if_eq (tgt := 24) hx hb dX3_begin_17 (by decide) (fun c_17 => ?_) (fun c_17 => ?_)
      · refine lv_iconst (v := 0) hx hb dX3_begin_24 (by decide) ?_
        exact J25 _ _ _ ⟨by rw [if_pos c_7, if_pos c_17], hP, hS⟩
      · refine lv_iconst (v := 1) hx hb dX3_begin_20 (by decide) ?_
        refine lv_goto (tgt := 25) hx hb dX3_begin_21 (by decide) ?_
        exact J25 _ _ _ ⟨by rw [if_pos c_7, if_neg c_17], hP, hS⟩
def fX3_push (p1 : Int32) (rg_s : Int32) (bu_port : Int32) (pi_control : Int32) (pi_compareLine : Int32) (pi_ground : Int32) (pi_border : Int32) (pi_base : Int32) (pi_flag : Int32) (pi_enabled : Int32) (ic_rows : Int32) (ic_keysSeen : Int32) (ic_enabled : Int32) (ta_controlBits : Int32) (ta_control : Int32) (ta_count : Int32) (ta_latch : Int32) (tb_controlBits : Int32) (tb_control : Int32) (tb_count : Int32) (tb_latch : Int32) (f_ra : Nat → Int32) (f_co : Nat → Int32) (f_ky : Nat → Int32) : Int32 × Int32 × Int32 × Int32 × Int32 × Int32 × Int32 × Int32 × Int32 × Int32 × Int32 × Int32 × Int32 × Int32 × Int32 × Int32 × Int32 × Int32 × Int32 × (Nat → Int32) × (Nat → Int32) :=
  match (fX0_write ((256:Int32) + rg_s) p1 bu_port pi_control pi_compareLine pi_ground pi_border pi_base pi_flag pi_enabled ic_rows ic_keysSeen ic_enabled ta_controlBits ta_control ta_count ta_latch tb_controlBits tb_control tb_count tb_latch f_ra f_co f_ky) with
  | (bu_port_16, bu_latest_16, pi_control_16, pi_compareLine_16, pi_ground_16, pi_border_16, pi_base_16, pi_flag_16, pi_enabled_16, ic_rows_16, ic_keysSeen_16, ic_enabled_16, ta_control_16, ta_count_16, ta_latch_16, tb_control_16, tb_count_16, tb_latch_16, f_ra_16, f_co_16) =>
   (((rg_s - (1:Int32)) &&& (255:Int32)), bu_port_16, bu_latest_16, pi_control_16, pi_compareLine_16, pi_ground_16, pi_border_16, pi_base_16, pi_flag_16, pi_enabled_16, ic_rows_16, ic_keysSeen_16, ic_enabled_16, ta_control_16, ta_count_16, ta_latch_16, tb_control_16, tb_count_16, tb_latch_16, f_ra_16, f_co_16)
set_option maxHeartbeats 4000000 in
set_option maxRecDepth 100000 in
theorem mX3_push (l : Launch) (dC : Nat → ClassId) (dI : Nat → Nat → Nat) (q_pr q_rg q_bu q_ra q_rA q_rc q_rk q_pi q_po q_co q_wc q_wo q_ic q_ky q_ta q_tb : Nat) (k_ra k_rA k_rc k_rk k_po k_co k_wc k_wo k_ky : ClassId) (sz : Nat) (pr_stuck pr_waits pr_interruptsBegun pr_kind pr_step pr_code pr_low pr_high pr_changed pr_missing rg_a rg_x rg_y rg_s rg_flags rg_p bu_port bu_latest pi_line pi_cycle pi_control pi_compareLine pi_ground pi_border pi_base pi_flag pi_enabled pi_idle pi_bad pi_glyphLine pi_rowToFetch ic_rows ic_keysSeen ic_flags ic_enabled ta_controlBits ta_control ta_count ta_latch tb_controlBits tb_control tb_count tb_latch : Int32) (f_ra f_rA f_rc f_rk f_po f_co f_wc f_wo f_ky : Nat → Int32) (p1 : Int32) : Met l yX3_push uX3_push ({ frames := 3, cells := 0, slots := 0, locals := 68 }) (va_Pc [.ref q_pr, .int p1] (fun U => U.heap.size = sz ∧ va_P (dC, dI) vwCl (wwX3 q_pr q_rg q_bu q_ra q_rA q_rc q_rk q_pi q_po q_co q_wc q_wo q_ic q_ky q_ta q_tb k_ra k_rA k_rc k_rk k_po k_co k_wc k_wo k_ky pr_stuck pr_waits pr_interruptsBegun pr_kind pr_step pr_code pr_low pr_high pr_changed pr_missing rg_a rg_x rg_y rg_s rg_flags rg_p bu_port bu_latest pi_line pi_cycle pi_control pi_compareLine pi_ground pi_border pi_base pi_flag pi_enabled pi_idle pi_bad pi_glyphLine pi_rowToFetch ic_rows ic_keysSeen ic_flags ic_enabled ta_controlBits ta_control ta_count ta_latch tb_controlBits tb_control tb_count tb_latch f_ra f_rA f_rc f_rk f_po f_co f_wc f_wo f_ky) U.heap ∧ va_K (dC, dI) vwCl [(k_ra, .int), (k_rA, .int), (k_rc, .int), (k_rk, .int), (k_po, .int), (k_co, .int), (k_wc, .int), (k_wo, .int), (k_ky, .int)] U ∧ va_D (fun _ => True) (wwX3 q_pr q_rg q_bu q_ra q_rA q_rc q_rk q_pi q_po q_co q_wc q_wo q_ic q_ky q_ta q_tb k_ra k_rA k_rc k_rk k_po k_co k_wc k_wo k_ky pr_stuck pr_waits pr_interruptsBegun pr_kind pr_step pr_code pr_low pr_high pr_changed pr_missing rg_a rg_x rg_y rg_s rg_flags rg_p bu_port bu_latest pi_line pi_cycle pi_control pi_compareLine pi_ground pi_border pi_base pi_flag pi_enabled pi_idle pi_bad pi_glyphLine pi_rowToFetch ic_rows ic_keysSeen ic_flags ic_enabled ta_controlBits ta_control ta_count ta_latch tb_controlBits tb_control tb_count tb_latch f_ra f_rA f_rc f_rk f_po f_co f_wc f_wo f_ky))) (va_Qv (fun (u : Int32 × Int32 × Int32 × Int32 × Int32 × Int32 × Int32 × Int32 × Int32 × Int32 × Int32 × Int32 × Int32 × Int32 × Int32 × Int32 × Int32 × Int32 × Int32 × (Nat → Int32) × (Nat → Int32)) => u = fX3_push p1 rg_s bu_port pi_control pi_compareLine pi_ground pi_border pi_base pi_flag pi_enabled ic_rows ic_keysSeen ic_enabled ta_controlBits ta_control ta_count ta_latch tb_controlBits tb_control tb_count tb_latch f_ra f_co f_ky) (fun (u : Int32 × Int32 × Int32 × Int32 × Int32 × Int32 × Int32 × Int32 × Int32 × Int32 × Int32 × Int32 × Int32 × Int32 × Int32 × Int32 × Int32 × Int32 × Int32 × (Nat → Int32) × (Nat → Int32)) (t : State) => va_P (dC, dI) vwCl (wwX3 q_pr q_rg q_bu q_ra q_rA q_rc q_rk q_pi q_po q_co q_wc q_wo q_ic q_ky q_ta q_tb k_ra k_rA k_rc k_rk k_po k_co k_wc k_wo k_ky pr_stuck pr_waits pr_interruptsBegun pr_kind pr_step pr_code pr_low pr_high pr_changed pr_missing rg_a rg_x rg_y u.1 rg_flags rg_p u.2.1 u.2.2.1 pi_line pi_cycle u.2.2.2.1 u.2.2.2.2.1 u.2.2.2.2.2.1 u.2.2.2.2.2.2.1 u.2.2.2.2.2.2.2.1 u.2.2.2.2.2.2.2.2.1 u.2.2.2.2.2.2.2.2.2.1 pi_idle pi_bad pi_glyphLine pi_rowToFetch u.2.2.2.2.2.2.2.2.2.2.1 u.2.2.2.2.2.2.2.2.2.2.2.1 ic_flags u.2.2.2.2.2.2.2.2.2.2.2.2.1 ta_controlBits u.2.2.2.2.2.2.2.2.2.2.2.2.2.1 u.2.2.2.2.2.2.2.2.2.2.2.2.2.2.1 u.2.2.2.2.2.2.2.2.2.2.2.2.2.2.2.1 tb_controlBits u.2.2.2.2.2.2.2.2.2.2.2.2.2.2.2.2.1 u.2.2.2.2.2.2.2.2.2.2.2.2.2.2.2.2.2.1 u.2.2.2.2.2.2.2.2.2.2.2.2.2.2.2.2.2.2.1 u.2.2.2.2.2.2.2.2.2.2.2.2.2.2.2.2.2.2.2.1 f_rA f_rc f_rk f_po u.2.2.2.2.2.2.2.2.2.2.2.2.2.2.2.2.2.2.2.2 f_wc f_wo f_ky) t.heap ∧ va_K (dC, dI) vwCl [(k_ra, .int), (k_rA, .int), (k_rc, .int), (k_rk, .int), (k_po, .int), (k_co, .int), (k_wc, .int), (k_wo, .int), (k_ky, .int)] t ∧ va_D (va_A (wwX3 q_pr q_rg q_bu q_ra q_rA q_rc q_rk q_pi q_po q_co q_wc q_wo q_ic q_ky q_ta q_tb k_ra k_rA k_rc k_rk k_po k_co k_wc k_wo k_ky pr_stuck pr_waits pr_interruptsBegun pr_kind pr_step pr_code pr_low pr_high pr_changed pr_missing rg_a rg_x rg_y rg_s rg_flags rg_p bu_port bu_latest pi_line pi_cycle pi_control pi_compareLine pi_ground pi_border pi_base pi_flag pi_enabled pi_idle pi_bad pi_glyphLine pi_rowToFetch ic_rows ic_keysSeen ic_flags ic_enabled ta_controlBits ta_control ta_count ta_latch tb_controlBits tb_control tb_count tb_latch f_ra f_rA f_rc f_rk f_po f_co f_wc f_wo f_ky) sz) (wwX3 q_pr q_rg q_bu q_ra q_rA q_rc q_rk q_pi q_po q_co q_wc q_wo q_ic q_ky q_ta q_tb k_ra k_rA k_rc k_rk k_po k_co k_wc k_wo k_ky pr_stuck pr_waits pr_interruptsBegun pr_kind pr_step pr_code pr_low pr_high pr_changed pr_missing rg_a rg_x rg_y u.1 rg_flags rg_p u.2.1 u.2.2.1 pi_line pi_cycle u.2.2.2.1 u.2.2.2.2.1 u.2.2.2.2.2.1 u.2.2.2.2.2.2.1 u.2.2.2.2.2.2.2.1 u.2.2.2.2.2.2.2.2.1 u.2.2.2.2.2.2.2.2.2.1 pi_idle pi_bad pi_glyphLine pi_rowToFetch u.2.2.2.2.2.2.2.2.2.2.1 u.2.2.2.2.2.2.2.2.2.2.2.1 ic_flags u.2.2.2.2.2.2.2.2.2.2.2.2.1 ta_controlBits u.2.2.2.2.2.2.2.2.2.2.2.2.2.1 u.2.2.2.2.2.2.2.2.2.2.2.2.2.2.1 u.2.2.2.2.2.2.2.2.2.2.2.2.2.2.2.1 tb_controlBits u.2.2.2.2.2.2.2.2.2.2.2.2.2.2.2.2.1 u.2.2.2.2.2.2.2.2.2.2.2.2.2.2.2.2.2.1 u.2.2.2.2.2.2.2.2.2.2.2.2.2.2.2.2.2.2.1 u.2.2.2.2.2.2.2.2.2.2.2.2.2.2.2.2.2.2.2.1 f_rA f_rc f_rk f_po u.2.2.2.2.2.2.2.2.2.2.2.2.2.2.2.2.2.2.2.2 f_wc f_wo f_ky)) (va_A (wwX3 q_pr q_rg q_bu q_ra q_rA q_rc q_rk q_pi q_po q_co q_wc q_wo q_ic q_ky q_ta q_tb k_ra k_rA k_rc k_rk k_po k_co k_wc k_wo k_ky pr_stuck pr_waits pr_interruptsBegun pr_kind pr_step pr_code pr_low pr_high pr_changed pr_missing rg_a rg_x rg_y rg_s rg_flags rg_p bu_port bu_latest pi_line pi_cycle pi_control pi_compareLine pi_ground pi_border pi_base pi_flag pi_enabled pi_idle pi_bad pi_glyphLine pi_rowToFetch ic_rows ic_keysSeen ic_flags ic_enabled ta_controlBits ta_control ta_count ta_latch tb_controlBits tb_control tb_count tb_latch f_ra f_rA f_rc f_rk f_po f_co f_wc f_wo f_ky) sz)) 0 0 (va_A (wwX3 q_pr q_rg q_bu q_ra q_rA q_rc q_rk q_pi q_po q_co q_wc q_wo q_ic q_ky q_ta q_tb k_ra k_rA k_rc k_rk k_po k_co k_wc k_wo k_ky pr_stuck pr_waits pr_interruptsBegun pr_kind pr_step pr_code pr_low pr_high pr_changed pr_missing rg_a rg_x rg_y rg_s rg_flags rg_p bu_port bu_latest pi_line pi_cycle pi_control pi_compareLine pi_ground pi_border pi_base pi_flag pi_enabled pi_idle pi_bad pi_glyphLine pi_rowToFetch ic_rows ic_keysSeen ic_flags ic_enabled ta_controlBits ta_control ta_count ta_latch tb_controlBits tb_control tb_count tb_latch f_ra f_rA f_rc f_rk f_po f_co f_wc f_wo f_ky) sz) := by
  refine Met.ofW (cc := cX3_push) (maxL := 2) (ret := none) (by decide) rfl ?_
  intro p e s m args below meth c s₁ B hml hv
  obtain ⟨rfl, hsz, hP, hK, hD0⟩ := hv
  have hx := B.exec
  have hb := B.bytes
  have hr := B.returns
  have hts : ∀ w ∈ ub, w.before _ s = true := fun w h => atoms_spec (ws := uX3_push) B.pre w (List.mem_cons_of_mem _ h)
  have hown : s.vm.findClass RX3 = some m.cls := findClass_of_methodNamed B.named
  have hlocks := B.notSynchronized
  subst hsz
  have hD := hD0.self (sz := s.heap.size)
  generalize hAe : va_A (wwX3 q_pr q_rg q_bu q_ra q_rA q_rc q_rk q_pi q_po q_co q_wc q_wo q_ic q_ky q_ta q_tb k_ra k_rA k_rc k_rk k_po k_co k_wc k_wo k_ky pr_stuck pr_waits pr_interruptsBegun pr_kind pr_step pr_code pr_low pr_high pr_changed pr_missing rg_a rg_x rg_y rg_s rg_flags rg_p bu_port bu_latest pi_line pi_cycle pi_control pi_compareLine pi_ground pi_border pi_base pi_flag pi_enabled pi_idle pi_bad pi_glyphLine pi_rowToFetch ic_rows ic_keysSeen ic_flags ic_enabled ta_controlBits ta_control ta_count ta_latch tb_controlBits tb_control tb_count tb_latch f_ra f_rA f_rc f_rk f_po f_co f_wc f_wo f_ky) s.heap.size = A at hD ⊢
  have hA : ∀ q : Nat, s.heap.size ≤ q → A q := fun q h => by rw [← hAe]; exact Or.inr h
  have hS : va_S A s.heap s.heap [] := va_S.rf
  have hl := lv_entry ([.ref q_pr, .int p1]) (n := 2) (Nat.le_of_ble_eq_true rfl)
  rw [lg_entry_eq]
  generalize (lg_sl ([.ref q_pr, .int p1]) ++ List.replicate (2 - (lg_sl ([.ref q_pr, .int p1])).length) Slot.unset).toArray = ls at hl ⊢
  have hl : lv_has ls 2 [(0, .ref q_pr), (1, .int p1)] := hl
  have hF := fX3_push.eq_1 p1 rg_s bu_port pi_control pi_compareLine pi_ground pi_border pi_base pi_flag pi_enabled ic_rows ic_keysSeen ic_enabled ta_controlBits ta_control ta_count ta_latch tb_controlBits tb_control tb_count tb_latch f_ra f_co f_ky
  refine lv_aload_n hx hb dX3_push_0 rfl (lv_at hl 0 rfl) ?_
  refine va_get (D := (dC, dI)) (ci := 3) (v := .ref q_bu) (C := RX3) (T := TX3) (N := 14) hx hb hts hiX3 hown hK hP 0 rfl rfl 4 (by decide) (hts _ kFX3_26) (fun _ h9 => h9) rfl dX3_push_1 ?_
  refine lv_sipush (v := 256) hx hb dX3_push_4 (by decide) ?_
  refine lv_aload_n hx hb dX3_push_7 rfl (lv_at hl 0 rfl) ?_
  refine va_get (D := (dC, dI)) (ci := 3) (v := .ref q_rg) (C := RX3) (T := TX3) (N := 14) hx hb hts hiX3 hown hK hP 0 rfl rfl 0 (by decide) (hts _ kFX3_12) (fun _ h9 => h9) rfl dX3_push_8 ?_
  refine va_get (D := (dC, dI)) (ci := 4) (v := .int rg_s) (C := RX4) (T := TX4) (N := 6) hx hb hts hiX4 hown hK hP 1 rfl rfl 3 (by decide) (hts _ kFX3_129) (fun _ h9 => h9) rfl dX3_push_11 ?_
  refine lv_iadd hx hb dX3_push_14 ?_
  refine lv_iload_n hx hb dX3_push_15 rfl (lv_at hl 1 rfl) ?_
  have hPc := hP.sub (ws' := (wwX0 q_bu q_ra q_rA q_rc q_rk q_pi q_po q_co q_wc q_wo q_ic q_ky q_ta q_tb k_ra k_rA k_rc k_rk k_po k_co k_wc k_wo k_ky bu_port bu_latest pi_line pi_cycle pi_control pi_compareLine pi_ground pi_border pi_base pi_flag pi_enabled pi_idle pi_bad pi_glyphLine pi_rowToFetch ic_rows ic_keysSeen ic_flags ic_enabled ta_controlBits ta_control ta_count ta_latch tb_controlBits tb_control tb_count tb_latch f_ra f_rA f_rc f_rk f_po f_co f_wc f_wo f_ky)) [2, 3, 4, 5, 6, 7, 8, 9, 10, 11, 12, 13, 14, 15] rfl
  have hDc := hD.sub (ws' := (wwX0 q_bu q_ra q_rA q_rc q_rk q_pi q_po q_co q_wc q_wo q_ic q_ky q_ta q_tb k_ra k_rA k_rc k_rk k_po k_co k_wc k_wo k_ky bu_port bu_latest pi_line pi_cycle pi_control pi_compareLine pi_ground pi_border pi_base pi_flag pi_enabled pi_idle pi_bad pi_glyphLine pi_rowToFetch ic_rows ic_keysSeen ic_flags ic_enabled ta_controlBits ta_control ta_count ta_latch tb_controlBits tb_control tb_count tb_latch f_ra f_rA f_rc f_rk f_po f_co f_wc f_wo f_ky)) [2, 3, 4, 5, 6, 7, 8, 9, 10, 11, 12, 13, 14, 15] (by decide) rfl
  have hKc := hK.sub (tys' := [(k_ra, .int), (k_rA, .int), (k_rc, .int), (k_rk, .int), (k_po, .int), (k_co, .int), (k_wc, .int), (k_wo, .int), (k_ky, .int)]) [0, 1, 2, 3, 4, 5, 6, 7, 8] rfl
  have hFc := va_free (wc := (wwX0 q_bu q_ra q_rA q_rc q_rk q_pi q_po q_co q_wc q_wo q_ic q_ky q_ta q_tb k_ra k_rA k_rc k_rk k_po k_co k_wc k_wo k_ky bu_port bu_latest pi_line pi_cycle pi_control pi_compareLine pi_ground pi_border pi_base pi_flag pi_enabled pi_idle pi_bad pi_glyphLine pi_rowToFetch ic_rows ic_keysSeen ic_flags ic_enabled ta_controlBits ta_control ta_count ta_latch tb_controlBits tb_control tb_count tb_latch f_ra f_rA f_rc f_rk f_po f_co f_wc f_wo f_ky)) hD hS hA [2, 3, 4, 5, 6, 7, 8, 9, 10, 11, 12, 13, 14, 15] rfl
  refine va_callv (va_runV (As := [.int ((256:Int32) + rg_s), .int p1]) (rest := []) ⟨hx, hb, hml, hown, hts⟩ (mX0_write l dC dI q_bu q_ra q_rA q_rc q_rk q_pi q_po q_co q_wc q_wo q_ic q_ky q_ta q_tb k_ra k_rA k_rc k_rk k_po k_co k_wc k_wo k_ky s.heap.size bu_port bu_latest pi_line pi_cycle pi_control pi_compareLine pi_ground pi_border pi_base pi_flag pi_enabled pi_idle pi_bad pi_glyphLine pi_rowToFetch ic_rows ic_keysSeen ic_flags ic_enabled ta_controlBits ta_control ta_count ta_latch tb_controlBits tb_control tb_count tb_latch f_ra f_rA f_rc f_rk f_po f_co f_wc f_wo f_ky ((256:Int32) + rg_s) p1) (cwV 2 hts (ub_V kMX3_132 kYX0_write kSX0_write kIX0 kBX0_write) rfl rfl rfl (by decide +kernel) ⟨Nat.le_of_ble_eq_true rfl, Nat.le_of_ble_eq_true rfl⟩) ⟨fun a U g mk q => by obtain ⟨q0, q1, qP, qK, qD⟩ := q; exact ⟨q0, q1, qP, va_K.moved (u := U) (U := U.calling g mk a) (Vm.Alike.refl U.vm) qK, qD⟩, va_recv hKc hPc (ci := 0) (q0 := 0) rfl rfl, fun U hU hW => ⟨rfl, by rw [hU], by rw [hU]; exact hPc, va_K.moved hW.alike hKc, hDc.weaken (fun _ _ _ _ => trivial)⟩⟩ rfl rfl hl.1 rfl (lv_room (Nat.le_of_ble_eq_true rfl)) dX3_push_16 ⟨(Nat.zero_le _), (Nat.zero_le _)⟩) hS (fun q _ h => hFc q h) hFc (fun u_16 t H locs ht hvm hw hB hz1 hk1 hS => ?_)
  obtain ⟨bu_port_16, bu_latest_16, pi_control_16, pi_compareLine_16, pi_ground_16, pi_border_16, pi_base_16, pi_flag_16, pi_enabled_16, ic_rows_16, ic_keysSeen_16, ic_enabled_16, ta_control_16, ta_count_16, ta_latch_16, tb_control_16, tb_count_16, tb_latch_16, f_ra_16, f_co_16⟩ := u_16
  obtain ⟨hP1, hK1, hD1⟩ := hB
  rw [ht] at hP1
  obtain ⟨hP, hD⟩ := vb_back (wc := (wwX0 q_bu q_ra q_rA q_rc q_rk q_pi q_po q_co q_wc q_wo q_ic q_ky q_ta q_tb k_ra k_rA k_rc k_rk k_po k_co k_wc k_wo k_ky bu_port bu_latest pi_line pi_cycle pi_control pi_compareLine pi_ground pi_border pi_base pi_flag pi_enabled pi_idle pi_bad pi_glyphLine pi_rowToFetch ic_rows ic_keysSeen ic_flags ic_enabled ta_controlBits ta_control ta_count ta_latch tb_controlBits tb_control tb_count tb_latch f_ra f_rA f_rc f_rk f_po f_co f_wc f_wo f_ky)) (ws' := (wwX3 q_pr q_rg q_bu q_ra q_rA q_rc q_rk q_pi q_po q_co q_wc q_wo q_ic q_ky q_ta q_tb k_ra k_rA k_rc k_rk k_po k_co k_wc k_wo k_ky pr_stuck pr_waits pr_interruptsBegun pr_kind pr_step pr_code pr_low pr_high pr_changed pr_missing rg_a rg_x rg_y rg_s rg_flags rg_p bu_port_16 bu_latest_16 pi_line pi_cycle pi_control_16 pi_compareLine_16 pi_ground_16 pi_border_16 pi_base_16 pi_flag_16 pi_enabled_16 pi_idle pi_bad pi_glyphLine pi_rowToFetch ic_rows_16 ic_keysSeen_16 ic_flags ic_enabled_16 ta_controlBits ta_control_16 ta_count_16 ta_latch_16 tb_controlBits tb_control_16 tb_count_16 tb_latch_16 f_ra_16 f_rA f_rc f_rk f_po f_co_16 f_wc f_wo f_ky)) hP hD hD1 [2, 3, 4, 5, 6, 7, 8, 9, 10, 11, 12, 13, 14, 15] [0, 1] rfl rfl (ae_c rfl (ae_c rfl ae_n)) rfl rfl hk1 hP1
  rw [← hw] at hF
  dsimp only at hF
  refine lv_aload_n hx hb dX3_push_19 rfl (lv_at hl 0 rfl) ?_
  refine va_get (D := (dC, dI)) (ci := 3) (v := .ref q_rg) (C := RX3) (T := TX3) (N := 14) hx hb hts hiX3 hown hK hP 0 rfl rfl 0 (by decide) (hts _ kFX3_12) (fun _ h9 => h9) rfl dX3_push_20 ?_
  refine lv_aload_n hx hb dX3_push_23 rfl (lv_at hl 0 rfl) ?_
  refine va_get (D := (dC, dI)) (ci := 3) (v := .ref q_rg) (C := RX3) (T := TX3) (N := 14) hx hb hts hiX3 hown hK hP 0 rfl rfl 0 (by decide) (hts _ kFX3_12) (fun _ h9 => h9) rfl dX3_push_24 ?_
  refine va_get (D := (dC, dI)) (ci := 4) (v := .int rg_s) (C := RX4) (T := TX4) (N := 6) hx hb hts hiX4 hown hK hP 1 rfl rfl 3 (by decide) (hts _ kFX3_129) (fun _ h9 => h9) rfl dX3_push_27 ?_
  refine lv_iconst (v := 1) hx hb dX3_push_30 (by decide) ?_
  refine lv_isub hx hb dX3_push_31 ?_
  refine lv_sipush (v := 255) hx hb dX3_push_32 (by decide) ?_
  refine lv_iand hx hb dX3_push_35 ?_
  refine va_put (D := (dC, dI)) (ci := 4) (v := .int ((rg_s - (1:Int32)) &&& (255:Int32))) (ty := .int) (C := RX4) (T := TX4) (N := 6) hx hb hts hiX4 tyX4 tyX4_ok nmX4 hown hK hP hD hS 1 rfl rfl 3 (by decide) (hts _ kFX3_129) (fun _ h9 => h9) rfl (by decide +kernel) rfl rfl (Nat.le_of_ble_eq_true rfl) dX3_push_36 (fun H locs hP hD hS => ?_)
  have hP : va_P (dC, dI) vwCl (wwX3 q_pr q_rg q_bu q_ra q_rA q_rc q_rk q_pi q_po q_co q_wc q_wo q_ic q_ky q_ta q_tb k_ra k_rA k_rc k_rk k_po k_co k_wc k_wo k_ky pr_stuck pr_waits pr_interruptsBegun pr_kind pr_step pr_code pr_low pr_high pr_changed pr_missing rg_a rg_x rg_y ((rg_s - (1:Int32)) &&& (255:Int32)) rg_flags rg_p bu_port_16 bu_latest_16 pi_line pi_cycle pi_control_16 pi_compareLine_16 pi_ground_16 pi_border_16 pi_base_16 pi_flag_16 pi_enabled_16 pi_idle pi_bad pi_glyphLine pi_rowToFetch ic_rows_16 ic_keysSeen_16 ic_flags ic_enabled_16 ta_controlBits ta_control_16 ta_count_16 ta_latch_16 tb_controlBits tb_control_16 tb_count_16 tb_latch_16 f_ra_16 f_rA f_rc f_rk f_po f_co_16 f_wc f_wo f_ky) H := hP
  have hD : va_D A (wwX3 q_pr q_rg q_bu q_ra q_rA q_rc q_rk q_pi q_po q_co q_wc q_wo q_ic q_ky q_ta q_tb k_ra k_rA k_rc k_rk k_po k_co k_wc k_wo k_ky pr_stuck pr_waits pr_interruptsBegun pr_kind pr_step pr_code pr_low pr_high pr_changed pr_missing rg_a rg_x rg_y ((rg_s - (1:Int32)) &&& (255:Int32)) rg_flags rg_p bu_port_16 bu_latest_16 pi_line pi_cycle pi_control_16 pi_compareLine_16 pi_ground_16 pi_border_16 pi_base_16 pi_flag_16 pi_enabled_16 pi_idle pi_bad pi_glyphLine pi_rowToFetch ic_rows_16 ic_keysSeen_16 ic_flags ic_enabled_16 ta_controlBits ta_control_16 ta_count_16 ta_latch_16 tb_controlBits tb_control_16 tb_count_16 tb_latch_16 f_ra_16 f_rA f_rc f_rk f_po f_co_16 f_wc f_wo f_ky) := hD
  exact W.vret hx hb hr (fun t ht hW => ⟨⟨(((rg_s - (1:Int32)) &&& (255:Int32)), bu_port_16, bu_latest_16, pi_control_16, pi_compareLine_16, pi_ground_16, pi_border_16, pi_base_16, pi_flag_16, pi_enabled_16, ic_rows_16, ic_keysSeen_16, ic_enabled_16, ta_control_16, ta_count_16, ta_latch_16, tb_control_16, tb_count_16, tb_latch_16, f_ra_16, f_co_16), rfl, hF.symm, by rw [ht]; exact hP, va_K.moved hW.alike hK, hD⟩, hS.F ht⟩) hS.2.2 dX3_push_39
def fX4_put (p1 : Int32) (p2 : Int32) (rg_flags : Int32) : Int32 :=
  (if p2 = (0:Int32) then (rg_flags &&& (p1 ^^^ (-1:Int32))) else (rg_flags ||| p1))
set_option maxHeartbeats 4000000 in
set_option maxRecDepth 100000 in
theorem mX4_put (l : Launch) (dC : Nat → ClassId) (dI : Nat → Nat → Nat) (q_rg : Nat) (sz : Nat) (rg_a rg_x rg_y rg_s rg_flags rg_p : Int32) (p1 p2 : Int32) : Met l yX4_put uX4_put ({ frames := 0, cells := 0, slots := 0, locals := 0 }) (va_Pc [.ref q_rg, .int p1, .int p2] (fun U => U.heap.size = sz ∧ va_P (dC, dI) vwCl (wwX4 q_rg rg_a rg_x rg_y rg_s rg_flags rg_p) U.heap ∧ va_K (dC, dI) vwCl [] U ∧ va_D (fun _ => True) (wwX4 q_rg rg_a rg_x rg_y rg_s rg_flags rg_p))) (va_Qv (fun (u : Int32) => u = fX4_put p1 p2 rg_flags) (fun (u : Int32) (t : State) => va_P (dC, dI) vwCl (wwX4 q_rg rg_a rg_x rg_y rg_s u rg_p) t.heap ∧ va_K (dC, dI) vwCl [] t ∧ va_D (va_A (wwX4 q_rg rg_a rg_x rg_y rg_s rg_flags rg_p) sz) (wwX4 q_rg rg_a rg_x rg_y rg_s u rg_p)) (va_A (wwX4 q_rg rg_a rg_x rg_y rg_s rg_flags rg_p) sz)) 0 0 (va_A (wwX4 q_rg rg_a rg_x rg_y rg_s rg_flags rg_p) sz) := by
  refine Met.ofW (cc := cX4_put) (maxL := 3) (ret := none) (by decide) rfl ?_
  intro p e s m args below meth c s₁ B hml hv
  obtain ⟨rfl, hsz, hP, hK, hD0⟩ := hv
  have hx := B.exec
  have hb := B.bytes
  have hr := B.returns
  have hts : ∀ w ∈ ub, w.before _ s = true := fun w h => atoms_spec (ws := uX4_put) B.pre w (List.mem_cons_of_mem _ h)
  have hown : s.vm.findClass RX4 = some m.cls := findClass_of_methodNamed B.named
  have hlocks := B.notSynchronized
  subst hsz
  have hD := hD0.self (sz := s.heap.size)
  generalize hAe : va_A (wwX4 q_rg rg_a rg_x rg_y rg_s rg_flags rg_p) s.heap.size = A at hD ⊢
  have hA : ∀ q : Nat, s.heap.size ≤ q → A q := fun q h => by rw [← hAe]; exact Or.inr h
  have hS : va_S A s.heap s.heap [] := va_S.rf
  have hl := lv_entry ([.ref q_rg, .int p1, .int p2]) (n := 3) (Nat.le_of_ble_eq_true rfl)
  rw [lg_entry_eq]
  generalize (lg_sl ([.ref q_rg, .int p1, .int p2]) ++ List.replicate (3 - (lg_sl ([.ref q_rg, .int p1, .int p2])).length) Slot.unset).toArray = ls at hl ⊢
  have hl : lv_has ls 3 [(0, .ref q_rg), (1, .int p1), (2, .int p2)] := hl
  have hF := fX4_put.eq_1 p1 p2 rg_flags
  refine lv_aload_n hx hb dX4_put_0 rfl (lv_at hl 0 rfl) ?_
  refine lv_iload_n hx hb dX4_put_1 rfl (lv_at hl 2 rfl) ?_
  refine vj_join (j := 22) (rest := [.ref q_rg]) (Hyp := fun z H locs => z = (if p2 = (0:Int32) then (rg_flags &&& (p1 ^^^ (-1:Int32))) else (rg_flags ||| p1)) ∧ va_P (dC, dI) vwCl (wwX4 q_rg rg_a rg_x rg_y rg_s rg_flags rg_p) H ∧ va_S A s.heap H locs) (fun z H locs hh => ?_) (fun J22 => ?_)
  · obtain ⟨hz, hP, hS⟩ := hh
    subst hz
    refine va_put (D := (dC, dI)) (ci := 4) (v := .int (if p2 = (0:Int32) then (rg_flags &&& (p1 ^^^ (-1:Int32))) else (rg_flags ||| p1))) (ty := .int) (C := RX4) (T := TX4) (N := 6) hx hb hts hiX4 tyX4 tyX4_ok nmX4 hown hK hP hD hS 0 rfl rfl 4 (by decide) (hts _ kFX4_13) (fun _ h9 => h9) rfl (by decide +kernel) rfl rfl (Nat.le_of_ble_eq_true rfl) dX4_put_22 (fun H locs hP hD hS => ?_)
    have hP : va_P (dC, dI) vwCl (wwX4 q_rg rg_a rg_x rg_y rg_s (if p2 = (0:Int32) then (rg_flags &&& (p1 ^^^ (-1:Int32))) else (rg_flags ||| p1)) rg_p) H := hP
    have hD : va_D A (wwX4 q_rg rg_a rg_x rg_y rg_s (if p2 = (0:Int32) then (rg_flags &&& (p1 ^^^ (-1:Int32))) else (rg_flags ||| p1)) rg_p) := hD
    exact W.vret hx hb hr (fun t ht hW => ⟨⟨(if p2 = (0:Int32) then (rg_flags &&& (p1 ^^^ (-1:Int32))) else (rg_flags ||| p1)), rfl, hF.symm, by rw [ht]; exact hP, va_K.moved hW.alike hK, hD⟩, hS.F ht⟩) hS.2.2 dX4_put_25
  · refine lv_if_eq (tgt := 14) hx hb dX4_put_2 (by decide) (fun c_2 => ?_) (fun c_2 => ?_)
    · refine lv_aload_n hx hb dX4_put_14 rfl (lv_at hl 0 rfl) ?_
      refine va_get (D := (dC, dI)) (ci := 4) (v := .int rg_flags) (C := RX4) (T := TX4) (N := 6) hx hb hts hiX4 hown hK hP 0 rfl rfl 4 (by decide) (hts _ kFX4_13) (fun _ h9 => h9) rfl dX4_put_15 ?_
      refine lv_iload_n hx hb dX4_put_18 rfl (lv_at hl 1 rfl) ?_
      refine lv_iconst (v := -1) hx hb dX4_put_19 (by decide) ?_
      refine lv_ixor hx hb dX4_put_20 ?_
      refine lv_iand hx hb dX4_put_21 ?_
      exact J22 _ _ _ ⟨by rw [if_pos c_2], hP, hS⟩
    · refine lv_aload_n hx hb dX4_put_5 rfl (lv_at hl 0 rfl) ?_
      refine va_get (D := (dC, dI)) (ci := 4) (v := .int rg_flags) (C := RX4) (T := TX4) (N := 6) hx hb hts hiX4 hown hK hP 0 rfl rfl 4 (by decide) (hts _ kFX4_13) (fun _ h9 => h9) rfl dX4_put_6 ?_
      refine lv_iload_n hx hb dX4_put_9 rfl (lv_at hl 1 rfl) ?_
      refine lv_ior hx hb dX4_put_10 ?_
      refine lv_goto (tgt := 22) hx hb dX4_put_11 (by decide) ?_
      exact J22 _ _ _ ⟨by rw [if_neg c_2], hP, hS⟩
