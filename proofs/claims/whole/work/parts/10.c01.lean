def fX0_write (p1 : Int32) (p2 : Int32) (bu_port : Int32) (pi_control : Int32) (pi_compareLine : Int32) (pi_ground : Int32) (pi_border : Int32) (pi_base : Int32) (pi_flag : Int32) (pi_enabled : Int32) (ic_rows : Int32) (ic_keysSeen : Int32) (ic_enabled : Int32) (ta_controlBits : Int32) (ta_control : Int32) (ta_count : Int32) (ta_latch : Int32) (tb_controlBits : Int32) (tb_control : Int32) (tb_count : Int32) (tb_latch : Int32) (f_ra : Nat → Int32) (f_co : Nat → Int32) (f_ky : Nat → Int32) : Int32 × Int32 × Int32 × Int32 × Int32 × Int32 × Int32 × Int32 × Int32 × Int32 × Int32 × Int32 × Int32 × Int32 × Int32 × Int32 × Int32 × Int32 × (Nat → Int32) × (Nat → Int32) :=
  if (p1 &&& (8191:Int32)) = (1:Int32) then
   ((p2 &&& (7:Int32)), ((p1 &&& (8191:Int32)) + (8192:Int32)), pi_control, pi_compareLine, pi_ground, pi_border, pi_base, pi_flag, pi_enabled, ic_rows, ic_keysSeen, ic_enabled, ta_control, ta_count, ta_latch, tb_control, tb_count, tb_latch, f_ra, f_co)
  else
   if (fX0_showsRegisters (p1 &&& (8191:Int32)) bu_port) = (0:Int32) then
    (bu_port, ((p1 &&& (8191:Int32)) + (8192:Int32)), pi_control, pi_compareLine, pi_ground, pi_border, pi_base, pi_flag, pi_enabled, ic_rows, ic_keysSeen, ic_enabled, ta_control, ta_count, ta_latch, tb_control, tb_count, tb_latch, (upd f_ra (p1 &&& (8191:Int32)).toNatClampNeg p2), f_co)
   else
    if (64:Int32) ≤ ((p1 &&& (8191:Int32)) - (6656:Int32)) then
     if (fX0_isInterfacePlace ((p1 &&& (8191:Int32)) - (6656:Int32))) = (0:Int32) then
      (bu_port, ((p1 &&& (8191:Int32)) + (8192:Int32)), pi_control, pi_compareLine, pi_ground, pi_border, pi_base, pi_flag, pi_enabled, ic_rows, ic_keysSeen, ic_enabled, ta_control, ta_count, ta_latch, tb_control, tb_count, tb_latch, f_ra, (fX2_setCellColour (((p1 &&& (8191:Int32)) - (6656:Int32)) - (128:Int32)) p2 f_co))
     else
      match (fX1_writeRegister (((p1 &&& (8191:Int32)) - (6656:Int32)) &&& (15:Int32)) p2 ic_rows ic_keysSeen ic_enabled ta_controlBits ta_control ta_count ta_latch tb_controlBits tb_control tb_count tb_latch f_ky) with
      | (ic_rows_97, ic_keysSeen_97, ic_enabled_97, ta_control_97, ta_count_97, ta_latch_97, tb_control_97, tb_count_97, tb_latch_97) =>
       (bu_port, ((p1 &&& (8191:Int32)) + (8192:Int32)), pi_control, pi_compareLine, pi_ground, pi_border, pi_base, pi_flag, pi_enabled, ic_rows_97, ic_keysSeen_97, ic_enabled_97, ta_control_97, ta_count_97, ta_latch_97, tb_control_97, tb_count_97, tb_latch_97, f_ra, f_co)
    else
     match (fX2_writeRegister (((p1 &&& (8191:Int32)) - (6656:Int32)) &&& (15:Int32)) p2 pi_control pi_compareLine pi_ground pi_border pi_base pi_flag pi_enabled) with
     | (pi_control_73, pi_compareLine_73, pi_ground_73, pi_border_73, pi_base_73, pi_flag_73, pi_enabled_73) =>
      (bu_port, ((p1 &&& (8191:Int32)) + (8192:Int32)), pi_control_73, pi_compareLine_73, pi_ground_73, pi_border_73, pi_base_73, pi_flag_73, pi_enabled_73, ic_rows, ic_keysSeen, ic_enabled, ta_control, ta_count, ta_latch, tb_control, tb_count, tb_latch, f_ra, f_co)
set_option maxHeartbeats 4000000 in
set_option maxRecDepth 100000 in
theorem mX0_write (l : Launch) (dC : Nat → ClassId) (dI : Nat → Nat → Nat) (q_bu q_ra q_rA q_rc q_rk q_pi q_po q_co q_wc q_wo q_ic q_ky q_ta q_tb : Nat) (k_ra k_rA k_rc k_rk k_po k_co k_wc k_wo k_ky : ClassId) (sz : Nat) (bu_port bu_latest pi_line pi_cycle pi_control pi_compareLine pi_ground pi_border pi_base pi_flag pi_enabled pi_idle pi_bad pi_glyphLine pi_rowToFetch ic_rows ic_keysSeen ic_flags ic_enabled ta_controlBits ta_control ta_count ta_latch tb_controlBits tb_control tb_count tb_latch : Int32) (f_ra f_rA f_rc f_rk f_po f_co f_wc f_wo f_ky : Nat → Int32) (p1 p2 : Int32) : Met l yX0_write uX0_write ({ frames := 2, cells := 0, slots := 0, locals := 44 }) (va_Pc [.ref q_bu, .int p1, .int p2] (fun U => U.heap.size = sz ∧ va_P (dC, dI) vwCl (wwX0 q_bu q_ra q_rA q_rc q_rk q_pi q_po q_co q_wc q_wo q_ic q_ky q_ta q_tb k_ra k_rA k_rc k_rk k_po k_co k_wc k_wo k_ky bu_port bu_latest pi_line pi_cycle pi_control pi_compareLine pi_ground pi_border pi_base pi_flag pi_enabled pi_idle pi_bad pi_glyphLine pi_rowToFetch ic_rows ic_keysSeen ic_flags ic_enabled ta_controlBits ta_control ta_count ta_latch tb_controlBits tb_control tb_count tb_latch f_ra f_rA f_rc f_rk f_po f_co f_wc f_wo f_ky) U.heap ∧ va_K (dC, dI) vwCl [(k_ra, .int), (k_rA, .int), (k_rc, .int), (k_rk, .int), (k_po, .int), (k_co, .int), (k_wc, .int), (k_wo, .int), (k_ky, .int)] U ∧ va_D (fun _ => True) (wwX0 q_bu q_ra q_rA q_rc q_rk q_pi q_po q_co q_wc q_wo q_ic q_ky q_ta q_tb k_ra k_rA k_rc k_rk k_po k_co k_wc k_wo k_ky bu_port bu_latest pi_line pi_cycle pi_control pi_compareLine pi_ground pi_border pi_base pi_flag pi_enabled pi_idle pi_bad pi_glyphLine pi_rowToFetch ic_rows ic_keysSeen ic_flags ic_enabled ta_controlBits ta_control ta_count ta_latch tb_controlBits tb_control tb_count tb_latch f_ra f_rA f_rc f_rk f_po f_co f_wc f_wo f_ky))) (va_Qv (fun (u : Int32 × Int32 × Int32 × Int32 × Int32 × Int32 × Int32 × Int32 × Int32 × Int32 × Int32 × Int32 × Int32 × Int32 × Int32 × Int32 × Int32 × Int32 × (Nat → Int32) × (Nat → Int32)) => u = fX0_write p1 p2 bu_port pi_control pi_compareLine pi_ground pi_border pi_base pi_flag pi_enabled ic_rows ic_keysSeen ic_enabled ta_controlBits ta_control ta_count ta_latch tb_controlBits tb_control tb_count tb_latch f_ra f_co f_ky) (fun (u : Int32 × Int32 × Int32 × Int32 × Int32 × Int32 × Int32 × Int32 × Int32 × Int32 × Int32 × Int32 × Int32 × Int32 × Int32 × Int32 × Int32 × Int32 × (Nat → Int32) × (Nat → Int32)) (t : State) => va_P (dC, dI) vwCl (wwX0 q_bu q_ra q_rA q_rc q_rk q_pi q_po q_co q_wc q_wo q_ic q_ky q_ta q_tb k_ra k_rA k_rc k_rk k_po k_co k_wc k_wo k_ky u.1 u.2.1 pi_line pi_cycle u.2.2.1 u.2.2.2.1 u.2.2.2.2.1 u.2.2.2.2.2.1 u.2.2.2.2.2.2.1 u.2.2.2.2.2.2.2.1 u.2.2.2.2.2.2.2.2.1 pi_idle pi_bad pi_glyphLine pi_rowToFetch u.2.2.2.2.2.2.2.2.2.1 u.2.2.2.2.2.2.2.2.2.2.1 ic_flags u.2.2.2.2.2.2.2.2.2.2.2.1 ta_controlBits u.2.2.2.2.2.2.2.2.2.2.2.2.1 u.2.2.2.2.2.2.2.2.2.2.2.2.2.1 u.2.2.2.2.2.2.2.2.2.2.2.2.2.2.1 tb_controlBits u.2.2.2.2.2.2.2.2.2.2.2.2.2.2.2.1 u.2.2.2.2.2.2.2.2.2.2.2.2.2.2.2.2.1 u.2.2.2.2.2.2.2.2.2.2.2.2.2.2.2.2.2.1 u.2.2.2.2.2.2.2.2.2.2.2.2.2.2.2.2.2.2.1 f_rA f_rc f_rk f_po u.2.2.2.2.2.2.2.2.2.2.2.2.2.2.2.2.2.2.2 f_wc f_wo f_ky) t.heap ∧ va_K (dC, dI) vwCl [(k_ra, .int), (k_rA, .int), (k_rc, .int), (k_rk, .int), (k_po, .int), (k_co, .int), (k_wc, .int), (k_wo, .int), (k_ky, .int)] t ∧ va_D (va_A (wwX0 q_bu q_ra q_rA q_rc q_rk q_pi q_po q_co q_wc q_wo q_ic q_ky q_ta q_tb k_ra k_rA k_rc k_rk k_po k_co k_wc k_wo k_ky bu_port bu_latest pi_line pi_cycle pi_control pi_compareLine pi_ground pi_border pi_base pi_flag pi_enabled pi_idle pi_bad pi_glyphLine pi_rowToFetch ic_rows ic_keysSeen ic_flags ic_enabled ta_controlBits ta_control ta_count ta_latch tb_controlBits tb_control tb_count tb_latch f_ra f_rA f_rc f_rk f_po f_co f_wc f_wo f_ky) sz) (wwX0 q_bu q_ra q_rA q_rc q_rk q_pi q_po q_co q_wc q_wo q_ic q_ky q_ta q_tb k_ra k_rA k_rc k_rk k_po k_co k_wc k_wo k_ky u.1 u.2.1 pi_line pi_cycle u.2.2.1 u.2.2.2.1 u.2.2.2.2.1 u.2.2.2.2.2.1 u.2.2.2.2.2.2.1 u.2.2.2.2.2.2.2.1 u.2.2.2.2.2.2.2.2.1 pi_idle pi_bad pi_glyphLine pi_rowToFetch u.2.2.2.2.2.2.2.2.2.1 u.2.2.2.2.2.2.2.2.2.2.1 ic_flags u.2.2.2.2.2.2.2.2.2.2.2.1 ta_controlBits u.2.2.2.2.2.2.2.2.2.2.2.2.1 u.2.2.2.2.2.2.2.2.2.2.2.2.2.1 u.2.2.2.2.2.2.2.2.2.2.2.2.2.2.1 tb_controlBits u.2.2.2.2.2.2.2.2.2.2.2.2.2.2.2.1 u.2.2.2.2.2.2.2.2.2.2.2.2.2.2.2.2.1 u.2.2.2.2.2.2.2.2.2.2.2.2.2.2.2.2.2.1 u.2.2.2.2.2.2.2.2.2.2.2.2.2.2.2.2.2.2.1 f_rA f_rc f_rk f_po u.2.2.2.2.2.2.2.2.2.2.2.2.2.2.2.2.2.2.2 f_wc f_wo f_ky)) (va_A (wwX0 q_bu q_ra q_rA q_rc q_rk q_pi q_po q_co q_wc q_wo q_ic q_ky q_ta q_tb k_ra k_rA k_rc k_rk k_po k_co k_wc k_wo k_ky bu_port bu_latest pi_line pi_cycle pi_control pi_compareLine pi_ground pi_border pi_base pi_flag pi_enabled pi_idle pi_bad pi_glyphLine pi_rowToFetch ic_rows ic_keysSeen ic_flags ic_enabled ta_controlBits ta_control ta_count ta_latch tb_controlBits tb_control tb_count tb_latch f_ra f_rA f_rc f_rk f_po f_co f_wc f_wo f_ky) sz)) 0 0 (va_A (wwX0 q_bu q_ra q_rA q_rc q_rk q_pi q_po q_co q_wc q_wo q_ic q_ky q_ta q_tb k_ra k_rA k_rc k_rk k_po k_co k_wc k_wo k_ky bu_port bu_latest pi_line pi_cycle pi_control pi_compareLine pi_ground pi_border pi_base pi_flag pi_enabled pi_idle pi_bad pi_glyphLine pi_rowToFetch ic_rows ic_keysSeen ic_flags ic_enabled ta_controlBits ta_control ta_count ta_latch tb_controlBits tb_control tb_count tb_latch f_ra f_rA f_rc f_rk f_po f_co f_wc f_wo f_ky) sz) := by
  refine Met.ofW (cc := cX0_write) (maxL := 5) (ret := none) (by decide) rfl ?_
  intro p e s m args below meth c s₁ B hml hv
  obtain ⟨rfl, hsz, hP, hK, hD0⟩ := hv
  have hx := B.exec
  have hb := B.bytes
  have hr := B.returns
  have hts : ∀ w ∈ ub, w.before _ s = true := fun w h => atoms_spec (ws := uX0_write) B.pre w (List.mem_cons_of_mem _ h)
  have hown : s.vm.findClass RX0 = some m.cls := findClass_of_methodNamed B.named
  have hlocks := B.notSynchronized
  subst hsz
  have hD := hD0.self (sz := s.heap.size)
  generalize hAe : va_A (wwX0 q_bu q_ra q_rA q_rc q_rk q_pi q_po q_co q_wc q_wo q_ic q_ky q_ta q_tb k_ra k_rA k_rc k_rk k_po k_co k_wc k_wo k_ky bu_port bu_latest pi_line pi_cycle pi_control pi_compareLine pi_ground pi_border pi_base pi_flag pi_enabled pi_idle pi_bad pi_glyphLine pi_rowToFetch ic_rows ic_keysSeen ic_flags ic_enabled ta_controlBits ta_control ta_count ta_latch tb_controlBits tb_control tb_count tb_latch f_ra f_rA f_rc f_rk f_po f_co f_wc f_wo f_ky) s.heap.size = A at hD ⊢
  have hA : ∀ q : Nat, s.heap.size ≤ q → A q := fun q h => by rw [← hAe]; exact Or.inr h
  have hS : va_S A s.heap s.heap [] := va_S.rf
  have hl := lv_entry ([.ref q_bu, .int p1, .int p2]) (n := 5) (Nat.le_of_ble_eq_true rfl)
  rw [lg_entry_eq]
  generalize (lg_sl ([.ref q_bu, .int p1, .int p2]) ++ List.replicate (5 - (lg_sl ([.ref q_bu, .int p1, .int p2])).length) Slot.unset).toArray = ls at hl ⊢
  have hl : lv_has ls 5 [(0, .ref q_bu), (1, .int p1), (2, .int p2)] := hl
  have hF := fX0_write.eq_1 p1 p2 bu_port pi_control pi_compareLine pi_ground pi_border pi_base pi_flag pi_enabled ic_rows ic_keysSeen ic_enabled ta_controlBits ta_control ta_count ta_latch tb_controlBits tb_control tb_count tb_latch f_ra f_co f_ky
  refine lv_iload_n hx hb dX0_write_0 rfl (lv_at hl 1 rfl) ?_
  refine lv_sipush (v := 8191) hx hb dX0_write_1 (by decide) ?_
  refine lv_iand hx hb dX0_write_4 ?_
  refine lv_istore_n (lv' := [(3, .int (p1 &&& (8191:Int32))), (0, .ref q_bu), (1, .int p1), (2, .int p2)]) hx hb dX0_write_5 rfl hl (by decide) rfl (fun ls hl => ?_)
  refine lv_iload_n hx hb dX0_write_6 rfl (lv_at hl 0 rfl) ?_
  refine lv_sipush (v := 6656) hx hb dX0_write_7 (by decide) ?_
  refine lv_isub hx hb dX0_write_10 ?_
  refine lv_istore (lv' := [(4, .int ((p1 &&& (8191:Int32)) - (6656:Int32))), (3, .int (p1 &&& (8191:Int32))), (0, .ref q_bu), (1, .int p1), (2, .int p2)]) hx hb dX0_write_11 hl (by decide) rfl (fun ls hl => ?_)
  refine lv_aload_n hx hb dX0_write_13 rfl (lv_at hl 2 rfl) ?_
  refine lv_iload_n hx hb dX0_write_14 rfl (lv_at hl 1 rfl) ?_
  refine lv_sipush (v := 8192) hx hb dX0_write_15 (by decide) ?_
  refine lv_iadd hx hb dX0_write_18 ?_
  refine va_put (D := (dC, dI)) (ci := 0) (v := .int ((p1 &&& (8191:Int32)) + (8192:Int32))) (ty := .int) (C := RX0) (T := TX0) (N := 8) hx hb hts hiX0 tyX0 tyX0_ok nmX0 hown hK hP hD hS 0 rfl rfl 7 (by decide) (hts _ kFX0_15) (fun _ h9 => h9) rfl (by decide +kernel) rfl rfl (Nat.le_of_ble_eq_true rfl) dX0_write_19 (fun H locs hP hD hS => ?_)
  have hP : va_P (dC, dI) vwCl (wwX0 q_bu q_ra q_rA q_rc q_rk q_pi q_po q_co q_wc q_wo q_ic q_ky q_ta q_tb k_ra k_rA k_rc k_rk k_po k_co k_wc k_wo k_ky bu_port ((p1 &&& (8191:Int32)) + (8192:Int32)) pi_line pi_cycle pi_control pi_compareLine pi_ground pi_border pi_base pi_flag pi_enabled pi_idle pi_bad pi_glyphLine pi_rowToFetch ic_rows ic_keysSeen ic_flags ic_enabled ta_controlBits ta_control ta_count ta_latch tb_controlBits tb_control tb_count tb_latch f_ra f_rA f_rc f_rk f_po f_co f_wc f_wo f_ky) H := hP
  have hD : va_D A (wwX0 q_bu q_ra q_rA q_rc q_rk q_pi q_po q_co q_wc q_wo q_ic q_ky q_ta q_tb k_ra k_rA k_rc k_rk k_po k_co k_wc k_wo k_ky bu_port ((p1 &&& (8191:Int32)) + (8192:Int32)) pi_line pi_cycle pi_control pi_compareLine pi_ground pi_border pi_base pi_flag pi_enabled pi_idle pi_bad pi_glyphLine pi_rowToFetch ic_rows ic_keysSeen ic_flags ic_enabled ta_controlBits ta_control ta_count ta_latch tb_controlBits tb_control tb_count tb_latch f_ra f_rA f_rc f_rk f_po f_co f_wc f_wo f_ky) := hD
  refine lv_iload_n hx hb dX0_write_22 rfl (lv_at hl 1 rfl) ?_
  refine lv_iconst (v := 1) hx hb dX0_write_23 (by decide) ?_
  refine lv_icmp_ne (tgt := 38) hx hb dX0_write_24 (by decide) (fun c_24 => ?_) (fun c_24 => ?_)
  · have hF := hF.trans (if_neg c_24)
    refine lv_aload_n hx hb dX0_write_38 rfl (lv_at hl 2 rfl) ?_
    refine lv_iload_n hx hb dX0_write_39 rfl (lv_at hl 1 rfl) ?_
    have hPc := hP.sub (ws' := (wwX0 q_bu q_ra q_rA q_rc q_rk q_pi q_po q_co q_wc q_wo q_ic q_ky q_ta q_tb k_ra k_rA k_rc k_rk k_po k_co k_wc k_wo k_ky bu_port ((p1 &&& (8191:Int32)) + (8192:Int32)) pi_line pi_cycle pi_control pi_compareLine pi_ground pi_border pi_base pi_flag pi_enabled pi_idle pi_bad pi_glyphLine pi_rowToFetch ic_rows ic_keysSeen ic_flags ic_enabled ta_controlBits ta_control ta_count ta_latch tb_controlBits tb_control tb_count tb_latch f_ra f_rA f_rc f_rk f_po f_co f_wc f_wo f_ky)) [0, 1, 2, 3, 4, 5, 6, 7, 8, 9, 10, 11, 12, 13] rfl
    have hDc := hD.sub (ws' := (wwX0 q_bu q_ra q_rA q_rc q_rk q_pi q_po q_co q_wc q_wo q_ic q_ky q_ta q_tb k_ra k_rA k_rc k_rk k_po k_co k_wc k_wo k_ky bu_port ((p1 &&& (8191:Int32)) + (8192:Int32)) pi_line pi_cycle pi_control pi_compareLine pi_ground pi_border pi_base pi_flag pi_enabled pi_idle pi_bad pi_glyphLine pi_rowToFetch ic_rows ic_keysSeen ic_flags ic_enabled ta_controlBits ta_control ta_count ta_latch tb_controlBits tb_control tb_count tb_latch f_ra f_rA f_rc f_rk f_po f_co f_wc f_wo f_ky)) [0, 1, 2, 3, 4, 5, 6, 7, 8, 9, 10, 11, 12, 13] (by decide) rfl
    have hKc := hK.sub (tys' := [(k_ra, .int), (k_rA, .int), (k_rc, .int), (k_rk, .int), (k_po, .int), (k_co, .int), (k_wc, .int), (k_wo, .int), (k_ky, .int)]) [0, 1, 2, 3, 4, 5, 6, 7, 8] rfl
    have hFc := va_free (wc := (wwX0 q_bu q_ra q_rA q_rc q_rk q_pi q_po q_co q_wc q_wo q_ic q_ky q_ta q_tb k_ra k_rA k_rc k_rk k_po k_co k_wc k_wo k_ky bu_port ((p1 &&& (8191:Int32)) + (8192:Int32)) pi_line pi_cycle pi_control pi_compareLine pi_ground pi_border pi_base pi_flag pi_enabled pi_idle pi_bad pi_glyphLine pi_rowToFetch ic_rows ic_keysSeen ic_flags ic_enabled ta_controlBits ta_control ta_count ta_latch tb_controlBits tb_control tb_count tb_latch f_ra f_rA f_rc f_rk f_po f_co f_wc f_wo f_ky)) hD hS hA [0, 1, 2, 3, 4, 5, 6, 7, 8, 9, 10, 11, 12, 13] rfl
    refine va_calli (va_runV (As := [.int (p1 &&& (8191:Int32))]) (rest := []) ⟨hx, hb, hml, hown, hts⟩ (mX0_showsRegisters l dC dI q_bu q_ra q_rA q_rc q_rk q_pi q_po q_co q_wc q_wo q_ic q_ky q_ta q_tb k_ra k_rA k_rc k_rk k_po k_co k_wc k_wo k_ky H.size bu_port ((p1 &&& (8191:Int32)) + (8192:Int32)) pi_line pi_cycle pi_control pi_compareLine pi_ground pi_border pi_base pi_flag pi_enabled pi_idle pi_bad pi_glyphLine pi_rowToFetch ic_rows ic_keysSeen ic_flags ic_enabled ta_controlBits ta_control ta_count ta_latch tb_controlBits tb_control tb_count tb_latch f_ra f_rA f_rc f_rk f_po f_co f_wc f_wo f_ky (p1 &&& (8191:Int32))) (cwV 1 hts (ub_V kMX0_43 kYX0_showsRegisters kSX0_showsRegisters kIX0 kBX0_showsRegisters) rfl rfl rfl (by decide +kernel) ⟨Nat.le_of_ble_eq_true rfl, Nat.le_of_ble_eq_true rfl⟩) ⟨fun a U g mk q => by obtain ⟨q0, q1, qP, qK, qD⟩ := q; exact ⟨q0, q1, qP, va_K.moved (u := U) (U := U.calling g mk a) (Vm.Alike.refl U.vm) qK, qD⟩, va_recv hKc hPc (ci := 0) (q0 := 0) rfl rfl, fun U hU hW => ⟨rfl, by rw [hU], by rw [hU]; exact hPc, va_K.moved hW.alike hKc, hDc.weaken (fun _ _ _ _ => trivial)⟩⟩ rfl rfl hl.1 rfl (lv_room (Nat.le_of_ble_eq_true rfl)) dX0_write_40 ⟨(Nat.zero_le _), (Nat.zero_le _)⟩) hS (fun q _ h => hFc q h) hFc (fun r_40 u_40 t H locs ht hvm hw hB hz1 hk1 hS => ?_)
    obtain ⟨hP1, hK1, hD1⟩ := hB
    rw [ht] at hP1
    subst hw
    obtain ⟨hP, hD⟩ := vb_back (wc := (wwX0 q_bu q_ra q_rA q_rc q_rk q_pi q_po q_co q_wc q_wo q_ic q_ky q_ta q_tb k_ra k_rA k_rc k_rk k_po k_co k_wc k_wo k_ky bu_port ((p1 &&& (8191:Int32)) + (8192:Int32)) pi_line pi_cycle pi_control pi_compareLine pi_ground pi_border pi_base pi_flag pi_enabled pi_idle pi_bad pi_glyphLine pi_rowToFetch ic_rows ic_keysSeen ic_flags ic_enabled ta_controlBits ta_control ta_count ta_latch tb_controlBits tb_control tb_count tb_latch f_ra f_rA f_rc f_rk f_po f_co f_wc f_wo f_ky)) (ws' := (wwX0 q_bu q_ra q_rA q_rc q_rk q_pi q_po q_co q_wc q_wo q_ic q_ky q_ta q_tb k_ra k_rA k_rc k_rk k_po k_co k_wc k_wo k_ky bu_port ((p1 &&& (8191:Int32)) + (8192:Int32)) pi_line pi_cycle pi_control pi_compareLine pi_ground pi_border pi_base pi_flag pi_enabled pi_idle pi_bad pi_glyphLine pi_rowToFetch ic_rows ic_keysSeen ic_flags ic_enabled ta_controlBits ta_control ta_count ta_latch tb_controlBits tb_control tb_count tb_latch f_ra f_rA f_rc f_rk f_po f_co f_wc f_wo f_ky)) hP hD hD1 [0, 1, 2, 3, 4, 5, 6, 7, 8, 9, 10, 11, 12, 13] [] rfl rfl ae_n rfl rfl hk1 hP1
    refine lv_if_ne (tgt := 56) hx hb dX0_write_43 (by decide) (fun c_43 => ?_) (fun c_43 => ?_)
    · have hF := hF.trans (if_neg c_43)
      refine lv_iload hx hb dX0_write_56 (lv_at hl 0 rfl) ?_
      refine lv_bipush (v := 64) hx hb dX0_write_58 (by decide) ?_
      refine lv_icmp_ge (tgt := 79) hx hb dX0_write_60 (by decide) (fun c_60 => ?_) (fun c_60 => ?_)
      · have hF := hF.trans (if_pos c_60)
        refine lv_iload hx hb dX0_write_79 (lv_at hl 0 rfl) ?_
        have hPc := hP.sub (ws' := ([] : va_W)) [] rfl
        have hDc := hD.sub (ws' := ([] : va_W)) [] (by decide) rfl
        have hKc := hK.sub (tys' := []) [] rfl
        have hFc := va_free (wc := ([] : va_W)) hD hS hA [] rfl
        refine va_calli (va_runS (As := [.int ((p1 &&& (8191:Int32)) - (6656:Int32))]) (rest := []) ⟨hx, hb, hml, hown, hts⟩ (mX0_isInterfacePlace l dC dI H.size ((p1 &&& (8191:Int32)) - (6656:Int32))) (va_cwS 1 hts (ub_S kMX0_47 kTX0_isInterfacePlace kIX0 kBX0_isInterfacePlace) rfl rfl rfl (by decide +kernel) ⟨Nat.le_of_ble_eq_true rfl, Nat.le_of_ble_eq_true rfl⟩) ⟨fun a U g mk q => by obtain ⟨q0, q1, qP, qK, qD⟩ := q; exact ⟨q0, q1, qP, va_K.moved (u := U) (U := U.calling g mk a) (Vm.Alike.refl U.vm) qK, qD⟩, fun U hU hW => ⟨rfl, by rw [hU], by rw [hU]; exact hPc, va_K.moved hW.alike hKc, hDc.weaken (fun _ _ _ _ => trivial)⟩⟩ rfl rfl hl.1 rfl (lv_room (Nat.le_of_ble_eq_true rfl)) dX0_write_81 ⟨(Nat.zero_le _), (Nat.zero_le _)⟩) hS (fun q _ h => hFc q h) hFc (fun r_81 u_81 t H locs ht hvm hw hB hz1 hk1 hS => ?_)
        obtain ⟨hP1, hK1, hD1⟩ := hB
        rw [ht] at hP1
        subst hw
        obtain ⟨hP, hD⟩ := vb_back (wc := ([] : va_W)) (ws' := (wwX0 q_bu q_ra q_rA q_rc q_rk q_pi q_po q_co q_wc q_wo q_ic q_ky q_ta q_tb k_ra k_rA k_rc k_rk k_po k_co k_wc k_wo k_ky bu_port ((p1 &&& (8191:Int32)) + (8192:Int32)) pi_line pi_cycle pi_control pi_compareLine pi_ground pi_border pi_base pi_flag pi_enabled pi_idle pi_bad pi_glyphLine pi_rowToFetch ic_rows ic_keysSeen ic_flags ic_enabled ta_controlBits ta_control ta_count ta_latch tb_controlBits tb_control tb_count tb_latch f_ra f_rA f_rc f_rk f_po f_co f_wc f_wo f_ky)) hP hD hD1 [] [0, 1, 2, 3, 4, 5, 6, 7, 8, 9, 10, 11, 12, 13] rfl rfl (ae_c rfl (ae_c rfl (ae_c rfl (ae_c rfl (ae_c rfl (ae_c rfl (ae_c rfl (ae_c rfl (ae_c rfl (ae_c rfl (ae_c rfl (ae_c rfl (ae_c rfl (ae_c rfl ae_n)))))))))))))) rfl rfl hk1 hP1
        refine lv_if_eq (tgt := 103) hx hb dX0_write_84 (by decide) (fun c_84 => ?_) (fun c_84 => ?_)
        · have hF := hF.trans (if_pos c_84)
          refine lv_aload_n hx hb dX0_write_103 rfl (lv_at hl 2 rfl) ?_
          refine va_get (D := (dC, dI)) (ci := 0) (v := .ref q_pi) (C := RX0) (T := TX0) (N := 8) hx hb hts hiX0 hown hK hP 0 rfl rfl 4 (by decide) (hts _ kFX0_31) (fun _ h9 => h9) rfl dX0_write_104 ?_
          refine lv_iload hx hb dX0_write_107 (lv_at hl 0 rfl) ?_
          refine lv_sipush (v := 128) hx hb dX0_write_109 (by decide) ?_
          refine lv_isub hx hb dX0_write_112 ?_
          refine lv_iload_n hx hb dX0_write_113 rfl (lv_at hl 4 rfl) ?_
          have hPc := hP.sub (ws' := (wwX2 q_pi q_ra q_rc q_po q_co q_wc q_wo k_ra k_rc k_po k_co k_wc k_wo pi_line pi_cycle pi_control pi_compareLine pi_ground pi_border pi_base pi_flag pi_enabled pi_idle pi_bad pi_glyphLine pi_rowToFetch f_ra f_rc f_po f_co f_wc f_wo)) [5, 1, 3, 6, 7, 8, 9] rfl
          have hDc := hD.sub (ws' := (wwX2 q_pi q_ra q_rc q_po q_co q_wc q_wo k_ra k_rc k_po k_co k_wc k_wo pi_line pi_cycle pi_control pi_compareLine pi_ground pi_border pi_base pi_flag pi_enabled pi_idle pi_bad pi_glyphLine pi_rowToFetch f_ra f_rc f_po f_co f_wc f_wo)) [5, 1, 3, 6, 7, 8, 9] (by decide) rfl
          have hKc := hK.sub (tys' := [(k_ra, .int), (k_rc, .int), (k_po, .int), (k_co, .int), (k_wc, .int), (k_wo, .int)]) [0, 2, 4, 5, 6, 7] rfl
          have hFc := va_free (wc := (wwX2 q_pi q_ra q_rc q_po q_co q_wc q_wo k_ra k_rc k_po k_co k_wc k_wo pi_line pi_cycle pi_control pi_compareLine pi_ground pi_border pi_base pi_flag pi_enabled pi_idle pi_bad pi_glyphLine pi_rowToFetch f_ra f_rc f_po f_co f_wc f_wo)) hD hS hA [5, 1, 3, 6, 7, 8, 9] rfl
          refine va_callv (va_runV (As := [.int (((p1 &&& (8191:Int32)) - (6656:Int32)) - (128:Int32)), .int p2]) (rest := []) ⟨hx, hb, hml, hown, hts⟩ (mX2_setCellColour l dC dI q_pi q_ra q_rc q_po q_co q_wc q_wo k_ra k_rc k_po k_co k_wc k_wo H.size pi_line pi_cycle pi_control pi_compareLine pi_ground pi_border pi_base pi_flag pi_enabled pi_idle pi_bad pi_glyphLine pi_rowToFetch f_ra f_rc f_po f_co f_wc f_wo (((p1 &&& (8191:Int32)) - (6656:Int32)) - (128:Int32)) p2) (cwV 2 hts (ub_V kMX0_63 kYX2_setCellColour kSX2_setCellColour kIX2 kBX2_setCellColour) rfl rfl rfl (by decide +kernel) ⟨Nat.le_of_ble_eq_true rfl, Nat.le_of_ble_eq_true rfl⟩) ⟨fun a U g mk q => by obtain ⟨q0, q1, qP, qK, qD⟩ := q; exact ⟨q0, q1, qP, va_K.moved (u := U) (U := U.calling g mk a) (Vm.Alike.refl U.vm) qK, qD⟩, va_recv hKc hPc (ci := 2) (q0 := 0) rfl rfl, fun U hU hW => ⟨rfl, by rw [hU], by rw [hU]; exact hPc, va_K.moved hW.alike hKc, hDc.weaken (fun _ _ _ _ => trivial)⟩⟩ rfl rfl hl.1 rfl (lv_room (Nat.le_of_ble_eq_true rfl)) dX0_write_114 ⟨(Nat.zero_le _), (Nat.zero_le _)⟩) hS (fun q _ h => hFc q h) hFc (fun u_114 t H locs ht hvm hw hB hz1 hk1 hS => ?_)
          obtain ⟨hP1, hK1, hD1⟩ := hB
          rw [ht] at hP1
          subst hw
          obtain ⟨hP, hD⟩ := vb_back (wc := (wwX2 q_pi q_ra q_rc q_po q_co q_wc q_wo k_ra k_rc k_po k_co k_wc k_wo pi_line pi_cycle pi_control pi_compareLine pi_ground pi_border pi_base pi_flag pi_enabled pi_idle pi_bad pi_glyphLine pi_rowToFetch f_ra f_rc f_po f_co f_wc f_wo)) (ws' := (wwX0 q_bu q_ra q_rA q_rc q_rk q_pi q_po q_co q_wc q_wo q_ic q_ky q_ta q_tb k_ra k_rA k_rc k_rk k_po k_co k_wc k_wo k_ky bu_port ((p1 &&& (8191:Int32)) + (8192:Int32)) pi_line pi_cycle pi_control pi_compareLine pi_ground pi_border pi_base pi_flag pi_enabled pi_idle pi_bad pi_glyphLine pi_rowToFetch ic_rows ic_keysSeen ic_flags ic_enabled ta_controlBits ta_control ta_count ta_latch tb_controlBits tb_control tb_count tb_latch f_ra f_rA f_rc f_rk f_po (fX2_setCellColour (((p1 &&& (8191:Int32)) - (6656:Int32)) - (128:Int32)) p2 f_co) f_wc f_wo f_ky)) hP hD hD1 [5, 1, 3, 6, 7, 8, 9] [0, 2, 4, 10, 11, 12, 13] rfl rfl (ae_c rfl (ae_c rfl (ae_c rfl (ae_c rfl (ae_c rfl (ae_c rfl (ae_c rfl ae_n))))))) rfl rfl hk1 hP1
          exact W.vret hx hb hr (fun t ht hW => ⟨⟨(bu_port, ((p1 &&& (8191:Int32)) + (8192:Int32)), pi_control, pi_compareLine, pi_ground, pi_border, pi_base, pi_flag, pi_enabled, ic_rows, ic_keysSeen, ic_enabled, ta_control, ta_count, ta_latch, tb_control, tb_count, tb_latch, f_ra, (fX2_setCellColour (((p1 &&& (8191:Int32)) - (6656:Int32)) - (128:Int32)) p2 f_co)), rfl, hF.symm, by rw [ht]; exact hP, va_K.moved hW.alike hK, hD⟩, hS.F ht⟩) hS.2.2 dX0_write_117
        · have hF := hF.trans (if_neg c_84)
          refine lv_aload_n hx hb dX0_write_87 rfl (lv_at hl 2 rfl) ?_
          refine va_get (D := (dC, dI)) (ci := 0) (v := .ref q_ic) (C := RX0) (T := TX0) (N := 8) hx hb hts hiX0 hown hK hP 0 rfl rfl 5 (by decide) (hts _ kFX0_35) (fun _ h9 => h9) rfl dX0_write_88 ?_
          refine lv_iload hx hb dX0_write_91 (lv_at hl 0 rfl) ?_
          refine lv_bipush (v := 15) hx hb dX0_write_93 (by decide) ?_
          refine lv_iand hx hb dX0_write_95 ?_
          refine lv_iload_n hx hb dX0_write_96 rfl (lv_at hl 4 rfl) ?_
          have hPc := hP.sub (ws' := (wwX1 q_ic q_ky q_ta q_tb k_ky ic_rows ic_keysSeen ic_flags ic_enabled ta_controlBits ta_control ta_count ta_latch tb_controlBits tb_control tb_count tb_latch f_ky)) [10, 11, 12, 13] rfl
          have hDc := hD.sub (ws' := (wwX1 q_ic q_ky q_ta q_tb k_ky ic_rows ic_keysSeen ic_flags ic_enabled ta_controlBits ta_control ta_count ta_latch tb_controlBits tb_control tb_count tb_latch f_ky)) [10, 11, 12, 13] (by decide) rfl
          have hKc := hK.sub (tys' := [(k_ky, .int)]) [8] rfl
          have hFc := va_free (wc := (wwX1 q_ic q_ky q_ta q_tb k_ky ic_rows ic_keysSeen ic_flags ic_enabled ta_controlBits ta_control ta_count ta_latch tb_controlBits tb_control tb_count tb_latch f_ky)) hD hS hA [10, 11, 12, 13] rfl
          refine va_callv (va_runV (As := [.int (((p1 &&& (8191:Int32)) - (6656:Int32)) &&& (15:Int32)), .int p2]) (rest := []) ⟨hx, hb, hml, hown, hts⟩ (mX1_writeRegister l dC dI q_ic q_ky q_ta q_tb k_ky H.size ic_rows ic_keysSeen ic_flags ic_enabled ta_controlBits ta_control ta_count ta_latch tb_controlBits tb_control tb_count tb_latch f_ky (((p1 &&& (8191:Int32)) - (6656:Int32)) &&& (15:Int32)) p2) (cwV 2 hts (ub_V kMX0_62 kYX1_writeRegister kSX1_writeRegister kIX1 kBX1_writeRegister) rfl rfl rfl (by decide +kernel) ⟨Nat.le_of_ble_eq_true rfl, Nat.le_of_ble_eq_true rfl⟩) ⟨fun a U g mk q => by obtain ⟨q0, q1, qP, qK, qD⟩ := q; exact ⟨q0, q1, qP, va_K.moved (u := U) (U := U.calling g mk a) (Vm.Alike.refl U.vm) qK, qD⟩, va_recv hKc hPc (ci := 1) (q0 := 0) rfl rfl, fun U hU hW => ⟨rfl, by rw [hU], by rw [hU]; exact hPc, va_K.moved hW.alike hKc, hDc.weaken (fun _ _ _ _ => trivial)⟩⟩ rfl rfl hl.1 rfl (lv_room (Nat.le_of_ble_eq_true rfl)) dX0_write_97 ⟨(Nat.zero_le _), (Nat.zero_le _)⟩) hS (fun q _ h => hFc q h) hFc (fun u_97 t H locs ht hvm hw hB hz1 hk1 hS => ?_)
          obtain ⟨ic_rows_97, ic_keysSeen_97, ic_enabled_97, ta_control_97, ta_count_97, ta_latch_97, tb_control_97, tb_count_97, tb_latch_97⟩ := u_97
          obtain ⟨hP1, hK1, hD1⟩ := hB
          rw [ht] at hP1
          obtain ⟨hP, hD⟩ := vb_back (wc := (wwX1 q_ic q_ky q_ta q_tb k_ky ic_rows ic_keysSeen ic_flags ic_enabled ta_controlBits ta_control ta_count ta_latch tb_controlBits tb_control tb_count tb_latch f_ky)) (ws' := (wwX0 q_bu q_ra q_rA q_rc q_rk q_pi q_po q_co q_wc q_wo q_ic q_ky q_ta q_tb k_ra k_rA k_rc k_rk k_po k_co k_wc k_wo k_ky bu_port ((p1 &&& (8191:Int32)) + (8192:Int32)) pi_line pi_cycle pi_control pi_compareLine pi_ground pi_border pi_base pi_flag pi_enabled pi_idle pi_bad pi_glyphLine pi_rowToFetch ic_rows_97 ic_keysSeen_97 ic_flags ic_enabled_97 ta_controlBits ta_control_97 ta_count_97 ta_latch_97 tb_controlBits tb_control_97 tb_count_97 tb_latch_97 f_ra f_rA f_rc f_rk f_po f_co f_wc f_wo f_ky)) hP hD hD1 [10, 11, 12, 13] [0, 1, 2, 3, 4, 5, 6, 7, 8, 9] rfl rfl (ae_c rfl (ae_c rfl (ae_c rfl (ae_c rfl (ae_c rfl (ae_c rfl (ae_c rfl (ae_c rfl (ae_c rfl (ae_c rfl ae_n)))))))))) rfl rfl hk1 hP1
          rw [← hw] at hF
          dsimp only at hF
          refine lv_goto (tgt := 117) hx hb dX0_write_100 (by decide) ?_
          exact W.vret hx hb hr (fun t ht hW => ⟨⟨(bu_port, ((p1 &&& (8191:Int32)) + (8192:Int32)), pi_control, pi_compareLine, pi_ground, pi_border, pi_base, pi_flag, pi_enabled, ic_rows_97, ic_keysSeen_97, ic_enabled_97, ta_control_97, ta_count_97, ta_latch_97, tb_control_97, tb_count_97, tb_latch_97, f_ra, f_co), rfl, hF.symm, by rw [ht]; exact hP, va_K.moved hW.alike hK, hD⟩, hS.F ht⟩) hS.2.2 dX0_write_117
      · have hF := hF.trans (if_neg c_60)
        refine lv_aload_n hx hb dX0_write_63 rfl (lv_at hl 2 rfl) ?_
        refine va_get (D := (dC, dI)) (ci := 0) (v := .ref q_pi) (C := RX0) (T := TX0) (N := 8) hx hb hts hiX0 hown hK hP 0 rfl rfl 4 (by decide) (hts _ kFX0_31) (fun _ h9 => h9) rfl dX0_write_64 ?_
        refine lv_iload hx hb dX0_write_67 (lv_at hl 0 rfl) ?_
        refine lv_bipush (v := 15) hx hb dX0_write_69 (by decide) ?_
        refine lv_iand hx hb dX0_write_71 ?_
        refine lv_iload_n hx hb dX0_write_72 rfl (lv_at hl 4 rfl) ?_
        have hPc := hP.sub (ws' := (wwX2 q_pi q_ra q_rc q_po q_co q_wc q_wo k_ra k_rc k_po k_co k_wc k_wo pi_line pi_cycle pi_control pi_compareLine pi_ground pi_border pi_base pi_flag pi_enabled pi_idle pi_bad pi_glyphLine pi_rowToFetch f_ra f_rc f_po f_co f_wc f_wo)) [5, 1, 3, 6, 7, 8, 9] rfl
        have hDc := hD.sub (ws' := (wwX2 q_pi q_ra q_rc q_po q_co q_wc q_wo k_ra k_rc k_po k_co k_wc k_wo pi_line pi_cycle pi_control pi_compareLine pi_ground pi_border pi_base pi_flag pi_enabled pi_idle pi_bad pi_glyphLine pi_rowToFetch f_ra f_rc f_po f_co f_wc f_wo)) [5, 1, 3, 6, 7, 8, 9] (by decide) rfl
        have hKc := hK.sub (tys' := [(k_ra, .int), (k_rc, .int), (k_po, .int), (k_co, .int), (k_wc, .int), (k_wo, .int)]) [0, 2, 4, 5, 6, 7] rfl
        have hFc := va_free (wc := (wwX2 q_pi q_ra q_rc q_po q_co q_wc q_wo k_ra k_rc k_po k_co k_wc k_wo pi_line pi_cycle pi_control pi_compareLine pi_ground pi_border pi_base pi_flag pi_enabled pi_idle pi_bad pi_glyphLine pi_rowToFetch f_ra f_rc f_po f_co f_wc f_wo)) hD hS hA [5, 1, 3, 6, 7, 8, 9] rfl
        refine va_callv (va_runV (As := [.int (((p1 &&& (8191:Int32)) - (6656:Int32)) &&& (15:Int32)), .int p2]) (rest := []) ⟨hx, hb, hml, hown, hts⟩ (mX2_writeRegister l dC dI q_pi q_ra q_rc q_po q_co q_wc q_wo k_ra k_rc k_po k_co k_wc k_wo H.size pi_line pi_cycle pi_control pi_compareLine pi_ground pi_border pi_base pi_flag pi_enabled pi_idle pi_bad pi_glyphLine pi_rowToFetch f_ra f_rc f_po f_co f_wc f_wo (((p1 &&& (8191:Int32)) - (6656:Int32)) &&& (15:Int32)) p2) (cwV 2 hts (ub_V kMX0_56 kYX2_writeRegister kSX2_writeRegister kIX2 kBX2_writeRegister) rfl rfl rfl (by decide +kernel) ⟨Nat.le_of_ble_eq_true rfl, Nat.le_of_ble_eq_true rfl⟩) ⟨fun a U g mk q => by obtain ⟨q0, q1, qP, qK, qD⟩ := q; exact ⟨q0, q1, qP, va_K.moved (u := U) (U := U.calling g mk a) (Vm.Alike.refl U.vm) qK, qD⟩, va_recv hKc hPc (ci := 2) (q0 := 0) rfl rfl, fun U hU hW => ⟨rfl, by rw [hU], by rw [hU]; exact hPc, va_K.moved hW.alike hKc, hDc.weaken (fun _ _ _ _ => trivial)⟩⟩ rfl rfl hl.1 rfl (lv_room (Nat.le_of_ble_eq_true rfl)) dX0_write_73 ⟨(Nat.zero_le _), (Nat.zero_le _)⟩) hS (fun q _ h => hFc q h) hFc (fun u_73 t H locs ht hvm hw hB hz1 hk1 hS => ?_)
        obtain ⟨pi_control_73, pi_compareLine_73, pi_ground_73, pi_border_73, pi_base_73, pi_flag_73, pi_enabled_73⟩ := u_73
        obtain ⟨hP1, hK1, hD1⟩ := hB
        rw [ht] at hP1
        obtain ⟨hP, hD⟩ := vb_back (wc := (wwX2 q_pi q_ra q_rc q_po q_co q_wc q_wo k_ra k_rc k_po k_co k_wc k_wo pi_line pi_cycle pi_control pi_compareLine pi_ground pi_border pi_base pi_flag pi_enabled pi_idle pi_bad pi_glyphLine pi_rowToFetch f_ra f_rc f_po f_co f_wc f_wo)) (ws' := (wwX0 q_bu q_ra q_rA q_rc q_rk q_pi q_po q_co q_wc q_wo q_ic q_ky q_ta q_tb k_ra k_rA k_rc k_rk k_po k_co k_wc k_wo k_ky bu_port ((p1 &&& (8191:Int32)) + (8192:Int32)) pi_line pi_cycle pi_control_73 pi_compareLine_73 pi_ground_73 pi_border_73 pi_base_73 pi_flag_73 pi_enabled_73 pi_idle pi_bad pi_glyphLine pi_rowToFetch ic_rows ic_keysSeen ic_flags ic_enabled ta_controlBits ta_control ta_count ta_latch tb_controlBits tb_control tb_count tb_latch f_ra f_rA f_rc f_rk f_po f_co f_wc f_wo f_ky)) hP hD hD1 [5, 1, 3, 6, 7, 8, 9] [0, 2, 4, 10, 11, 12, 13] rfl rfl (ae_c rfl (ae_c rfl (ae_c rfl (ae_c rfl (ae_c rfl (ae_c rfl (ae_c rfl ae_n))))))) rfl rfl hk1 hP1
        rw [← hw] at hF
        dsimp only at hF
        refine lv_goto (tgt := 117) hx hb dX0_write_76 (by decide) ?_
        exact W.vret hx hb hr (fun t ht hW => ⟨⟨(bu_port, ((p1 &&& (8191:Int32)) + (8192:Int32)), pi_control_73, pi_compareLine_73, pi_ground_73, pi_border_73, pi_base_73, pi_flag_73, pi_enabled_73, ic_rows, ic_keysSeen, ic_enabled, ta_control, ta_count, ta_latch, tb_control, tb_count, tb_latch, f_ra, f_co), rfl, hF.symm, by rw [ht]; exact hP, va_K.moved hW.alike hK, hD⟩, hS.F ht⟩) hS.2.2 dX0_write_117
    · have hF := hF.trans (if_pos c_43)
      refine lv_aload_n hx hb dX0_write_46 rfl (lv_at hl 2 rfl) ?_
      refine va_get (D := (dC, dI)) (ci := 0) (v := .ref q_ra) (C := RX0) (T := TX0) (N := 8) hx hb hts hiX0 hown hK hP 0 rfl rfl 0 (by decide) (hts _ kFX0_18) (fun _ h9 => h9) rfl dX0_write_47 ?_
      refine lv_iload_n hx hb dX0_write_50 rfl (lv_at hl 1 rfl) ?_
      refine lv_iload_n hx hb dX0_write_51 rfl (lv_at hl 4 rfl) ?_
      refine va_iast hx hb hK hP hD hS 1 0 rfl rfl (rg_and p1) dX0_write_52 (fun H locs hP hD hS => ?_)
      have hP : va_P (dC, dI) vwCl (wwX0 q_bu q_ra q_rA q_rc q_rk q_pi q_po q_co q_wc q_wo q_ic q_ky q_ta q_tb k_ra k_rA k_rc k_rk k_po k_co k_wc k_wo k_ky bu_port ((p1 &&& (8191:Int32)) + (8192:Int32)) pi_line pi_cycle pi_control pi_compareLine pi_ground pi_border pi_base pi_flag pi_enabled pi_idle pi_bad pi_glyphLine pi_rowToFetch ic_rows ic_keysSeen ic_flags ic_enabled ta_controlBits ta_control ta_count ta_latch tb_controlBits tb_control tb_count tb_latch (upd f_ra (p1 &&& (8191:Int32)).toNatClampNeg p2) f_rA f_rc f_rk f_po f_co f_wc f_wo f_ky) H := hP
      have hD : va_D A (wwX0 q_bu q_ra q_rA q_rc q_rk q_pi q_po q_co q_wc q_wo q_ic q_ky q_ta q_tb k_ra k_rA k_rc k_rk k_po k_co k_wc k_wo k_ky bu_port ((p1 &&& (8191:Int32)) + (8192:Int32)) pi_line pi_cycle pi_control pi_compareLine pi_ground pi_border pi_base pi_flag pi_enabled pi_idle pi_bad pi_glyphLine pi_rowToFetch ic_rows ic_keysSeen ic_flags ic_enabled ta_controlBits ta_control ta_count ta_latch tb_controlBits tb_control tb_count tb_latch (upd f_ra (p1 &&& (8191:Int32)).toNatClampNeg p2) f_rA f_rc f_rk f_po f_co f_wc f_wo f_ky) := hD
      refine lv_goto (tgt := 117) hx hb dX0_write_53 (by decide) ?_
      exact W.vret hx hb hr (fun t ht hW => ⟨⟨(bu_port, ((p1 &&& (8191:Int32)) + (8192:Int32)), pi_control, pi_compareLine, pi_ground, pi_border, pi_base, pi_flag, pi_enabled, ic_rows, ic_keysSeen, ic_enabled, ta_control, ta_count, ta_latch, tb_control, tb_count, tb_latch, (upd f_ra (p1 &&& (8191:Int32)).toNatClampNeg p2), f_co), rfl, hF.symm, by rw [ht]; exact hP, va_K.moved hW.alike hK, hD⟩, hS.F ht⟩) hS.2.2 dX0_write_117
  · have hF := hF.trans (if_pos c_24)
    refine lv_aload_n hx hb dX0_write_27 rfl (lv_at hl 2 rfl) ?_
    refine lv_iload_n hx hb dX0_write_28 rfl (lv_at hl 4 rfl) ?_
    refine lv_bipush (v := 7) hx hb dX0_write_29 (by decide) ?_
    refine lv_iand hx hb dX0_write_31 ?_
    refine va_put (D := (dC, dI)) (ci := 0) (v := .int (p2 &&& (7:Int32))) (ty := .int) (C := RX0) (T := TX0) (N := 8) hx hb hts hiX0 tyX0 tyX0_ok nmX0 hown hK hP hD hS 0 rfl rfl 6 (by decide) (hts _ kFX0_11) (fun _ h9 => h9) rfl (by decide +kernel) rfl rfl (Nat.le_of_ble_eq_true rfl) dX0_write_32 (fun H locs hP hD hS => ?_)
    have hP : va_P (dC, dI) vwCl (wwX0 q_bu q_ra q_rA q_rc q_rk q_pi q_po q_co q_wc q_wo q_ic q_ky q_ta q_tb k_ra k_rA k_rc k_rk k_po k_co k_wc k_wo k_ky (p2 &&& (7:Int32)) ((p1 &&& (8191:Int32)) + (8192:Int32)) pi_line pi_cycle pi_control pi_compareLine pi_ground pi_border pi_base pi_flag pi_enabled pi_idle pi_bad pi_glyphLine pi_rowToFetch ic_rows ic_keysSeen ic_flags ic_enabled ta_controlBits ta_control ta_count ta_latch tb_controlBits tb_control tb_count tb_latch f_ra f_rA f_rc f_rk f_po f_co f_wc f_wo f_ky) H := hP
    have hD : va_D A (wwX0 q_bu q_ra q_rA q_rc q_rk q_pi q_po q_co q_wc q_wo q_ic q_ky q_ta q_tb k_ra k_rA k_rc k_rk k_po k_co k_wc k_wo k_ky (p2 &&& (7:Int32)) ((p1 &&& (8191:Int32)) + (8192:Int32)) pi_line pi_cycle pi_control pi_compareLine pi_ground pi_border pi_base pi_flag pi_enabled pi_idle pi_bad pi_glyphLine pi_rowToFetch ic_rows ic_keysSeen ic_flags ic_enabled ta_controlBits ta_control ta_count ta_latch tb_controlBits tb_control tb_count tb_latch f_ra f_rA f_rc f_rk f_po f_co f_wc f_wo f_ky) := hD
    refine lv_goto (tgt := 117) hx hb dX0_write_35 (by decide) ?_
    exact W.vret hx hb hr (fun t ht hW => ⟨⟨((p2 &&& (7:Int32)), ((p1 &&& (8191:Int32)) + (8192:Int32)), pi_control, pi_compareLine, pi_ground, pi_border, pi_base, pi_flag, pi_enabled, ic_rows, ic_keysSeen, ic_enabled, ta_control, ta_count, ta_latch, tb_control, tb_count, tb_latch, f_ra, f_co), rfl, hF.symm, by rw [ht]; exact hP, va_K.moved hW.alike hK, hD⟩, hS.F ht⟩) hS.2.2 dX0_write_117
def fX1_setKeys (p1 : Int32) (p2 : Int32) (ic_rows : Int32) (f_ky : Nat → Int32) : Int32 × (Nat → Int32) :=
  if p1 < (0:Int32) then
   ((fX1_scanKeys ic_rows f_ky), f_ky)
  else
   if (8:Int32) ≤ p1 then
    ((fX1_scanKeys ic_rows f_ky), f_ky)
   else
    ((fX1_scanKeys ic_rows (upd f_ky p1.toNatClampNeg p2)), (upd f_ky p1.toNatClampNeg p2))
set_option maxHeartbeats 4000000 in
set_option maxRecDepth 100000 in
theorem mX1_setKeys (l : Launch) (dC : Nat → ClassId) (dI : Nat → Nat → Nat) (q_ic q_ky q_ta q_tb : Nat) (k_ky : ClassId) (sz : Nat) (ic_rows ic_keysSeen ic_flags ic_enabled ta_controlBits ta_control ta_count ta_latch tb_controlBits tb_control tb_count tb_latch : Int32) (f_ky : Nat → Int32) (p1 p2 : Int32) : Met l yX1_setKeys uX1_setKeys ({ frames := 1, cells := 0, slots := 0, locals := 21 }) (va_Pc [.ref q_ic, .int p1, .int p2] (fun U => U.heap.size = sz ∧ va_P (dC, dI) vwCl (wwX1 q_ic q_ky q_ta q_tb k_ky ic_rows ic_keysSeen ic_flags ic_enabled ta_controlBits ta_control ta_count ta_latch tb_controlBits tb_control tb_count tb_latch f_ky) U.heap ∧ va_K (dC, dI) vwCl [(k_ky, .int)] U ∧ va_D (fun _ => True) (wwX1 q_ic q_ky q_ta q_tb k_ky ic_rows ic_keysSeen ic_flags ic_enabled ta_controlBits ta_control ta_count ta_latch tb_controlBits tb_control tb_count tb_latch f_ky))) (va_Qv (fun (u : Int32 × (Nat → Int32)) => u = fX1_setKeys p1 p2 ic_rows f_ky) (fun (u : Int32 × (Nat → Int32)) (t : State) => va_P (dC, dI) vwCl (wwX1 q_ic q_ky q_ta q_tb k_ky ic_rows u.1 ic_flags ic_enabled ta_controlBits ta_control ta_count ta_latch tb_controlBits tb_control tb_count tb_latch u.2) t.heap ∧ va_K (dC, dI) vwCl [(k_ky, .int)] t ∧ va_D (va_A (wwX1 q_ic q_ky q_ta q_tb k_ky ic_rows ic_keysSeen ic_flags ic_enabled ta_controlBits ta_control ta_count ta_latch tb_controlBits tb_control tb_count tb_latch f_ky) sz) (wwX1 q_ic q_ky q_ta q_tb k_ky ic_rows u.1 ic_flags ic_enabled ta_controlBits ta_control ta_count ta_latch tb_controlBits tb_control tb_count tb_latch u.2)) (va_A (wwX1 q_ic q_ky q_ta q_tb k_ky ic_rows ic_keysSeen ic_flags ic_enabled ta_controlBits ta_control ta_count ta_latch tb_controlBits tb_control tb_count tb_latch f_ky) sz)) 0 0 (va_A (wwX1 q_ic q_ky q_ta q_tb k_ky ic_rows ic_keysSeen ic_flags ic_enabled ta_controlBits ta_control ta_count ta_latch tb_controlBits tb_control tb_count tb_latch f_ky) sz) := by
  refine Met.ofW (cc := cX1_setKeys) (maxL := 3) (ret := none) (by decide) rfl ?_
  intro p e s m args below meth c s₁ B hml hv
  obtain ⟨rfl, hsz, hP, hK, hD0⟩ := hv
  have hx := B.exec
  have hb := B.bytes
  have hr := B.returns
  have hts : ∀ w ∈ ub, w.before _ s = true := fun w h => atoms_spec (ws := uX1_setKeys) B.pre w (List.mem_cons_of_mem _ h)
  have hown : s.vm.findClass RX1 = some m.cls := findClass_of_methodNamed B.named
  have hlocks := B.notSynchronized
  subst hsz
  have hD := hD0.self (sz := s.heap.size)
  generalize hAe : va_A (wwX1 q_ic q_ky q_ta q_tb k_ky ic_rows ic_keysSeen ic_flags ic_enabled ta_controlBits ta_control ta_count ta_latch tb_controlBits tb_control tb_count tb_latch f_ky) s.heap.size = A at hD ⊢
  have hA : ∀ q : Nat, s.heap.size ≤ q → A q := fun q h => by rw [← hAe]; exact Or.inr h
  have hS : va_S A s.heap s.heap [] := va_S.rf
  have hl := lv_entry ([.ref q_ic, .int p1, .int p2]) (n := 3) (Nat.le_of_ble_eq_true rfl)
  rw [lg_entry_eq]
  generalize (lg_sl ([.ref q_ic, .int p1, .int p2]) ++ List.replicate (3 - (lg_sl ([.ref q_ic, .int p1, .int p2])).length) Slot.unset).toArray = ls at hl ⊢
  have hl : lv_has ls 3 [(0, .ref q_ic), (1, .int p1), (2, .int p2)] := hl
  have hF := fX1_setKeys.eq_1 p1 p2 ic_rows f_ky
  refine lv_iload_n hx hb dX1_setKeys_0 rfl (lv_at hl 1 rfl) ?_
  refine lv_if_lt (tgt := 17) hx hb dX1_setKeys_1 (by decide) (fun c_1 => ?_) (fun c_1 => ?_)
  · have hF := hF.trans (if_pos c_1)
    refine lv_aload_n hx hb dX1_setKeys_17 rfl (lv_at hl 0 rfl) ?_
    have hPc := hP.sub (ws' := (wwX1 q_ic q_ky q_ta q_tb k_ky ic_rows ic_keysSeen ic_flags ic_enabled ta_controlBits ta_control ta_count ta_latch tb_controlBits tb_control tb_count tb_latch f_ky)) [0, 1, 2, 3] rfl
    have hDc := hD.sub (ws' := (wwX1 q_ic q_ky q_ta q_tb k_ky ic_rows ic_keysSeen ic_flags ic_enabled ta_controlBits ta_control ta_count ta_latch tb_controlBits tb_control tb_count tb_latch f_ky)) [0, 1, 2, 3] (by decide) rfl
    have hKc := hK.sub (tys' := [(k_ky, .int)]) [0] rfl
    have hFc := va_free (wc := (wwX1 q_ic q_ky q_ta q_tb k_ky ic_rows ic_keysSeen ic_flags ic_enabled ta_controlBits ta_control ta_count ta_latch tb_controlBits tb_control tb_count tb_latch f_ky)) hD hS hA [0, 1, 2, 3] rfl
    refine va_callv (va_runV (As := []) (rest := []) ⟨hx, hb, hml, hown, hts⟩ (mX1_scanKeys l dC dI q_ic q_ky q_ta q_tb k_ky s.heap.size ic_rows ic_keysSeen ic_flags ic_enabled ta_controlBits ta_control ta_count ta_latch tb_controlBits tb_control tb_count tb_latch f_ky) (cwV 0 hts (ub_V kMX1_29 kYX1_scanKeys kSX1_scanKeys kIX1 kBX1_scanKeys) rfl rfl rfl (by decide +kernel) ⟨Nat.le_of_ble_eq_true rfl, Nat.le_of_ble_eq_true rfl⟩) ⟨fun a U g mk q => by obtain ⟨q0, q1, qP, qK, qD⟩ := q; exact ⟨q0, q1, qP, va_K.moved (u := U) (U := U.calling g mk a) (Vm.Alike.refl U.vm) qK, qD⟩, va_recv hKc hPc (ci := 1) (q0 := 0) rfl rfl, fun U hU hW => ⟨rfl, by rw [hU], by rw [hU]; exact hPc, va_K.moved hW.alike hKc, hDc.weaken (fun _ _ _ _ => trivial)⟩⟩ rfl rfl hl.1 rfl (lv_room (Nat.le_of_ble_eq_true rfl)) dX1_setKeys_18 ⟨(Nat.zero_le _), (Nat.zero_le _)⟩) hS (fun q _ h => hFc q h) hFc (fun u_18 t H locs ht hvm hw hB hz1 hk1 hS => ?_)
    obtain ⟨hP1, hK1, hD1⟩ := hB
    rw [ht] at hP1
    subst hw
    obtain ⟨hP, hD⟩ := vb_back (wc := (wwX1 q_ic q_ky q_ta q_tb k_ky ic_rows ic_keysSeen ic_flags ic_enabled ta_controlBits ta_control ta_count ta_latch tb_controlBits tb_control tb_count tb_latch f_ky)) (ws' := (wwX1 q_ic q_ky q_ta q_tb k_ky ic_rows (fX1_scanKeys ic_rows f_ky) ic_flags ic_enabled ta_controlBits ta_control ta_count ta_latch tb_controlBits tb_control tb_count tb_latch f_ky)) hP hD hD1 [0, 1, 2, 3] [] rfl rfl ae_n rfl rfl hk1 hP1
    exact W.vret hx hb hr (fun t ht hW => ⟨⟨((fX1_scanKeys ic_rows f_ky), f_ky), rfl, hF.symm, by rw [ht]; exact hP, va_K.moved hW.alike hK, hD⟩, hS.F ht⟩) hS.2.2 dX1_setKeys_21
  · have hF := hF.trans (if_neg c_1)
    refine lv_iload_n hx hb dX1_setKeys_4 rfl (lv_at hl 1 rfl) ?_
    refine lv_bipush (v := 8) hx hb dX1_setKeys_5 (by decide) ?_
    refine lv_icmp_ge (tgt := 17) hx hb dX1_setKeys_7 (by decide) (fun c_7 => ?_) (fun c_7 => ?_)
    · have hF := hF.trans (if_pos c_7)
      refine lv_aload_n hx hb dX1_setKeys_17 rfl (lv_at hl 0 rfl) ?_
      have hPc := hP.sub (ws' := (wwX1 q_ic q_ky q_ta q_tb k_ky ic_rows ic_keysSeen ic_flags ic_enabled ta_controlBits ta_control ta_count ta_latch tb_controlBits tb_control tb_count tb_latch f_ky)) [0, 1, 2, 3] rfl
      have hDc := hD.sub (ws' := (wwX1 q_ic q_ky q_ta q_tb k_ky ic_rows ic_keysSeen ic_flags ic_enabled ta_controlBits ta_control ta_count ta_latch tb_controlBits tb_control tb_count tb_latch f_ky)) [0, 1, 2, 3] (by decide) rfl
      have hKc := hK.sub (tys' := [(k_ky, .int)]) [0] rfl
      have hFc := va_free (wc := (wwX1 q_ic q_ky q_ta q_tb k_ky ic_rows ic_keysSeen ic_flags ic_enabled ta_controlBits ta_control ta_count ta_latch tb_controlBits tb_control tb_count tb_latch f_ky)) hD hS hA [0, 1, 2, 3] rfl
      refine va_callv (va_runV (As := []) (rest := []) ⟨hx, hb, hml, hown, hts⟩ (mX1_scanKeys l dC dI q_ic q_ky q_ta q_tb k_ky s.heap.size ic_rows ic_keysSeen ic_flags ic_enabled ta_controlBits ta_control ta_count ta_latch tb_controlBits tb_control tb_count tb_latch f_ky) (cwV 0 hts (ub_V kMX1_29 kYX1_scanKeys kSX1_scanKeys kIX1 kBX1_scanKeys) rfl rfl rfl (by decide +kernel) ⟨Nat.le_of_ble_eq_true rfl, Nat.le_of_ble_eq_true rfl⟩) ⟨fun a U g mk q => by obtain ⟨q0, q1, qP, qK, qD⟩ := q; exact ⟨q0, q1, qP, va_K.moved (u := U) (U := U.calling g mk a) (Vm.Alike.refl U.vm) qK, qD⟩, va_recv hKc hPc (ci := 1) (q0 := 0) rfl rfl, fun U hU hW => ⟨rfl, by rw [hU], by rw [hU]; exact hPc, va_K.moved hW.alike hKc, hDc.weaken (fun _ _ _ _ => trivial)⟩⟩ rfl rfl hl.1 rfl (lv_room (Nat.le_of_ble_eq_true rfl)) dX1_setKeys_18 ⟨(Nat.zero_le _), (Nat.zero_le _)⟩) hS (fun q _ h => hFc q h) hFc (fun u_18 t H locs ht hvm hw hB hz1 hk1 hS => ?_)
      obtain ⟨hP1, hK1, hD1⟩ := hB
      rw [ht] at hP1
      subst hw
      obtain ⟨hP, hD⟩ := vb_back (wc := (wwX1 q_ic q_ky q_ta q_tb k_ky ic_rows ic_keysSeen ic_flags ic_enabled ta_controlBits ta_control ta_count ta_latch tb_controlBits tb_control tb_count tb_latch f_ky)) (ws' := (wwX1 q_ic q_ky q_ta q_tb k_ky ic_rows (fX1_scanKeys ic_rows f_ky) ic_flags ic_enabled ta_controlBits ta_control ta_count ta_latch tb_controlBits tb_control tb_count tb_latch f_ky)) hP hD hD1 [0, 1, 2, 3] [] rfl rfl ae_n rfl rfl hk1 hP1
      exact W.vret hx hb hr (fun t ht hW => ⟨⟨((fX1_scanKeys ic_rows f_ky), f_ky), rfl, hF.symm, by rw [ht]; exact hP, va_K.moved hW.alike hK, hD⟩, hS.F ht⟩) hS.2.2 dX1_setKeys_21
    · have hF := hF.trans (if_neg c_7)
      refine lv_aload_n hx hb dX1_setKeys_10 rfl (lv_at hl 0 rfl) ?_
      refine va_get (D := (dC, dI)) (ci := 1) (v := .ref q_ky) (C := RX1) (T := TX1) (N := 7) hx hb hts hiX1 hown hK hP 0 rfl rfl 0 (by decide) (hts _ kFX1_9) (fun _ h9 => h9) rfl dX1_setKeys_11 ?_
      refine lv_iload_n hx hb dX1_setKeys_14 rfl (lv_at hl 1 rfl) ?_
      refine lv_iload_n hx hb dX1_setKeys_15 rfl (lv_at hl 2 rfl) ?_
      refine va_iast hx hb hK hP hD hS 1 0 rfl rfl (rg_lt c_1 c_7 (by decide)) dX1_setKeys_16 (fun H locs hP hD hS => ?_)
      have hP : va_P (dC, dI) vwCl (wwX1 q_ic q_ky q_ta q_tb k_ky ic_rows ic_keysSeen ic_flags ic_enabled ta_controlBits ta_control ta_count ta_latch tb_controlBits tb_control tb_count tb_latch (upd f_ky p1.toNatClampNeg p2)) H := hP
      have hD : va_D A (wwX1 q_ic q_ky q_ta q_tb k_ky ic_rows ic_keysSeen ic_flags ic_enabled ta_controlBits ta_control ta_count ta_latch tb_controlBits tb_control tb_count tb_latch (upd f_ky p1.toNatClampNeg p2)) := hD
      refine lv_aload_n hx hb dX1_setKeys_17 rfl (lv_at hl 0 rfl) ?_
      have hPc := hP.sub (ws' := (wwX1 q_ic q_ky q_ta q_tb k_ky ic_rows ic_keysSeen ic_flags ic_enabled ta_controlBits ta_control ta_count ta_latch tb_controlBits tb_control tb_count tb_latch (upd f_ky p1.toNatClampNeg p2))) [0, 1, 2, 3] rfl
      have hDc := hD.sub (ws' := (wwX1 q_ic q_ky q_ta q_tb k_ky ic_rows ic_keysSeen ic_flags ic_enabled ta_controlBits ta_control ta_count ta_latch tb_controlBits tb_control tb_count tb_latch (upd f_ky p1.toNatClampNeg p2))) [0, 1, 2, 3] (by decide) rfl
      have hKc := hK.sub (tys' := [(k_ky, .int)]) [0] rfl
      have hFc := va_free (wc := (wwX1 q_ic q_ky q_ta q_tb k_ky ic_rows ic_keysSeen ic_flags ic_enabled ta_controlBits ta_control ta_count ta_latch tb_controlBits tb_control tb_count tb_latch (upd f_ky p1.toNatClampNeg p2))) hD hS hA [0, 1, 2, 3] rfl
      refine va_callv (va_runV (As := []) (rest := []) ⟨hx, hb, hml, hown, hts⟩ (mX1_scanKeys l dC dI q_ic q_ky q_ta q_tb k_ky H.size ic_rows ic_keysSeen ic_flags ic_enabled ta_controlBits ta_control ta_count ta_latch tb_controlBits tb_control tb_count tb_latch (upd f_ky p1.toNatClampNeg p2)) (cwV 0 hts (ub_V kMX1_29 kYX1_scanKeys kSX1_scanKeys kIX1 kBX1_scanKeys) rfl rfl rfl (by decide +kernel) ⟨Nat.le_of_ble_eq_true rfl, Nat.le_of_ble_eq_true rfl⟩) ⟨fun a U g mk q => by obtain ⟨q0, q1, qP, qK, qD⟩ := q; exact ⟨q0, q1, qP, va_K.moved (u := U) (U := U.calling g mk a) (Vm.Alike.refl U.vm) qK, qD⟩, va_recv hKc hPc (ci := 1) (q0 := 0) rfl rfl, fun U hU hW => ⟨rfl, by rw [hU], by rw [hU]; exact hPc, va_K.moved hW.alike hKc, hDc.weaken (fun _ _ _ _ => trivial)⟩⟩ rfl rfl hl.1 rfl (lv_room (Nat.le_of_ble_eq_true rfl)) dX1_setKeys_18 ⟨(Nat.zero_le _), (Nat.zero_le _)⟩) hS (fun q _ h => hFc q h) hFc (fun u_18 t H locs ht hvm hw hB hz1 hk1 hS => ?_)
      obtain ⟨hP1, hK1, hD1⟩ := hB
      rw [ht] at hP1
      subst hw
      obtain ⟨hP, hD⟩ := vb_back (wc := (wwX1 q_ic q_ky q_ta q_tb k_ky ic_rows ic_keysSeen ic_flags ic_enabled ta_controlBits ta_control ta_count ta_latch tb_controlBits tb_control tb_count tb_latch (upd f_ky p1.toNatClampNeg p2))) (ws' := (wwX1 q_ic q_ky q_ta q_tb k_ky ic_rows (fX1_scanKeys ic_rows (upd f_ky p1.toNatClampNeg p2)) ic_flags ic_enabled ta_controlBits ta_control ta_count ta_latch tb_controlBits tb_control tb_count tb_latch (upd f_ky p1.toNatClampNeg p2))) hP hD hD1 [0, 1, 2, 3] [] rfl rfl ae_n rfl rfl hk1 hP1
      exact W.vret hx hb hr (fun t ht hW => ⟨⟨((fX1_scanKeys ic_rows (upd f_ky p1.toNatClampNeg p2)), (upd f_ky p1.toNatClampNeg p2)), rfl, hF.symm, by rw [ht]; exact hP, va_K.moved hW.alike hK, hD⟩, hS.F ht⟩) hS.2.2 dX1_setKeys_21
def fX5_isRunning (tm_control : Int32) : Int32 :=
  (if (tm_control &&& (1:Int32)) = (0:Int32) then (0:Int32) else (1:Int32))
set_option maxHeartbeats 4000000 in
set_option maxRecDepth 100000 in
theorem mX5_isRunning (l : Launch) (dC : Nat → ClassId) (dI : Nat → Nat → Nat) (q_tm : Nat) (sz : Nat) (tm_controlBits tm_control tm_count tm_latch : Int32) : Met l yX5_isRunning uX5_isRunning ({ frames := 0, cells := 0, slots := 0, locals := 0 }) (va_Pc [.ref q_tm] (fun U => U.heap.size = sz ∧ va_P (dC, dI) vwCl (wwX5 q_tm tm_controlBits tm_control tm_count tm_latch) U.heap ∧ va_K (dC, dI) vwCl [] U ∧ va_D (fun _ => True) (wwX5 q_tm tm_controlBits tm_control tm_count tm_latch))) (va_Qi (fun (r : Int32) (u : Unit) => r = fX5_isRunning tm_control) (fun (u : Unit) (t : State) => va_P (dC, dI) vwCl (wwX5 q_tm tm_controlBits tm_control tm_count tm_latch) t.heap ∧ va_K (dC, dI) vwCl [] t ∧ va_D (va_A (wwX5 q_tm tm_controlBits tm_control tm_count tm_latch) sz) (wwX5 q_tm tm_controlBits tm_control tm_count tm_latch)) (va_A (wwX5 q_tm tm_controlBits tm_control tm_count tm_latch) sz)) 0 0 (va_A (wwX5 q_tm tm_controlBits tm_control tm_count tm_latch) sz) := by
  refine Met.ofW (cc := cX5_isRunning) (maxL := 1) (ret := (some .boolean)) (by decide) rfl ?_
  intro p e s m args below meth c s₁ B hml hv
  obtain ⟨rfl, hsz, hP, hK, hD0⟩ := hv
  have hx := B.exec
  have hb := B.bytes
  have hr := B.returns
  have hts : ∀ w ∈ ub, w.before _ s = true := fun w h => atoms_spec (ws := uX5_isRunning) B.pre w (List.mem_cons_of_mem _ h)
  have hown : s.vm.findClass RX5 = some m.cls := findClass_of_methodNamed B.named
  have hlocks := B.notSynchronized
  subst hsz
  have hD := hD0.self (sz := s.heap.size)
  generalize hAe : va_A (wwX5 q_tm tm_controlBits tm_control tm_count tm_latch) s.heap.size = A at hD ⊢
  have hA : ∀ q : Nat, s.heap.size ≤ q → A q := fun q h => by rw [← hAe]; exact Or.inr h
  have hS : va_S A s.heap s.heap [] := va_S.rf
  have hl := lv_entry ([.ref q_tm]) (n := 1) (Nat.le_of_ble_eq_true rfl)
  rw [lg_entry_eq]
  generalize (lg_sl ([.ref q_tm]) ++ List.replicate (1 - (lg_sl ([.ref q_tm])).length) Slot.unset).toArray = ls at hl ⊢
  have hl : lv_has ls 1 [(0, .ref q_tm)] := hl
  have hF := fX5_isRunning.eq_1 tm_control
  refine lv_aload_n hx hb dX5_isRunning_0 rfl (lv_at hl 0 rfl) ?_
  refine va_get (D := (dC, dI)) (ci := 5) (v := .int tm_control) (C := RX5) (T := TX5) (N := 4) hx hb hts hiX5 hown hK hP 0 rfl rfl 1 (by decide) (hts _ kFX5_20) (fun _ h9 => h9) rfl dX5_isRunning_1 ?_
  refine lv_iconst (v := 1) hx hb dX5_isRunning_4 (by decide) ?_
  refine lv_iand hx hb dX5_isRunning_5 ?_
  refine vj_join (j := 14) (rest := []) (Hyp := fun z H locs => z = (if (tm_control &&& (1:Int32)) = (0:Int32) then (0:Int32) else (1:Int32)) ∧ va_P (dC, dI) vwCl (wwX5 q_tm tm_controlBits tm_control tm_count tm_latch) H ∧ va_S A s.heap H locs) (fun z H locs hh => ?_) (fun J14 => ?_)
  · obtain ⟨hz, hP, hS⟩ := hh
    subst hz
    exact W.zret (v := (if (tm_control &&& (1:Int32)) = (0:Int32) then (0:Int32) else (1:Int32))) hx hb hr (nb_if rfl rfl) (fun t ht hW => ⟨⟨(if (tm_control &&& (1:Int32)) = (0:Int32) then (0:Int32) else (1:Int32)), (), rfl, hF.symm, by rw [ht]; exact hP, va_K.moved hW.alike hK, hD⟩, hS.F ht⟩) hS.2.2 dX5_isRunning_14
  · refine lv_if_eq (tgt := 13) hx hb dX5_isRunning_6 (by decide) (fun c_6 => ?_) (fun c_6 => ?_)
    · refine lv_iconst (v := 0) hx hb dX5_isRunning_13 (by decide) ?_
      exact J14 _ _ _ ⟨by rw [if_pos c_6], hP, hS⟩
    · refine lv_iconst (v := 1) hx hb dX5_isRunning_9 (by decide) ?_
      refine lv_goto (tgt := 14) hx hb dX5_isRunning_10 (by decide) ?_
      exact J14 _ _ _ ⟨by rw [if_neg c_6], hP, hS⟩
def fX5_countDown (tm_control : Int32) (tm_count : Int32) (tm_latch : Int32) : Int32 × Int32 × Int32 :=
  if tm_count = (0:Int32) then
   if (tm_control &&& (8:Int32)) = (0:Int32) then
    ((1:Int32), tm_control, tm_latch)
   else
    ((1:Int32), (tm_control &&& (-2:Int32)), tm_latch)
  else
   ((0:Int32), tm_control, (tm_count - (1:Int32)))
set_option maxHeartbeats 4000000 in
set_option maxRecDepth 100000 in
theorem mX5_countDown (l : Launch) (dC : Nat → ClassId) (dI : Nat → Nat → Nat) (q_tm : Nat) (sz : Nat) (tm_controlBits tm_control tm_count tm_latch : Int32) : Met l yX5_countDown uX5_countDown ({ frames := 0, cells := 0, slots := 0, locals := 0 }) (va_Pc [.ref q_tm] (fun U => U.heap.size = sz ∧ va_P (dC, dI) vwCl (wwX5 q_tm tm_controlBits tm_control tm_count tm_latch) U.heap ∧ va_K (dC, dI) vwCl [] U ∧ va_D (fun _ => True) (wwX5 q_tm tm_controlBits tm_control tm_count tm_latch))) (va_Qi (fun (r : Int32) (u : Int32 × Int32) => (r, u) = fX5_countDown tm_control tm_count tm_latch) (fun (u : Int32 × Int32) (t : State) => va_P (dC, dI) vwCl (wwX5 q_tm tm_controlBits u.1 u.2 tm_latch) t.heap ∧ va_K (dC, dI) vwCl [] t ∧ va_D (va_A (wwX5 q_tm tm_controlBits tm_control tm_count tm_latch) sz) (wwX5 q_tm tm_controlBits u.1 u.2 tm_latch)) (va_A (wwX5 q_tm tm_controlBits tm_control tm_count tm_latch) sz)) 0 0 (va_A (wwX5 q_tm tm_controlBits tm_control tm_count tm_latch) sz) := by
  refine Met.ofW (cc := cX5_countDown) (maxL := 1) (ret := (some .boolean)) (by decide) rfl ?_
  intro p e s m args below meth c s₁ B hml hv
  obtain ⟨rfl, hsz, hP, hK, hD0⟩ := hv
  have hx := B.exec
  have hb := B.bytes
  have hr := B.returns
  have hts : ∀ w ∈ ub, w.before _ s = true := fun w h => atoms_spec (ws := uX5_countDown) B.pre w (List.mem_cons_of_mem _ h)
  have hown : s.vm.findClass RX5 = some m.cls := findClass_of_methodNamed B.named
  have hlocks := B.notSynchronized
  subst hsz
  have hD := hD0.self (sz := s.heap.size)
  generalize hAe : va_A (wwX5 q_tm tm_controlBits tm_control tm_count tm_latch) s.heap.size = A at hD ⊢
  have hA : ∀ q : Nat, s.heap.size ≤ q → A q := fun q h => by rw [← hAe]; exact Or.inr h
  have hS : va_S A s.heap s.heap [] := va_S.rf
  have hl := lv_entry ([.ref q_tm]) (n := 1) (Nat.le_of_ble_eq_true rfl)
  rw [lg_entry_eq]
  generalize (lg_sl ([.ref q_tm]) ++ List.replicate (1 - (lg_sl ([.ref q_tm])).length) Slot.unset).toArray = ls at hl ⊢
  have hl : lv_has ls 1 [(0, .ref q_tm)] := hl
  have hF := fX5_countDown.eq_1 tm_control tm_count tm_latch
  refine lv_aload_n hx hb dX5_countDown_0 rfl (lv_at hl 0 rfl) ?_
  refine va_get (D := (dC, dI)) (ci := 5) (v := .int tm_count) (C := RX5) (T := TX5) (N := 4) hx hb hts hiX5 hown hK hP 0 rfl rfl 2 (by decide) (hts _ kFX5_8) (fun _ h9 => h9) rfl dX5_countDown_1 ?_
  refine lv_if_eq (tgt := 19) hx hb dX5_countDown_4 (by decide) (fun c_4 => ?_) (fun c_4 => ?_)
  · have hF := hF.trans (if_pos c_4)
    refine lv_aload_n hx hb dX5_countDown_19 rfl (lv_at hl 0 rfl) ?_
    refine lv_aload_n hx hb dX5_countDown_20 rfl (lv_at hl 0 rfl) ?_
    refine va_get (D := (dC, dI)) (ci := 5) (v := .int tm_latch) (C := RX5) (T := TX5) (N := 4) hx hb hts hiX5 hown hK hP 0 rfl rfl 3 (by decide) (hts _ kFX5_14) (fun _ h9 => h9) rfl dX5_countDown_21 ?_
    refine va_put (D := (dC, dI)) (ci := 5) (v := .int tm_latch) (ty := .int) (C := RX5) (T := TX5) (N := 4) hx hb hts hiX5 tyX5 tyX5_ok nmX5 hown hK hP hD hS 0 rfl rfl 2 (by decide) (hts _ kFX5_8) (fun _ h9 => h9) rfl (by decide +kernel) rfl rfl (Nat.le_of_ble_eq_true rfl) dX5_countDown_24 (fun H locs hP hD hS => ?_)
    have hP : va_P (dC, dI) vwCl (wwX5 q_tm tm_controlBits tm_control tm_latch tm_latch) H := hP
    have hD : va_D A (wwX5 q_tm tm_controlBits tm_control tm_latch tm_latch) := hD
    refine lv_aload_n hx hb dX5_countDown_27 rfl (lv_at hl 0 rfl) ?_
    refine va_get (D := (dC, dI)) (ci := 5) (v := .int tm_control) (C := RX5) (T := TX5) (N := 4) hx hb hts hiX5 hown hK hP 0 rfl rfl 1 (by decide) (hts _ kFX5_20) (fun _ h9 => h9) rfl dX5_countDown_28 ?_
    refine lv_bipush (v := 8) hx hb dX5_countDown_31 (by decide) ?_
    refine lv_iand hx hb dX5_countDown_33 ?_
    refine lv_if_eq (tgt := 48) hx hb dX5_countDown_34 (by decide) (fun c_34 => ?_) (fun c_34 => ?_)
    · have hF := hF.trans (if_pos c_34)
      refine lv_iconst (v := 1) hx hb dX5_countDown_48 (by decide) ?_
      exact W.zret (v := (1:Int32)) hx hb hr rfl (fun t ht hW => ⟨⟨(1:Int32), (tm_control, tm_latch), rfl, hF.symm, by rw [ht]; exact hP, va_K.moved hW.alike hK, hD⟩, hS.F ht⟩) hS.2.2 dX5_countDown_49
    · have hF := hF.trans (if_neg c_34)
      refine lv_aload_n hx hb dX5_countDown_37 rfl (lv_at hl 0 rfl) ?_
      refine lv_dup hx hb dX5_countDown_38 rfl ?_
      refine va_get (D := (dC, dI)) (ci := 5) (v := .int tm_control) (C := RX5) (T := TX5) (N := 4) hx hb hts hiX5 hown hK hP 0 rfl rfl 1 (by decide) (hts _ kFX5_20) (fun _ h9 => h9) rfl dX5_countDown_39 ?_
      refine lv_bipush (v := -2) hx hb dX5_countDown_42 (by decide) ?_
      refine lv_iand hx hb dX5_countDown_44 ?_
      refine va_put (D := (dC, dI)) (ci := 5) (v := .int (tm_control &&& (-2:Int32))) (ty := .int) (C := RX5) (T := TX5) (N := 4) hx hb hts hiX5 tyX5 tyX5_ok nmX5 hown hK hP hD hS 0 rfl rfl 1 (by decide) (hts _ kFX5_20) (fun _ h9 => h9) rfl (by decide +kernel) rfl rfl (Nat.le_of_ble_eq_true rfl) dX5_countDown_45 (fun H locs hP hD hS => ?_)
      have hP : va_P (dC, dI) vwCl (wwX5 q_tm tm_controlBits (tm_control &&& (-2:Int32)) tm_latch tm_latch) H := hP
      have hD : va_D A (wwX5 q_tm tm_controlBits (tm_control &&& (-2:Int32)) tm_latch tm_latch) := hD
      refine lv_iconst (v := 1) hx hb dX5_countDown_48 (by decide) ?_
      exact W.zret (v := (1:Int32)) hx hb hr rfl (fun t ht hW => ⟨⟨(1:Int32), ((tm_control &&& (-2:Int32)), tm_latch), rfl, hF.symm, by rw [ht]; exact hP, va_K.moved hW.alike hK, hD⟩, hS.F ht⟩) hS.2.2 dX5_countDown_49
  · have hF := hF.trans (if_neg c_4)
    refine lv_aload_n hx hb dX5_countDown_7 rfl (lv_at hl 0 rfl) ?_
    refine lv_dup hx hb dX5_countDown_8 rfl ?_
    refine va_get (D := (dC, dI)) (ci := 5) (v := .int tm_count) (C := RX5) (T := TX5) (N := 4) hx hb hts hiX5 hown hK hP 0 rfl rfl 2 (by decide) (hts _ kFX5_8) (fun _ h9 => h9) rfl dX5_countDown_9 ?_
    refine lv_iconst (v := 1) hx hb dX5_countDown_12 (by decide) ?_
    refine lv_isub hx hb dX5_countDown_13 ?_
    refine va_put (D := (dC, dI)) (ci := 5) (v := .int (tm_count - (1:Int32))) (ty := .int) (C := RX5) (T := TX5) (N := 4) hx hb hts hiX5 tyX5 tyX5_ok nmX5 hown hK hP hD hS 0 rfl rfl 2 (by decide) (hts _ kFX5_8) (fun _ h9 => h9) rfl (by decide +kernel) rfl rfl (Nat.le_of_ble_eq_true rfl) dX5_countDown_14 (fun H locs hP hD hS => ?_)
    have hP : va_P (dC, dI) vwCl (wwX5 q_tm tm_controlBits tm_control (tm_count - (1:Int32)) tm_latch) H := hP
    have hD : va_D A (wwX5 q_tm tm_controlBits tm_control (tm_count - (1:Int32)) tm_latch) := hD
    refine lv_iconst (v := 0) hx hb dX5_countDown_17 (by decide) ?_
    exact W.zret (v := (0:Int32)) hx hb hr rfl (fun t ht hW => ⟨⟨(0:Int32), (tm_control, (tm_count - (1:Int32))), rfl, hF.symm, by rw [ht]; exact hP, va_K.moved hW.alike hK, hD⟩, hS.F ht⟩) hS.2.2 dX5_countDown_18
def fX5_isCascaded (tm_control : Int32) : Int32 :=
  (if (tm_control &&& (64:Int32)) = (0:Int32) then (0:Int32) else (1:Int32))
set_option maxHeartbeats 4000000 in
set_option maxRecDepth 100000 in
theorem mX5_isCascaded (l : Launch) (dC : Nat → ClassId) (dI : Nat → Nat → Nat) (q_tm : Nat) (sz : Nat) (tm_controlBits tm_control tm_count tm_latch : Int32) : Met l yX5_isCascaded uX5_isCascaded ({ frames := 0, cells := 0, slots := 0, locals := 0 }) (va_Pc [.ref q_tm] (fun U => U.heap.size = sz ∧ va_P (dC, dI) vwCl (wwX5 q_tm tm_controlBits tm_control tm_count tm_latch) U.heap ∧ va_K (dC, dI) vwCl [] U ∧ va_D (fun _ => True) (wwX5 q_tm tm_controlBits tm_control tm_count tm_latch))) (va_Qi (fun (r : Int32) (u : Unit) => r = fX5_isCascaded tm_control) (fun (u : Unit) (t : State) => va_P (dC, dI) vwCl (wwX5 q_tm tm_controlBits tm_control tm_count tm_latch) t.heap ∧ va_K (dC, dI) vwCl [] t ∧ va_D (va_A (wwX5 q_tm tm_controlBits tm_control tm_count tm_latch) sz) (wwX5 q_tm tm_controlBits tm_control tm_count tm_latch)) (va_A (wwX5 q_tm tm_controlBits tm_control tm_count tm_latch) sz)) 0 0 (va_A (wwX5 q_tm tm_controlBits tm_control tm_count tm_latch) sz) := by
  refine Met.ofW (cc := cX5_isCascaded) (maxL := 1) (ret := (some .boolean)) (by decide) rfl ?_
  intro p e s m args below meth c s₁ B hml hv
  obtain ⟨rfl, hsz, hP, hK, hD0⟩ := hv
  have hx := B.exec
  have hb := B.bytes
  have hr := B.returns
  have hts : ∀ w ∈ ub, w.before _ s = true := fun w h => atoms_spec (ws := uX5_isCascaded) B.pre w (List.mem_cons_of_mem _ h)
  have hown : s.vm.findClass RX5 = some m.cls := findClass_of_methodNamed B.named
  have hlocks := B.notSynchronized
  subst hsz
  have hD := hD0.self (sz := s.heap.size)
  generalize hAe : va_A (wwX5 q_tm tm_controlBits tm_control tm_count tm_latch) s.heap.size = A at hD ⊢
  have hA : ∀ q : Nat, s.heap.size ≤ q → A q := fun q h => by rw [← hAe]; exact Or.inr h
  have hS : va_S A s.heap s.heap [] := va_S.rf
  have hl := lv_entry ([.ref q_tm]) (n := 1) (Nat.le_of_ble_eq_true rfl)
  rw [lg_entry_eq]
  generalize (lg_sl ([.ref q_tm]) ++ List.replicate (1 - (lg_sl ([.ref q_tm])).length) Slot.unset).toArray = ls at hl ⊢
  have hl : lv_has ls 1 [(0, .ref q_tm)] := hl
  have hF := fX5_isCascaded.eq_1 tm_control
  refine lv_aload_n hx hb dX5_isCascaded_0 rfl (lv_at hl 0 rfl) ?_
  refine va_get (D := (dC, dI)) (ci := 5) (v := .int tm_control) (C := RX5) (T := TX5) (N := 4) hx hb hts hiX5 hown hK hP 0 rfl rfl 1 (by decide) (hts _ kFX5_20) (fun _ h9 => h9) rfl dX5_isCascaded_1 ?_
  refine lv_bipush (v := 64) hx hb dX5_isCascaded_4 (by decide) ?_
  refine lv_iand hx hb dX5_isCascaded_6 ?_
  refine vj_join (j := 15) (rest := []) (Hyp := fun z H locs => z = (if (tm_control &&& (64:Int32)) = (0:Int32) then (0:Int32) else (1:Int32)) ∧ va_P (dC, dI) vwCl (wwX5 q_tm tm_controlBits tm_control tm_count tm_latch) H ∧ va_S A s.heap H locs) (fun z H locs hh => ?_) (fun J15 => ?_)
  · obtain ⟨hz, hP, hS⟩ := hh
    subst hz
    exact W.zret (v := (if (tm_control &&& (64:Int32)) = (0:Int32) then (0:Int32) else (1:Int32))) hx hb hr (nb_if rfl rfl) (fun t ht hW => ⟨⟨(if (tm_control &&& (64:Int32)) = (0:Int32) then (0:Int32) else (1:Int32)), (), rfl, hF.symm, by rw [ht]; exact hP, va_K.moved hW.alike hK, hD⟩, hS.F ht⟩) hS.2.2 dX5_isCascaded_15
  · refine lv_if_eq (tgt := 14) hx hb dX5_isCascaded_7 (by decide) (fun c_7 => ?_) (fun c_7 => ?_)
    · refine lv_iconst (v := 0) hx hb dX5_isCascaded_14 (by decide) ?_
      exact J15 _ _ _ ⟨by rw [if_pos c_7], hP, hS⟩
    · refine lv_iconst (v := 1) hx hb dX5_isCascaded_10 (by decide) ?_
      refine lv_goto (tgt := 15) hx hb dX5_isCascaded_11 (by decide) ?_
      exact J15 _ _ _ ⟨by rw [if_neg c_7], hP, hS⟩
def fX1_countTimers (ic_flags : Int32) (ta_control : Int32) (ta_count : Int32) (ta_latch : Int32) (tb_control : Int32) (tb_count : Int32) (tb_latch : Int32) : Int32 × Int32 × Int32 × Int32 × Int32 :=
  if (fX5_isRunning ta_control) = (0:Int32) then
   if (if (fX5_isRunning tb_control) = (0:Int32) then (0:Int32) else (if (fX5_isCascaded tb_control) = (0:Int32) then (1:Int32) else (0:Int32))) = (0:Int32) then
    (ic_flags, ta_control, ta_count, tb_control, tb_count)
   else
    match (fX5_countDown tb_control tb_count tb_latch) with
    | (r_78, tb_control_78, tb_count_78) =>
     if r_78 = (0:Int32) then
      (ic_flags, ta_control, ta_count, tb_control_78, tb_count_78)
     else
      ((ic_flags ||| (2:Int32)), ta_control, ta_count, tb_control_78, tb_count_78)
  else
   match (fX5_countDown ta_control ta_count ta_latch) with
   | (r_14, ta_control_14, ta_count_14) =>
    if (if r_14 = (0:Int32) then (0:Int32) else (1:Int32)) = (0:Int32) then
     if (if (fX5_isRunning tb_control) = (0:Int32) then (0:Int32) else (if (fX5_isCascaded tb_control) = (0:Int32) then (1:Int32) else (0:Int32))) = (0:Int32) then
      (ic_flags, ta_control_14, ta_count_14, tb_control, tb_count)
     else
      match (fX5_countDown tb_control tb_count tb_latch) with
      | (r_78, tb_control_78, tb_count_78) =>
       if r_78 = (0:Int32) then
        (ic_flags, ta_control_14, ta_count_14, tb_control_78, tb_count_78)
       else
        ((ic_flags ||| (2:Int32)), ta_control_14, ta_count_14, tb_control_78, tb_count_78)
    else
     if (if (fX5_isRunning tb_control) = (0:Int32) then (0:Int32) else (1:Int32)) = (0:Int32) then
      ((ic_flags ||| (1:Int32)), ta_control_14, ta_count_14, tb_control, tb_count)
     else
      match (fX5_countDown tb_control tb_count tb_latch) with
      | (r_78, tb_control_78, tb_count_78) =>
       if r_78 = (0:Int32) then
        ((ic_flags ||| (1:Int32)), ta_control_14, ta_count_14, tb_control_78, tb_count_78)
       else
        (((ic_flags ||| (1:Int32)) ||| (2:Int32)), ta_control_14, ta_count_14, tb_control_78, tb_count_78)
set_option maxHeartbeats 4000000 in
set_option maxRecDepth 100000 in
theorem mX1_countTimers (l : Launch) (dC : Nat → ClassId) (dI : Nat → Nat → Nat) (q_ic q_ky q_ta q_tb : Nat) (k_ky : ClassId) (sz : Nat) (ic_rows ic_keysSeen ic_flags ic_enabled ta_controlBits ta_control ta_count ta_latch tb_controlBits tb_control tb_count tb_latch : Int32) (f_ky : Nat → Int32) : Met l yX1_countTimers uX1_countTimers ({ frames := 1, cells := 0, slots := 0, locals := 20 }) (va_Pc [.ref q_ic] (fun U => U.heap.size = sz ∧ va_P (dC, dI) vwCl (wwX1 q_ic q_ky q_ta q_tb k_ky ic_rows ic_keysSeen ic_flags ic_enabled ta_controlBits ta_control ta_count ta_latch tb_controlBits tb_control tb_count tb_latch f_ky) U.heap ∧ va_K (dC, dI) vwCl [(k_ky, .int)] U ∧ va_D (fun _ => True) (wwX1 q_ic q_ky q_ta q_tb k_ky ic_rows ic_keysSeen ic_flags ic_enabled ta_controlBits ta_control ta_count ta_latch tb_controlBits tb_control tb_count tb_latch f_ky))) (va_Qv (fun (u : Int32 × Int32 × Int32 × Int32 × Int32) => u = fX1_countTimers ic_flags ta_control ta_count ta_latch tb_control tb_count tb_latch) (fun (u : Int32 × Int32 × Int32 × Int32 × Int32) (t : State) => va_P (dC, dI) vwCl (wwX1 q_ic q_ky q_ta q_tb k_ky ic_rows ic_keysSeen u.1 ic_enabled ta_controlBits u.2.1 u.2.2.1 ta_latch tb_controlBits u.2.2.2.1 u.2.2.2.2 tb_latch f_ky) t.heap ∧ va_K (dC, dI) vwCl [(k_ky, .int)] t ∧ va_D (va_A (wwX1 q_ic q_ky q_ta q_tb k_ky ic_rows ic_keysSeen ic_flags ic_enabled ta_controlBits ta_control ta_count ta_latch tb_controlBits tb_control tb_count tb_latch f_ky) sz) (wwX1 q_ic q_ky q_ta q_tb k_ky ic_rows ic_keysSeen u.1 ic_enabled ta_controlBits u.2.1 u.2.2.1 ta_latch tb_controlBits u.2.2.2.1 u.2.2.2.2 tb_latch f_ky)) (va_A (wwX1 q_ic q_ky q_ta q_tb k_ky ic_rows ic_keysSeen ic_flags ic_enabled ta_controlBits ta_control ta_count ta_latch tb_controlBits tb_control tb_count tb_latch f_ky) sz)) 0 0 (va_A (wwX1 q_ic q_ky q_ta q_tb k_ky ic_rows ic_keysSeen ic_flags ic_enabled ta_controlBits ta_control ta_count ta_latch tb_controlBits tb_control tb_count tb_latch f_ky) sz) := by
  refine Met.ofW (cc := cX1_countTimers) (maxL := 3) (ret := none) (by decide) rfl ?_
  intro p e s m args below meth c s₁ B hml hv
  obtain ⟨rfl, hsz, hP, hK, hD0⟩ := hv
  have hx := B.exec
  have hb := B.bytes
  have hr := B.returns
  have hts : ∀ w ∈ ub, w.before _ s = true := fun w h => atoms_spec (ws := uX1_countTimers) B.pre w (List.mem_cons_of_mem _ h)
  have hown : s.vm.findClass RX1 = some m.cls := findClass_of_methodNamed B.named
  have hlocks := B.notSynchronized
  subst hsz
  have hD := hD0.self (sz := s.heap.size)
  generalize hAe : va_A (wwX1 q_ic q_ky q_ta q_tb k_ky ic_rows ic_keysSeen ic_flags ic_enabled ta_controlBits ta_control ta_count ta_latch tb_controlBits tb_control tb_count tb_latch f_ky) s.heap.size = A at hD ⊢
  have hA : ∀ q : Nat, s.heap.size ≤ q → A q := fun q h => by rw [← hAe]; exact Or.inr h
  have hS : va_S A s.heap s.heap [] := va_S.rf
  have hl := lv_entry ([.ref q_ic]) (n := 3) (Nat.le_of_ble_eq_true rfl)
  rw [lg_entry_eq]
  generalize (lg_sl ([.ref q_ic]) ++ List.replicate (3 - (lg_sl ([.ref q_ic])).length) Slot.unset).toArray = ls at hl ⊢
  have hl : lv_has ls 3 [(0, .ref q_ic)] := hl
  have hF := fX1_countTimers.eq_1 ic_flags ta_control ta_count ta_latch tb_control tb_count tb_latch
  refine lv_aload_n hx hb dX1_countTimers_0 rfl (lv_at hl 0 rfl) ?_
  refine va_get (D := (dC, dI)) (ci := 1) (v := .ref q_ta) (C := RX1) (T := TX1) (N := 7) hx hb hts hiX1 hown hK hP 0 rfl rfl 1 (by decide) (hts _ kFX1_18) (fun _ h9 => h9) rfl dX1_countTimers_1 ?_
  have hPc := hP.sub (ws' := (wwX5 q_ta ta_controlBits ta_control ta_count ta_latch)) [2] rfl
  have hDc := hD.sub (ws' := (wwX5 q_ta ta_controlBits ta_control ta_count ta_latch)) [2] (by decide) rfl
  have hKc := hK.sub (tys' := []) [] rfl
  have hFc := va_free (wc := (wwX5 q_ta ta_controlBits ta_control ta_count ta_latch)) hD hS hA [2] rfl
  refine va_calli (va_runV (As := []) (rest := []) ⟨hx, hb, hml, hown, hts⟩ (mX5_isRunning l dC dI q_ta s.heap.size ta_controlBits ta_control ta_count ta_latch) (cwV 0 hts (ub_V kMX1_35 kYX5_isRunning kSX5_isRunning kIX5 kBX5_isRunning) rfl rfl rfl (by decide +kernel) ⟨Nat.le_of_ble_eq_true rfl, Nat.le_of_ble_eq_true rfl⟩) ⟨fun a U g mk q => by obtain ⟨q0, q1, qP, qK, qD⟩ := q; exact ⟨q0, q1, qP, va_K.moved (u := U) (U := U.calling g mk a) (Vm.Alike.refl U.vm) qK, qD⟩, va_recv hKc hPc (ci := 5) (q0 := 0) rfl rfl, fun U hU hW => ⟨rfl, by rw [hU], by rw [hU]; exact hPc, va_K.moved hW.alike hKc, hDc.weaken (fun _ _ _ _ => trivial)⟩⟩ rfl rfl hl.1 rfl (lv_room (Nat.le_of_ble_eq_true rfl)) dX1_countTimers_4 ⟨(Nat.zero_le _), (Nat.zero_le _)⟩) hS (fun q _ h => hFc q h) hFc (fun r_4 u_4 t H locs ht hvm hw hB hz1 hk1 hS => ?_)
  obtain ⟨hP1, hK1, hD1⟩ := hB
  rw [ht] at hP1
  subst hw
  obtain ⟨hP, hD⟩ := vb_back (wc := (wwX5 q_ta ta_controlBits ta_control ta_count ta_latch)) (ws' := (wwX1 q_ic q_ky q_ta q_tb k_ky ic_rows ic_keysSeen ic_flags ic_enabled ta_controlBits ta_control ta_count ta_latch tb_controlBits tb_control tb_count tb_latch f_ky)) hP hD hD1 [2] [0, 1, 3] rfl rfl (ae_c rfl (ae_c rfl (ae_c rfl ae_n))) rfl rfl hk1 hP1
  refine lv_if_eq (tgt := 24) hx hb dX1_countTimers_7 (by decide) (fun c_7 => ?_) (fun c_7 => ?_)
  · have hF := hF.trans (if_pos c_7)
    refine lv_iconst (v := 0) hx hb dX1_countTimers_24 (by decide) ?_
    refine lv_istore_n (lv' := [(1, .int (0:Int32)), (0, .ref q_ic)]) hx hb dX1_countTimers_25 rfl hl (by decide) rfl (fun ls hl => ?_)
    refine lv_iload_n hx hb dX1_countTimers_26 rfl (lv_at hl 0 rfl) ?_
    refine lv_if_eq (tgt := 40) hx hb dX1_countTimers_27 (by decide) (fun c_27 => ?_) (fun c_27 => by exact absurd (by decide) c_27)
    refine lv_aload_n hx hb dX1_countTimers_40 rfl (lv_at hl 1 rfl) ?_
    refine va_get (D := (dC, dI)) (ci := 1) (v := .ref q_tb) (C := RX1) (T := TX1) (N := 7) hx hb hts hiX1 hown hK hP 0 rfl rfl 2 (by decide) (hts _ kFX1_22) (fun _ h9 => h9) rfl dX1_countTimers_41 ?_
    have hPc := hP.sub (ws' := (wwX5 q_tb tb_controlBits tb_control tb_count tb_latch)) [3] rfl
    have hDc := hD.sub (ws' := (wwX5 q_tb tb_controlBits tb_control tb_count tb_latch)) [3] (by decide) rfl
    have hKc := hK.sub (tys' := []) [] rfl
    have hFc := va_free (wc := (wwX5 q_tb tb_controlBits tb_control tb_count tb_latch)) hD hS hA [3] rfl
    refine va_calli (va_runV (As := []) (rest := []) ⟨hx, hb, hml, hown, hts⟩ (mX5_isRunning l dC dI q_tb H.size tb_controlBits tb_control tb_count tb_latch) (cwV 0 hts (ub_V kMX1_35 kYX5_isRunning kSX5_isRunning kIX5 kBX5_isRunning) rfl rfl rfl (by decide +kernel) ⟨Nat.le_of_ble_eq_true rfl, Nat.le_of_ble_eq_true rfl⟩) ⟨fun a U g mk q => by obtain ⟨q0, q1, qP, qK, qD⟩ := q; exact ⟨q0, q1, qP, va_K.moved (u := U) (U := U.calling g mk a) (Vm.Alike.refl U.vm) qK, qD⟩, va_recv hKc hPc (ci := 5) (q0 := 0) rfl rfl, fun U hU hW => ⟨rfl, by rw [hU], by rw [hU]; exact hPc, va_K.moved hW.alike hKc, hDc.weaken (fun _ _ _ _ => trivial)⟩⟩ rfl rfl hl.1 rfl (lv_room (Nat.le_of_ble_eq_true rfl)) dX1_countTimers_44 ⟨(Nat.zero_le _), (Nat.zero_le _)⟩) hS (fun q _ h => hFc q h) hFc (fun r_44 u_44 t H locs ht hvm hw hB hz1 hk1 hS => ?_)
    obtain ⟨hP1, hK1, hD1⟩ := hB
    rw [ht] at hP1
    subst hw
    obtain ⟨hP, hD⟩ := vb_back (wc := (wwX5 q_tb tb_controlBits tb_control tb_count tb_latch)) (ws' := (wwX1 q_ic q_ky q_ta q_tb k_ky ic_rows ic_keysSeen ic_flags ic_enabled ta_controlBits ta_control ta_count ta_latch tb_controlBits tb_control tb_count tb_latch f_ky)) hP hD hD1 [3] [0, 1, 2] rfl rfl (ae_c rfl (ae_c rfl (ae_c rfl ae_n))) rfl rfl hk1 hP1
    refine vj_join (j := 69) (rest := []) (Hyp := fun z H locs => z = (if (fX5_isRunning tb_control) = (0:Int32) then (0:Int32) else (if (fX5_isCascaded tb_control) = (0:Int32) then (1:Int32) else (0:Int32))) ∧ va_P (dC, dI) vwCl (wwX1 q_ic q_ky q_ta q_tb k_ky ic_rows ic_keysSeen ic_flags ic_enabled ta_controlBits ta_control ta_count ta_latch tb_controlBits tb_control tb_count tb_latch f_ky) H ∧ va_S A s.heap H locs) (fun z H locs hh => ?_) (fun J69 => ?_)
    · obtain ⟨hz, hP, hS⟩ := hh
      subst hz
      refine lv_istore_n (lv' := [(2, .int (if (fX5_isRunning tb_control) = (0:Int32) then (0:Int32) else (if (fX5_isCascaded tb_control) = (0:Int32) then (1:Int32) else (0:Int32)))), (1, .int (0:Int32)), (0, .ref q_ic)]) hx hb dX1_countTimers_69 rfl hl (by decide) rfl (fun ls hl => ?_)
      refine lv_iload_n hx hb dX1_countTimers_70 rfl (lv_at hl 0 rfl) ?_
      refine lv_if_eq (tgt := 94) hx hb dX1_countTimers_71 (by decide) (fun c_71 => ?_) (fun c_71 => ?_)
      · have hF := hF.trans (if_pos c_71)
        exact W.vret hx hb hr (fun t ht hW => ⟨⟨(ic_flags, ta_control, ta_count, tb_control, tb_count), rfl, hF.symm, by rw [ht]; exact hP, va_K.moved hW.alike hK, hD⟩, hS.F ht⟩) hS.2.2 dX1_countTimers_94
      · have hF := hF.trans (if_neg c_71)
        refine lv_aload_n hx hb dX1_countTimers_74 rfl (lv_at hl 2 rfl) ?_
        refine va_get (D := (dC, dI)) (ci := 1) (v := .ref q_tb) (C := RX1) (T := TX1) (N := 7) hx hb hts hiX1 hown hK hP 0 rfl rfl 2 (by decide) (hts _ kFX1_22) (fun _ h9 => h9) rfl dX1_countTimers_75 ?_
        have hPc := hP.sub (ws' := (wwX5 q_tb tb_controlBits tb_control tb_count tb_latch)) [3] rfl
        have hDc := hD.sub (ws' := (wwX5 q_tb tb_controlBits tb_control tb_count tb_latch)) [3] (by decide) rfl
        have hKc := hK.sub (tys' := []) [] rfl
        have hFc := va_free (wc := (wwX5 q_tb tb_controlBits tb_control tb_count tb_latch)) hD hS hA [3] rfl
        refine va_calli (va_runV (As := []) (rest := []) ⟨hx, hb, hml, hown, hts⟩ (mX5_countDown l dC dI q_tb H.size tb_controlBits tb_control tb_count tb_latch) (cwV 0 hts (ub_V kMX1_39 kYX5_countDown kSX5_countDown kIX5 kBX5_countDown) rfl rfl rfl (by decide +kernel) ⟨Nat.le_of_ble_eq_true rfl, Nat.le_of_ble_eq_true rfl⟩) ⟨fun a U g mk q => by obtain ⟨q0, q1, qP, qK, qD⟩ := q; exact ⟨q0, q1, qP, va_K.moved (u := U) (U := U.calling g mk a) (Vm.Alike.refl U.vm) qK, qD⟩, va_recv hKc hPc (ci := 5) (q0 := 0) rfl rfl, fun U hU hW => ⟨rfl, by rw [hU], by rw [hU]; exact hPc, va_K.moved hW.alike hKc, hDc.weaken (fun _ _ _ _ => trivial)⟩⟩ rfl rfl hl.1 rfl (lv_room (Nat.le_of_ble_eq_true rfl)) dX1_countTimers_78 ⟨(Nat.zero_le _), (Nat.zero_le _)⟩) hS (fun q _ h => hFc q h) hFc (fun r_78 u_78 t H locs ht hvm hw hB hz1 hk1 hS => ?_)
        obtain ⟨tb_control_78, tb_count_78⟩ := u_78
        obtain ⟨hP1, hK1, hD1⟩ := hB
        rw [ht] at hP1
        obtain ⟨hP, hD⟩ := vb_back (wc := (wwX5 q_tb tb_controlBits tb_control tb_count tb_latch)) (ws' := (wwX1 q_ic q_ky q_ta q_tb k_ky ic_rows ic_keysSeen ic_flags ic_enabled ta_controlBits ta_control ta_count ta_latch tb_controlBits tb_control_78 tb_count_78 tb_latch f_ky)) hP hD hD1 [3] [0, 1, 2] rfl rfl (ae_c rfl (ae_c rfl (ae_c rfl ae_n))) rfl rfl hk1 hP1
        rw [← hw] at hF
        dsimp only at hF
        refine lv_if_eq (tgt := 94) hx hb dX1_countTimers_81 (by decide) (fun c_81 => ?_) (fun c_81 => ?_)
        · have hF := hF.trans (if_pos c_81)
          exact W.vret hx hb hr (fun t ht hW => ⟨⟨(ic_flags, ta_control, ta_count, tb_control_78, tb_count_78), rfl, hF.symm, by rw [ht]; exact hP, va_K.moved hW.alike hK, hD⟩, hS.F ht⟩) hS.2.2 dX1_countTimers_94
        · have hF := hF.trans (if_neg c_81)
          refine lv_aload_n hx hb dX1_countTimers_84 rfl (lv_at hl 2 rfl) ?_
          refine lv_dup hx hb dX1_countTimers_85 rfl ?_
          refine va_get (D := (dC, dI)) (ci := 1) (v := .int ic_flags) (C := RX1) (T := TX1) (N := 7) hx hb hts hiX1 hown hK hP 0 rfl rfl 5 (by decide) (hts _ kFX1_42) (fun _ h9 => h9) rfl dX1_countTimers_86 ?_
          refine lv_iconst (v := 2) hx hb dX1_countTimers_89 (by decide) ?_
          refine lv_ior hx hb dX1_countTimers_90 ?_
          refine va_put (D := (dC, dI)) (ci := 1) (v := .int (ic_flags ||| (2:Int32))) (ty := .int) (C := RX1) (T := TX1) (N := 7) hx hb hts hiX1 tyX1 tyX1_ok nmX1 hown hK hP hD hS 0 rfl rfl 5 (by decide) (hts _ kFX1_42) (fun _ h9 => h9) rfl (by decide +kernel) rfl rfl (Nat.le_of_ble_eq_true rfl) dX1_countTimers_91 (fun H locs hP hD hS => ?_)
          have hP : va_P (dC, dI) vwCl (wwX1 q_ic q_ky q_ta q_tb k_ky ic_rows ic_keysSeen (ic_flags ||| (2:Int32)) ic_enabled ta_controlBits ta_control ta_count ta_latch tb_controlBits tb_control_78 tb_count_78 tb_latch f_ky) H := hP
          have hD : va_D A (wwX1 q_ic q_ky q_ta q_tb k_ky ic_rows ic_keysSeen (ic_flags ||| (2:Int32)) ic_enabled ta_controlBits ta_control ta_count ta_latch tb_controlBits tb_control_78 tb_count_78 tb_latch f_ky) := hD
          exact W.vret hx hb hr (fun t ht hW => ⟨⟨((ic_flags ||| (2:Int32)), ta_control, ta_count, tb_control_78, tb_count_78), rfl, hF.symm, by rw [ht]; exact hP, va_K.moved hW.alike hK, hD⟩, hS.F ht⟩) hS.2.2 dX1_countTimers_94
    · refine lv_if_eq (tgt := 68) hx hb dX1_countTimers_47 (by decide) (fun c_47 => ?_) (fun c_47 => ?_)
      · refine lv_iconst (v := 0) hx hb dX1_countTimers_68 (by decide) ?_
        exact J69 _ _ _ ⟨by rw [if_pos c_47], hP, hS⟩
      · refine lv_iload_n hx hb dX1_countTimers_50 rfl (lv_at hl 0 rfl) ?_
        refine lv_if_ne (tgt := 64) hx hb dX1_countTimers_51 (by decide) (fun c_51 => by exact absurd (by decide) c_51) (fun c_51 => ?_)
        refine lv_aload_n hx hb dX1_countTimers_54 rfl (lv_at hl 1 rfl) ?_
        refine va_get (D := (dC, dI)) (ci := 1) (v := .ref q_tb) (C := RX1) (T := TX1) (N := 7) hx hb hts hiX1 hown hK hP 0 rfl rfl 2 (by decide) (hts _ kFX1_22) (fun _ h9 => h9) rfl dX1_countTimers_55 ?_
        have hPc := hP.sub (ws' := (wwX5 q_tb tb_controlBits tb_control tb_count tb_latch)) [3] rfl
        have hDc := hD.sub (ws' := (wwX5 q_tb tb_controlBits tb_control tb_count tb_latch)) [3] (by decide) rfl
        have hKc := hK.sub (tys' := []) [] rfl
        have hFc := va_free (wc := (wwX5 q_tb tb_controlBits tb_control tb_count tb_latch)) hD hS hA [3] rfl
        refine va_calli (va_runV (As := []) (rest := []) ⟨hx, hb, hml, hown, hts⟩ (mX5_isCascaded l dC dI q_tb H.size tb_controlBits tb_control tb_count tb_latch) (cwV 0 hts (ub_V kMX1_45 kYX5_isCascaded kSX5_isCascaded kIX5 kBX5_isCascaded) rfl rfl rfl (by decide +kernel) ⟨Nat.le_of_ble_eq_true rfl, Nat.le_of_ble_eq_true rfl⟩) ⟨fun a U g mk q => by obtain ⟨q0, q1, qP, qK, qD⟩ := q; exact ⟨q0, q1, qP, va_K.moved (u := U) (U := U.calling g mk a) (Vm.Alike.refl U.vm) qK, qD⟩, va_recv hKc hPc (ci := 5) (q0 := 0) rfl rfl, fun U hU hW => ⟨rfl, by rw [hU], by rw [hU]; exact hPc, va_K.moved hW.alike hKc, hDc.weaken (fun _ _ _ _ => trivial)⟩⟩ rfl rfl hl.1 rfl (lv_room (Nat.le_of_ble_eq_true rfl)) dX1_countTimers_58 ⟨(Nat.zero_le _), (Nat.zero_le _)⟩) hS (fun q _ h => hFc q h) hFc (fun r_58 u_58 t H locs ht hvm hw hB hz1 hk1 hS => ?_)
        obtain ⟨hP1, hK1, hD1⟩ := hB
        rw [ht] at hP1
        subst hw
        obtain ⟨hP, hD⟩ := vb_back (wc := (wwX5 q_tb tb_controlBits tb_control tb_count tb_latch)) (ws' := (wwX1 q_ic q_ky q_ta q_tb k_ky ic_rows ic_keysSeen ic_flags ic_enabled ta_controlBits ta_control ta_count ta_latch tb_controlBits tb_control tb_count tb_latch f_ky)) hP hD hD1 [3] [0, 1, 2] rfl rfl (ae_c rfl (ae_c rfl (ae_c rfl ae_n))) rfl rfl hk1 hP1
        refine lv_if_ne (tgt := 68) hx hb dX1_countTimers_61 (by decide) (fun c_61 => ?_) (fun c_61 => ?_)
        · refine lv_iconst (v := 0) hx hb dX1_countTimers_68 (by decide) ?_
          exact J69 _ _ _ ⟨by rw [if_neg c_47, if_neg c_61], hP, hS⟩
        · refine lv_iconst (v := 1) hx hb dX1_countTimers_64 (by decide) ?_
          refine lv_goto (tgt := 69) hx hb dX1_countTimers_65 (by decide) ?_
          exact J69 _ _ _ ⟨by rw [if_neg c_47, if_pos c_61], hP, hS⟩
  · have hF := hF.trans (if_neg c_7)
    refine lv_aload_n hx hb dX1_countTimers_10 rfl (lv_at hl 0 rfl) ?_
    refine va_get (D := (dC, dI)) (ci := 1) (v := .ref q_ta) (C := RX1) (T := TX1) (N := 7) hx hb hts hiX1 hown hK hP 0 rfl rfl 1 (by decide) (hts _ kFX1_18) (fun _ h9 => h9) rfl dX1_countTimers_11 ?_
    have hPc := hP.sub (ws' := (wwX5 q_ta ta_controlBits ta_control ta_count ta_latch)) [2] rfl
    have hDc := hD.sub (ws' := (wwX5 q_ta ta_controlBits ta_control ta_count ta_latch)) [2] (by decide) rfl
    have hKc := hK.sub (tys' := []) [] rfl
    have hFc := va_free (wc := (wwX5 q_ta ta_controlBits ta_control ta_count ta_latch)) hD hS hA [2] rfl
    refine va_calli (va_runV (As := []) (rest := []) ⟨hx, hb, hml, hown, hts⟩ (mX5_countDown l dC dI q_ta H.size ta_controlBits ta_control ta_count ta_latch) (cwV 0 hts (ub_V kMX1_39 kYX5_countDown kSX5_countDown kIX5 kBX5_countDown) rfl rfl rfl (by decide +kernel) ⟨Nat.le_of_ble_eq_true rfl, Nat.le_of_ble_eq_true rfl⟩) ⟨fun a U g mk q => by obtain ⟨q0, q1, qP, qK, qD⟩ := q; exact ⟨q0, q1, qP, va_K.moved (u := U) (U := U.calling g mk a) (Vm.Alike.refl U.vm) qK, qD⟩, va_recv hKc hPc (ci := 5) (q0 := 0) rfl rfl, fun U hU hW => ⟨rfl, by rw [hU], by rw [hU]; exact hPc, va_K.moved hW.alike hKc, hDc.weaken (fun _ _ _ _ => trivial)⟩⟩ rfl rfl hl.1 rfl (lv_room (Nat.le_of_ble_eq_true rfl)) dX1_countTimers_14 ⟨(Nat.zero_le _), (Nat.zero_le _)⟩) hS (fun q _ h => hFc q h) hFc (fun r_14 u_14 t H locs ht hvm hw hB hz1 hk1 hS => ?_)
    obtain ⟨ta_control_14, ta_count_14⟩ := u_14
    obtain ⟨hP1, hK1, hD1⟩ := hB
    rw [ht] at hP1
    obtain ⟨hP, hD⟩ := vb_back (wc := (wwX5 q_ta ta_controlBits ta_control ta_count ta_latch)) (ws' := (wwX1 q_ic q_ky q_ta q_tb k_ky ic_rows ic_keysSeen ic_flags ic_enabled ta_controlBits ta_control_14 ta_count_14 ta_latch tb_controlBits tb_control tb_count tb_latch f_ky)) hP hD hD1 [2] [0, 1, 3] rfl rfl (ae_c rfl (ae_c rfl (ae_c rfl ae_n))) rfl rfl hk1 hP1
    rw [← hw] at hF
    dsimp only at hF
    refine vj_join (j := 25) (rest := []) (Hyp := fun z H locs => z = (if r_14 = (0:Int32) then (0:Int32) else (1:Int32)) ∧ va_P (dC, dI) vwCl (wwX1 q_ic q_ky q_ta q_tb k_ky ic_rows ic_keysSeen ic_flags ic_enabled ta_controlBits ta_control_14 ta_count_14 ta_latch tb_controlBits tb_control tb_count tb_latch f_ky) H ∧ va_S A s.heap H locs) (fun z H locs hh => ?_) (fun J25 => ?_)
    · obtain ⟨hz, hP, hS⟩ := hh
      subst hz
      refine lv_istore_n (lv' := [(1, .int (if r_14 = (0:Int32) then (0:Int32) else (1:Int32))), (0, .ref q_ic)]) hx hb dX1_countTimers_25 rfl hl (by decide) rfl (fun ls hl => ?_)
      refine lv_iload_n hx hb dX1_countTimers_26 rfl (lv_at hl 0 rfl) ?_
      refine lv_if_eq (tgt := 40) hx hb dX1_countTimers_27 (by decide) (fun c_27 => ?_) (fun c_27 => ?_)
      · have hF := hF.trans (if_pos c_27)
        refine lv_aload_n hx hb dX1_countTimers_40 rfl (lv_at hl 1 rfl) ?_
        refine va_get (D := (dC, dI)) (ci := 1) (v := .ref q_tb) (C := RX1) (T := TX1) (N := 7) hx hb hts hiX1 hown hK hP 0 rfl rfl 2 (by decide) (hts _ kFX1_22) (fun _ h9 => h9) rfl dX1_countTimers_41 ?_
        have hPc := hP.sub (ws' := (wwX5 q_tb tb_controlBits tb_control tb_count tb_latch)) [3] rfl
        have hDc := hD.sub (ws' := (wwX5 q_tb tb_controlBits tb_control tb_count tb_latch)) [3] (by decide) rfl
        have hKc := hK.sub (tys' := []) [] rfl
        have hFc := va_free (wc := (wwX5 q_tb tb_controlBits tb_control tb_count tb_latch)) hD hS hA [3] rfl
        refine va_calli (va_runV (As := []) (rest := []) ⟨hx, hb, hml, hown, hts⟩ (mX5_isRunning l dC dI q_tb H.size tb_controlBits tb_control tb_count tb_latch) (cwV 0 hts (ub_V kMX1_35 kYX5_isRunning kSX5_isRunning kIX5 kBX5_isRunning) rfl rfl rfl (by decide +kernel) ⟨Nat.le_of_ble_eq_true rfl, Nat.le_of_ble_eq_true rfl⟩) ⟨fun a U g mk q => by obtain ⟨q0, q1, qP, qK, qD⟩ := q; exact ⟨q0, q1, qP, va_K.moved (u := U) (U := U.calling g mk a) (Vm.Alike.refl U.vm) qK, qD⟩, va_recv hKc hPc (ci := 5) (q0 := 0) rfl rfl, fun U hU hW => ⟨rfl, by rw [hU], by rw [hU]; exact hPc, va_K.moved hW.alike hKc, hDc.weaken (fun _ _ _ _ => trivial)⟩⟩ rfl rfl hl.1 rfl (lv_room (Nat.le_of_ble_eq_true rfl)) dX1_countTimers_44 ⟨(Nat.zero_le _), (Nat.zero_le _)⟩) hS (fun q _ h => hFc q h) hFc (fun r_44 u_44 t H locs ht hvm hw hB hz1 hk1 hS => ?_)
        obtain ⟨hP1, hK1, hD1⟩ := hB
        rw [ht] at hP1
        subst hw
        obtain ⟨hP, hD⟩ := vb_back (wc := (wwX5 q_tb tb_controlBits tb_control tb_count tb_latch)) (ws' := (wwX1 q_ic q_ky q_ta q_tb k_ky ic_rows ic_keysSeen ic_flags ic_enabled ta_controlBits ta_control_14 ta_count_14 ta_latch tb_controlBits tb_control tb_count tb_latch f_ky)) hP hD hD1 [3] [0, 1, 2] rfl rfl (ae_c rfl (ae_c rfl (ae_c rfl ae_n))) rfl rfl hk1 hP1
        refine vj_join (j := 69) (rest := []) (Hyp := fun z H locs => z = (if (fX5_isRunning tb_control) = (0:Int32) then (0:Int32) else (if (fX5_isCascaded tb_control) = (0:Int32) then (1:Int32) else (0:Int32))) ∧ va_P (dC, dI) vwCl (wwX1 q_ic q_ky q_ta q_tb k_ky ic_rows ic_keysSeen ic_flags ic_enabled ta_controlBits ta_control_14 ta_count_14 ta_latch tb_controlBits tb_control tb_count tb_latch f_ky) H ∧ va_S A s.heap H locs) (fun z H locs hh => ?_) (fun J69 => ?_)
        · obtain ⟨hz, hP, hS⟩ := hh
          subst hz
          refine lv_istore_n (lv' := [(2, .int (if (fX5_isRunning tb_control) = (0:Int32) then (0:Int32) else (if (fX5_isCascaded tb_control) = (0:Int32) then (1:Int32) else (0:Int32)))), (1, .int (if r_14 = (0:Int32) then (0:Int32) else (1:Int32))), (0, .ref q_ic)]) hx hb dX1_countTimers_69 rfl hl (by decide) rfl (fun ls hl => ?_)
          refine lv_iload_n hx hb dX1_countTimers_70 rfl (lv_at hl 0 rfl) ?_
          refine lv_if_eq (tgt := 94) hx hb dX1_countTimers_71 (by decide) (fun c_71 => ?_) (fun c_71 => ?_)
          · have hF := hF.trans (if_pos c_71)
            exact W.vret hx hb hr (fun t ht hW => ⟨⟨(ic_flags, ta_control_14, ta_count_14, tb_control, tb_count), rfl, hF.symm, by rw [ht]; exact hP, va_K.moved hW.alike hK, hD⟩, hS.F ht⟩) hS.2.2 dX1_countTimers_94
          · have hF := hF.trans (if_neg c_71)
            refine lv_aload_n hx hb dX1_countTimers_74 rfl (lv_at hl 2 rfl) ?_
            refine va_get (D := (dC, dI)) (ci := 1) (v := .ref q_tb) (C := RX1) (T := TX1) (N := 7) hx hb hts hiX1 hown hK hP 0 rfl rfl 2 (by decide) (hts _ kFX1_22) (fun _ h9 => h9) rfl dX1_countTimers_75 ?_
            have hPc := hP.sub (ws' := (wwX5 q_tb tb_controlBits tb_control tb_count tb_latch)) [3] rfl
            have hDc := hD.sub (ws' := (wwX5 q_tb tb_controlBits tb_control tb_count tb_latch)) [3] (by decide) rfl
            have hKc := hK.sub (tys' := []) [] rfl
            have hFc := va_free (wc := (wwX5 q_tb tb_controlBits tb_control tb_count tb_latch)) hD hS hA [3] rfl
            refine va_calli (va_runV (As := []) (rest := []) ⟨hx, hb, hml, hown, hts⟩ (mX5_countDown l dC dI q_tb H.size tb_controlBits tb_control tb_count tb_latch) (cwV 0 hts (ub_V kMX1_39 kYX5_countDown kSX5_countDown kIX5 kBX5_countDown) rfl rfl rfl (by decide +kernel) ⟨Nat.le_of_ble_eq_true rfl, Nat.le_of_ble_eq_true rfl⟩) ⟨fun a U g mk q => by obtain ⟨q0, q1, qP, qK, qD⟩ := q; exact ⟨q0, q1, qP, va_K.moved (u := U) (U := U.calling g mk a) (Vm.Alike.refl U.vm) qK, qD⟩, va_recv hKc hPc (ci := 5) (q0 := 0) rfl rfl, fun U hU hW => ⟨rfl, by rw [hU], by rw [hU]; exact hPc, va_K.moved hW.alike hKc, hDc.weaken (fun _ _ _ _ => trivial)⟩⟩ rfl rfl hl.1 rfl (lv_room (Nat.le_of_ble_eq_true rfl)) dX1_countTimers_78 ⟨(Nat.zero_le _), (Nat.zero_le _)⟩) hS (fun q _ h => hFc q h) hFc (fun r_78 u_78 t H locs ht hvm hw hB hz1 hk1 hS => ?_)
            obtain ⟨tb_control_78, tb_count_78⟩ := u_78
            obtain ⟨hP1, hK1, hD1⟩ := hB
            rw [ht] at hP1
            obtain ⟨hP, hD⟩ := vb_back (wc := (wwX5 q_tb tb_controlBits tb_control tb_count tb_latch)) (ws' := (wwX1 q_ic q_ky q_ta q_tb k_ky ic_rows ic_keysSeen ic_flags ic_enabled ta_controlBits ta_control_14 ta_count_14 ta_latch tb_controlBits tb_control_78 tb_count_78 tb_latch f_ky)) hP hD hD1 [3] [0, 1, 2] rfl rfl (ae_c rfl (ae_c rfl (ae_c rfl ae_n))) rfl rfl hk1 hP1
            rw [← hw] at hF
            dsimp only at hF
            refine lv_if_eq (tgt := 94) hx hb dX1_countTimers_81 (by decide) (fun c_81 => ?_) (fun c_81 => ?_)
            · have hF := hF.trans (if_pos c_81)
              exact W.vret hx hb hr (fun t ht hW => ⟨⟨(ic_flags, ta_control_14, ta_count_14, tb_control_78, tb_count_78), rfl, hF.symm, by rw [ht]; exact hP, va_K.moved hW.alike hK, hD⟩, hS.F ht⟩) hS.2.2 dX1_countTimers_94
            · have hF := hF.trans (if_neg c_81)
              refine lv_aload_n hx hb dX1_countTimers_84 rfl (lv_at hl 2 rfl) ?_
              refine lv_dup hx hb dX1_countTimers_85 rfl ?_
              refine va_get (D := (dC, dI)) (ci := 1) (v := .int ic_flags) (C := RX1) (T := TX1) (N := 7) hx hb hts hiX1 hown hK hP 0 rfl rfl 5 (by decide) (hts _ kFX1_42) (fun _ h9 => h9) rfl dX1_countTimers_86 ?_
              refine lv_iconst (v := 2) hx hb dX1_countTimers_89 (by decide) ?_
              refine lv_ior hx hb dX1_countTimers_90 ?_
              refine va_put (D := (dC, dI)) (ci := 1) (v := .int (ic_flags ||| (2:Int32))) (ty := .int) (C := RX1) (T := TX1) (N := 7) hx hb hts hiX1 tyX1 tyX1_ok nmX1 hown hK hP hD hS 0 rfl rfl 5 (by decide) (hts _ kFX1_42) (fun _ h9 => h9) rfl (by decide +kernel) rfl rfl (Nat.le_of_ble_eq_true rfl) dX1_countTimers_91 (fun H locs hP hD hS => ?_)
              have hP : va_P (dC, dI) vwCl (wwX1 q_ic q_ky q_ta q_tb k_ky ic_rows ic_keysSeen (ic_flags ||| (2:Int32)) ic_enabled ta_controlBits ta_control_14 ta_count_14 ta_latch tb_controlBits tb_control_78 tb_count_78 tb_latch f_ky) H := hP
              have hD : va_D A (wwX1 q_ic q_ky q_ta q_tb k_ky ic_rows ic_keysSeen (ic_flags ||| (2:Int32)) ic_enabled ta_controlBits ta_control_14 ta_count_14 ta_latch tb_controlBits tb_control_78 tb_count_78 tb_latch f_ky) := hD
              exact W.vret hx hb hr (fun t ht hW => ⟨⟨((ic_flags ||| (2:Int32)), ta_control_14, ta_count_14, tb_control_78, tb_count_78), rfl, hF.symm, by rw [ht]; exact hP, va_K.moved hW.alike hK, hD⟩, hS.F ht⟩) hS.2.2 dX1_countTimers_94
        · refine lv_if_eq (tgt := 68) hx hb dX1_countTimers_47 (by decide) (fun c_47 => ?_) (fun c_47 => ?_)
          · refine lv_iconst (v := 0) hx hb dX1_countTimers_68 (by decide) ?_
            exact J69 _ _ _ ⟨by rw [if_pos c_47], hP, hS⟩
          · refine lv_iload_n hx hb dX1_countTimers_50 rfl (lv_at hl 0 rfl) ?_
            refine lv_if_ne (tgt := 64) hx hb dX1_countTimers_51 (by decide) (fun c_51 => by exact absurd c_27 c_51) (fun c_51 => ?_)
            refine lv_aload_n hx hb dX1_countTimers_54 rfl (lv_at hl 1 rfl) ?_
            refine va_get (D := (dC, dI)) (ci := 1) (v := .ref q_tb) (C := RX1) (T := TX1) (N := 7) hx hb hts hiX1 hown hK hP 0 rfl rfl 2 (by decide) (hts _ kFX1_22) (fun _ h9 => h9) rfl dX1_countTimers_55 ?_
            have hPc := hP.sub (ws' := (wwX5 q_tb tb_controlBits tb_control tb_count tb_latch)) [3] rfl
            have hDc := hD.sub (ws' := (wwX5 q_tb tb_controlBits tb_control tb_count tb_latch)) [3] (by decide) rfl
            have hKc := hK.sub (tys' := []) [] rfl
            have hFc := va_free (wc := (wwX5 q_tb tb_controlBits tb_control tb_count tb_latch)) hD hS hA [3] rfl
            refine va_calli (va_runV (As := []) (rest := []) ⟨hx, hb, hml, hown, hts⟩ (mX5_isCascaded l dC dI q_tb H.size tb_controlBits tb_control tb_count tb_latch) (cwV 0 hts (ub_V kMX1_45 kYX5_isCascaded kSX5_isCascaded kIX5 kBX5_isCascaded) rfl rfl rfl (by decide +kernel) ⟨Nat.le_of_ble_eq_true rfl, Nat.le_of_ble_eq_true rfl⟩) ⟨fun a U g mk q => by obtain ⟨q0, q1, qP, qK, qD⟩ := q; exact ⟨q0, q1, qP, va_K.moved (u := U) (U := U.calling g mk a) (Vm.Alike.refl U.vm) qK, qD⟩, va_recv hKc hPc (ci := 5) (q0 := 0) rfl rfl, fun U hU hW => ⟨rfl, by rw [hU], by rw [hU]; exact hPc, va_K.moved hW.alike hKc, hDc.weaken (fun _ _ _ _ => trivial)⟩⟩ rfl rfl hl.1 rfl (lv_room (Nat.le_of_ble_eq_true rfl)) dX1_countTimers_58 ⟨(Nat.zero_le _), (Nat.zero_le _)⟩) hS (fun q _ h => hFc q h) hFc (fun r_58 u_58 t H locs ht hvm hw hB hz1 hk1 hS => ?_)
            obtain ⟨hP1, hK1, hD1⟩ := hB
            rw [ht] at hP1
            subst hw
            obtain ⟨hP, hD⟩ := vb_back (wc := (wwX5 q_tb tb_controlBits tb_control tb_count tb_latch)) (ws' := (wwX1 q_ic q_ky q_ta q_tb k_ky ic_rows ic_keysSeen ic_flags ic_enabled ta_controlBits ta_control_14 ta_count_14 ta_latch tb_controlBits tb_control tb_count tb_latch f_ky)) hP hD hD1 [3] [0, 1, 2] rfl rfl (ae_c rfl (ae_c rfl (ae_c rfl ae_n))) rfl rfl hk1 hP1
            refine lv_if_ne (tgt := 68) hx hb dX1_countTimers_61 (by decide) (fun c_61 => ?_) (fun c_61 => ?_)
            · refine lv_iconst (v := 0) hx hb dX1_countTimers_68 (by decide) ?_
              exact J69 _ _ _ ⟨by rw [if_neg c_47, if_neg c_61], hP, hS⟩
            · refine lv_iconst (v := 1) hx hb dX1_countTimers_64 (by decide) ?_
              refine lv_goto (tgt := 69) hx hb dX1_countTimers_65 (by decide) ?_
              exact J69 _ _ _ ⟨by rw [if_neg c_47, if_pos c_61], hP, hS⟩
      · have hF := hF.trans (if_neg c_27)
        refine lv_aload_n hx hb dX1_countTimers_30 rfl (lv_at hl 1 rfl) ?_
        refine lv_dup hx hb dX1_countTimers_31 rfl ?_
        refine va_get (D := (dC, dI)) (ci := 1) (v := .int ic_flags) (C := RX1) (T := TX1) (N := 7) hx hb hts hiX1 hown hK hP 0 rfl rfl 5 (by decide) (hts _ kFX1_42) (fun _ h9 => h9) rfl dX1_countTimers_32 ?_
        refine lv_iconst (v := 1) hx hb dX1_countTimers_35 (by decide) ?_
        refine lv_ior hx hb dX1_countTimers_36 ?_
        refine va_put (D := (dC, dI)) (ci := 1) (v := .int (ic_flags ||| (1:Int32))) (ty := .int) (C := RX1) (T := TX1) (N := 7) hx hb hts hiX1 tyX1 tyX1_ok nmX1 hown hK hP hD hS 0 rfl rfl 5 (by decide) (hts _ kFX1_42) (fun _ h9 => h9) rfl (by decide +kernel) rfl rfl (Nat.le_of_ble_eq_true rfl) dX1_countTimers_37 (fun H locs hP hD hS => ?_)
        have hP : va_P (dC, dI) vwCl (wwX1 q_ic q_ky q_ta q_tb k_ky ic_rows ic_keysSeen (ic_flags ||| (1:Int32)) ic_enabled ta_controlBits ta_control_14 ta_count_14 ta_latch tb_controlBits tb_control tb_count tb_latch f_ky) H := hP
        have hD : va_D A (wwX1 q_ic q_ky q_ta q_tb k_ky ic_rows ic_keysSeen (ic_flags ||| (1:Int32)) ic_enabled ta_controlBits ta_control_14 ta_count_14 ta_latch tb_controlBits tb_control tb_count tb_latch f_ky) := hD
        refine lv_aload_n hx hb dX1_countTimers_40 rfl (lv_at hl 1 rfl) ?_
        refine va_get (D := (dC, dI)) (ci := 1) (v := .ref q_tb) (C := RX1) (T := TX1) (N := 7) hx hb hts hiX1 hown hK hP 0 rfl rfl 2 (by decide) (hts _ kFX1_22) (fun _ h9 => h9) rfl dX1_countTimers_41 ?_
        have hPc := hP.sub (ws' := (wwX5 q_tb tb_controlBits tb_control tb_count tb_latch)) [3] rfl
        have hDc := hD.sub (ws' := (wwX5 q_tb tb_controlBits tb_control tb_count tb_latch)) [3] (by decide) rfl
        have hKc := hK.sub (tys' := []) [] rfl
        have hFc := va_free (wc := (wwX5 q_tb tb_controlBits tb_control tb_count tb_latch)) hD hS hA [3] rfl
        refine va_calli (va_runV (As := []) (rest := []) ⟨hx, hb, hml, hown, hts⟩ (mX5_isRunning l dC dI q_tb H.size tb_controlBits tb_control tb_count tb_latch) (cwV 0 hts (ub_V kMX1_35 kYX5_isRunning kSX5_isRunning kIX5 kBX5_isRunning) rfl rfl rfl (by decide +kernel) ⟨Nat.le_of_ble_eq_true rfl, Nat.le_of_ble_eq_true rfl⟩) ⟨fun a U g mk q => by obtain ⟨q0, q1, qP, qK, qD⟩ := q; exact ⟨q0, q1, qP, va_K.moved (u := U) (U := U.calling g mk a) (Vm.Alike.refl U.vm) qK, qD⟩, va_recv hKc hPc (ci := 5) (q0 := 0) rfl rfl, fun U hU hW => ⟨rfl, by rw [hU], by rw [hU]; exact hPc, va_K.moved hW.alike hKc, hDc.weaken (fun _ _ _ _ => trivial)⟩⟩ rfl rfl hl.1 rfl (lv_room (Nat.le_of_ble_eq_true rfl)) dX1_countTimers_44 ⟨(Nat.zero_le _), (Nat.zero_le _)⟩) hS (fun q _ h => hFc q h) hFc (fun r_44 u_44 t H locs ht hvm hw hB hz1 hk1 hS => ?_)
        obtain ⟨hP1, hK1, hD1⟩ := hB
        rw [ht] at hP1
        subst hw
        obtain ⟨hP, hD⟩ := vb_back (wc := (wwX5 q_tb tb_controlBits tb_control tb_count tb_latch)) (ws' := (wwX1 q_ic q_ky q_ta q_tb k_ky ic_rows ic_keysSeen (ic_flags ||| (1:Int32)) ic_enabled ta_controlBits ta_control_14 ta_count_14 ta_latch tb_controlBits tb_control tb_count tb_latch f_ky)) hP hD hD1 [3] [0, 1, 2] rfl rfl (ae_c rfl (ae_c rfl (ae_c rfl ae_n))) rfl rfl hk1 hP1
        refine vj_join (j := 69) (rest := []) (Hyp := fun z H locs => z = (if (fX5_isRunning tb_control) = (0:Int32) then (0:Int32) else (1:Int32)) ∧ va_P (dC, dI) vwCl (wwX1 q_ic q_ky q_ta q_tb k_ky ic_rows ic_keysSeen (ic_flags ||| (1:Int32)) ic_enabled ta_controlBits ta_control_14 ta_count_14 ta_latch tb_controlBits tb_control tb_count tb_latch f_ky) H ∧ va_S A s.heap H locs) (fun z H locs hh => ?_) (fun J69 => ?_)
        · obtain ⟨hz, hP, hS⟩ := hh
          subst hz
          refine lv_istore_n (lv' := [(2, .int (if (fX5_isRunning tb_control) = (0:Int32) then (0:Int32) else (1:Int32))), (1, .int (if r_14 = (0:Int32) then (0:Int32) else (1:Int32))), (0, .ref q_ic)]) hx hb dX1_countTimers_69 rfl hl (by decide) rfl (fun ls hl => ?_)
          refine lv_iload_n hx hb dX1_countTimers_70 rfl (lv_at hl 0 rfl) ?_
          refine lv_if_eq (tgt := 94) hx hb dX1_countTimers_71 (by decide) (fun c_71 => ?_) (fun c_71 => ?_)
          · have hF := hF.trans (if_pos c_71)
            exact W.vret hx hb hr (fun t ht hW => ⟨⟨((ic_flags ||| (1:Int32)), ta_control_14, ta_count_14, tb_control, tb_count), rfl, hF.symm, by rw [ht]; exact hP, va_K.moved hW.alike hK, hD⟩, hS.F ht⟩) hS.2.2 dX1_countTimers_94
          · have hF := hF.trans (if_neg c_71)
            refine lv_aload_n hx hb dX1_countTimers_74 rfl (lv_at hl 2 rfl) ?_
            refine va_get (D := (dC, dI)) (ci := 1) (v := .ref q_tb) (C := RX1) (T := TX1) (N := 7) hx hb hts hiX1 hown hK hP 0 rfl rfl 2 (by decide) (hts _ kFX1_22) (fun _ h9 => h9) rfl dX1_countTimers_75 ?_
            have hPc := hP.sub (ws' := (wwX5 q_tb tb_controlBits tb_control tb_count tb_latch)) [3] rfl
            have hDc := hD.sub (ws' := (wwX5 q_tb tb_controlBits tb_control tb_count tb_latch)) [3] (by decide) rfl
            have hKc := hK.sub (tys' := []) [] rfl
            have hFc := va_free (wc := (wwX5 q_tb tb_controlBits tb_control tb_count tb_latch)) hD hS hA [3] rfl
            refine va_calli (va_runV (As := []) (rest := []) ⟨hx, hb, hml, hown, hts⟩ (mX5_countDown l dC dI q_tb H.size tb_controlBits tb_control tb_count tb_latch) (cwV 0 hts (ub_V kMX1_39 kYX5_countDown kSX5_countDown kIX5 kBX5_countDown) rfl rfl rfl (by decide +kernel) ⟨Nat.le_of_ble_eq_true rfl, Nat.le_of_ble_eq_true rfl⟩) ⟨fun a U g mk q => by obtain ⟨q0, q1, qP, qK, qD⟩ := q; exact ⟨q0, q1, qP, va_K.moved (u := U) (U := U.calling g mk a) (Vm.Alike.refl U.vm) qK, qD⟩, va_recv hKc hPc (ci := 5) (q0 := 0) rfl rfl, fun U hU hW => ⟨rfl, by rw [hU], by rw [hU]; exact hPc, va_K.moved hW.alike hKc, hDc.weaken (fun _ _ _ _ => trivial)⟩⟩ rfl rfl hl.1 rfl (lv_room (Nat.le_of_ble_eq_true rfl)) dX1_countTimers_78 ⟨(Nat.zero_le _), (Nat.zero_le _)⟩) hS (fun q _ h => hFc q h) hFc (fun r_78 u_78 t H locs ht hvm hw hB hz1 hk1 hS => ?_)
            obtain ⟨tb_control_78, tb_count_78⟩ := u_78
            obtain ⟨hP1, hK1, hD1⟩ := hB
            rw [ht] at hP1
            obtain ⟨hP, hD⟩ := vb_back (wc := (wwX5 q_tb tb_controlBits tb_control tb_count tb_latch)) (ws' := (wwX1 q_ic q_ky q_ta q_tb k_ky ic_rows ic_keysSeen (ic_flags ||| (1:Int32)) ic_enabled ta_controlBits ta_control_14 ta_count_14 ta_latch tb_controlBits tb_control_78 tb_count_78 tb_latch f_ky)) hP hD hD1 [3] [0, 1, 2] rfl rfl (ae_c rfl (ae_c rfl (ae_c rfl ae_n))) rfl rfl hk1 hP1
            rw [← hw] at hF
            dsimp only at hF
            refine lv_if_eq (tgt := 94) hx hb dX1_countTimers_81 (by decide) (fun c_81 => ?_) (fun c_81 => ?_)
            · have hF := hF.trans (if_pos c_81)
              exact W.vret hx hb hr (fun t ht hW => ⟨⟨((ic_flags ||| (1:Int32)), ta_control_14, ta_count_14, tb_control_78, tb_count_78), rfl, hF.symm, by rw [ht]; exact hP, va_K.moved hW.alike hK, hD⟩, hS.F ht⟩) hS.2.2 dX1_countTimers_94
            · have hF := hF.trans (if_neg c_81)
              refine lv_aload_n hx hb dX1_countTimers_84 rfl (lv_at hl 2 rfl) ?_
              refine lv_dup hx hb dX1_countTimers_85 rfl ?_
              refine va_get (D := (dC, dI)) (ci := 1) (v := .int (ic_flags ||| (1:Int32))) (C := RX1) (T := TX1) (N := 7) hx hb hts hiX1 hown hK hP 0 rfl rfl 5 (by decide) (hts _ kFX1_42) (fun _ h9 => h9) rfl dX1_countTimers_86 ?_
              refine lv_iconst (v := 2) hx hb dX1_countTimers_89 (by decide) ?_
              refine lv_ior hx hb dX1_countTimers_90 ?_
              refine va_put (D := (dC, dI)) (ci := 1) (v := .int ((ic_flags ||| (1:Int32)) ||| (2:Int32))) (ty := .int) (C := RX1) (T := TX1) (N := 7) hx hb hts hiX1 tyX1 tyX1_ok nmX1 hown hK hP hD hS 0 rfl rfl 5 (by decide) (hts _ kFX1_42) (fun _ h9 => h9) rfl (by decide +kernel) rfl rfl (Nat.le_of_ble_eq_true rfl) dX1_countTimers_91 (fun H locs hP hD hS => ?_)
              have hP : va_P (dC, dI) vwCl (wwX1 q_ic q_ky q_ta q_tb k_ky ic_rows ic_keysSeen ((ic_flags ||| (1:Int32)) ||| (2:Int32)) ic_enabled ta_controlBits ta_control_14 ta_count_14 ta_latch tb_controlBits tb_control_78 tb_count_78 tb_latch f_ky) H := hP
              have hD : va_D A (wwX1 q_ic q_ky q_ta q_tb k_ky ic_rows ic_keysSeen ((ic_flags ||| (1:Int32)) ||| (2:Int32)) ic_enabled ta_controlBits ta_control_14 ta_count_14 ta_latch tb_controlBits tb_control_78 tb_count_78 tb_latch f_ky) := hD
              exact W.vret hx hb hr (fun t ht hW => ⟨⟨(((ic_flags ||| (1:Int32)) ||| (2:Int32)), ta_control_14, ta_count_14, tb_control_78, tb_count_78), rfl, hF.symm, by rw [ht]; exact hP, va_K.moved hW.alike hK, hD⟩, hS.F ht⟩) hS.2.2 dX1_countTimers_94
        · refine lv_if_eq (tgt := 68) hx hb dX1_countTimers_47 (by decide) (fun c_47 => ?_) (fun c_47 => ?_)
          · refine lv_iconst (v := 0) hx hb dX1_countTimers_68 (by decide) ?_
            exact J69 _ _ _ ⟨by rw [if_pos c_47], hP, hS⟩
          · refine lv_iload_n hx hb dX1_countTimers_50 rfl (lv_at hl 0 rfl) ?_
            refine lv_if_ne (tgt := 64) hx hb dX1_countTimers_51 (by decide) (fun c_51 => ?_) (fun c_51 => by exact absurd c_51 c_27)
            refine lv_iconst (v := 1) hx hb dX1_countTimers_64 (by decide) ?_
            refine lv_goto (tgt := 69) hx hb dX1_countTimers_65 (by decide) ?_
            exact J69 _ _ _ ⟨by rw [if_neg c_47], hP, hS⟩
    · refine lv_if_eq (tgt := 24) hx hb dX1_countTimers_17 (by decide) (fun c_17 => ?_) (fun c_17 => ?_)
      · refine lv_iconst (v := 0) hx hb dX1_countTimers_24 (by decide) ?_
        exact J25 _ _ _ ⟨by rw [if_pos c_17], hP, hS⟩
      · refine lv_iconst (v := 1) hx hb dX1_countTimers_20 (by decide) ?_
        refine lv_goto (tgt := 25) hx hb dX1_countTimers_21 (by decide) ?_
        exact J25 _ _ _ ⟨by rw [if_neg c_17], hP, hS⟩
def fX1_asksInterrupt (ic_flags : Int32) (ic_enabled : Int32) : Int32 :=
  (if (ic_flags &&& ic_enabled) = (0:Int32) then (0:Int32) else (1:Int32))
set_option maxHeartbeats 4000000 in
set_option maxRecDepth 100000 in
theorem mX1_asksInterrupt (l : Launch) (dC : Nat → ClassId) (dI : Nat → Nat → Nat) (q_ic q_ky q_ta q_tb : Nat) (k_ky : ClassId) (sz : Nat) (ic_rows ic_keysSeen ic_flags ic_enabled ta_controlBits ta_control ta_count ta_latch tb_controlBits tb_control tb_count tb_latch : Int32) (f_ky : Nat → Int32) : Met l yX1_asksInterrupt uX1_asksInterrupt ({ frames := 0, cells := 0, slots := 0, locals := 0 }) (va_Pc [.ref q_ic] (fun U => U.heap.size = sz ∧ va_P (dC, dI) vwCl (wwX1 q_ic q_ky q_ta q_tb k_ky ic_rows ic_keysSeen ic_flags ic_enabled ta_controlBits ta_control ta_count ta_latch tb_controlBits tb_control tb_count tb_latch f_ky) U.heap ∧ va_K (dC, dI) vwCl [(k_ky, .int)] U ∧ va_D (fun _ => True) (wwX1 q_ic q_ky q_ta q_tb k_ky ic_rows ic_keysSeen ic_flags ic_enabled ta_controlBits ta_control ta_count ta_latch tb_controlBits tb_control tb_count tb_latch f_ky))) (va_Qi (fun (r : Int32) (u : Unit) => r = fX1_asksInterrupt ic_flags ic_enabled) (fun (u : Unit) (t : State) => va_P (dC, dI) vwCl (wwX1 q_ic q_ky q_ta q_tb k_ky ic_rows ic_keysSeen ic_flags ic_enabled ta_controlBits ta_control ta_count ta_latch tb_controlBits tb_control tb_count tb_latch f_ky) t.heap ∧ va_K (dC, dI) vwCl [(k_ky, .int)] t ∧ va_D (va_A (wwX1 q_ic q_ky q_ta q_tb k_ky ic_rows ic_keysSeen ic_flags ic_enabled ta_controlBits ta_control ta_count ta_latch tb_controlBits tb_control tb_count tb_latch f_ky) sz) (wwX1 q_ic q_ky q_ta q_tb k_ky ic_rows ic_keysSeen ic_flags ic_enabled ta_controlBits ta_control ta_count ta_latch tb_controlBits tb_control tb_count tb_latch f_ky)) (va_A (wwX1 q_ic q_ky q_ta q_tb k_ky ic_rows ic_keysSeen ic_flags ic_enabled ta_controlBits ta_control ta_count ta_latch tb_controlBits tb_control tb_count tb_latch f_ky) sz)) 0 0 (va_A (wwX1 q_ic q_ky q_ta q_tb k_ky ic_rows ic_keysSeen ic_flags ic_enabled ta_controlBits ta_control ta_count ta_latch tb_controlBits tb_control tb_count tb_latch f_ky) sz) := by
  refine Met.ofW (cc := cX1_asksInterrupt) (maxL := 1) (ret := (some .boolean)) (by decide) rfl ?_
  intro p e s m args below meth c s₁ B hml hv
  obtain ⟨rfl, hsz, hP, hK, hD0⟩ := hv
  have hx := B.exec
  have hb := B.bytes
  have hr := B.returns
  have hts : ∀ w ∈ ub, w.before _ s = true := fun w h => atoms_spec (ws := uX1_asksInterrupt) B.pre w (List.mem_cons_of_mem _ h)
  have hown : s.vm.findClass RX1 = some m.cls := findClass_of_methodNamed B.named
  have hlocks := B.notSynchronized
  subst hsz
  have hD := hD0.self (sz := s.heap.size)
  generalize hAe : va_A (wwX1 q_ic q_ky q_ta q_tb k_ky ic_rows ic_keysSeen ic_flags ic_enabled ta_controlBits ta_control ta_count ta_latch tb_controlBits tb_control tb_count tb_latch f_ky) s.heap.size = A at hD ⊢
  have hA : ∀ q : Nat, s.heap.size ≤ q → A q := fun q h => by rw [← hAe]; exact Or.inr h
  have hS : va_S A s.heap s.heap [] := va_S.rf
  have hl := lv_entry ([.ref q_ic]) (n := 1) (Nat.le_of_ble_eq_true rfl)
  rw [lg_entry_eq]
  generalize (lg_sl ([.ref q_ic]) ++ List.replicate (1 - (lg_sl ([.ref q_ic])).length) Slot.unset).toArray = ls at hl ⊢
  have hl : lv_has ls 1 [(0, .ref q_ic)] := hl
  have hF := fX1_asksInterrupt.eq_1 ic_flags ic_enabled
  refine lv_aload_n hx hb dX1_asksInterrupt_0 rfl (lv_at hl 0 rfl) ?_
  refine va_get (D := (dC, dI)) (ci := 1) (v := .int ic_flags) (C := RX1) (T := TX1) (N := 7) hx hb hts hiX1 hown hK hP 0 rfl rfl 5 (by decide) (hts _ kFX1_42) (fun _ h9 => h9) rfl dX1_asksInterrupt_1 ?_
  refine lv_aload_n hx hb dX1_asksInterrupt_4 rfl (lv_at hl 0 rfl) ?_
  refine va_get (D := (dC, dI)) (ci := 1) (v := .int ic_enabled) (C := RX1) (T := TX1) (N := 7) hx hb hts hiX1 hown hK hP 0 rfl rfl 6 (by decide) (hts _ kFX1_48) (fun _ h9 => h9) rfl dX1_asksInterrupt_5 ?_
  refine lv_iand hx hb dX1_asksInterrupt_8 ?_
  refine vj_join (j := 17) (rest := []) (Hyp := fun z H locs => z = (if (ic_flags &&& ic_enabled) = (0:Int32) then (0:Int32) else (1:Int32)) ∧ va_P (dC, dI) vwCl (wwX1 q_ic q_ky q_ta q_tb k_ky ic_rows ic_keysSeen ic_flags ic_enabled ta_controlBits ta_control ta_count ta_latch tb_controlBits tb_control tb_count tb_latch f_ky) H ∧ va_S A s.heap H locs) (fun z H locs hh => ?_) (fun J17 => ?_)
  · obtain ⟨hz, hP, hS⟩ := hh
    subst hz
    exact W.zret (v := (if (ic_flags &&& ic_enabled) = (0:Int32) then (0:Int32) else (1:Int32))) hx hb hr (nb_if rfl rfl) (fun t ht hW => ⟨⟨(if (ic_flags &&& ic_enabled) = (0:Int32) then (0:Int32) else (1:Int32)), (), rfl, hF.symm, by rw [ht]; exact hP, va_K.moved hW.alike hK, hD⟩, hS.F ht⟩) hS.2.2 dX1_asksInterrupt_17
  · refine lv_if_eq (tgt := 16) hx hb dX1_asksInterrupt_9 (by decide) (fun c_9 => ?_) (fun c_9 => ?_)
    · refine lv_iconst (v := 0) hx hb dX1_asksInterrupt_16 (by decide) ?_
      exact J17 _ _ _ ⟨by rw [if_pos c_9], hP, hS⟩
    · refine lv_iconst (v := 1) hx hb dX1_asksInterrupt_12 (by decide) ?_
      refine lv_goto (tgt := 17) hx hb dX1_asksInterrupt_13 (by decide) ?_
      exact J17 _ _ _ ⟨by rw [if_neg c_9], hP, hS⟩
def fX2_beginLine (pi_line : Int32) (pi_compareLine : Int32) (pi_flag : Int32) (pi_idle : Int32) (pi_rowToFetch : Int32) : Int32 × Int32 × Int32 :=
  if pi_line = pi_compareLine then
   if pi_line = (0:Int32) then
    ((1:Int32), (1:Int32), (0:Int32))
   else
    ((1:Int32), pi_idle, pi_rowToFetch)
  else
   if pi_line = (0:Int32) then
    (pi_flag, (1:Int32), (0:Int32))
   else
    (pi_flag, pi_idle, pi_rowToFetch)
set_option maxHeartbeats 4000000 in
set_option maxRecDepth 100000 in
theorem mX2_beginLine (l : Launch) (dC : Nat → ClassId) (dI : Nat → Nat → Nat) (q_pi q_ra q_rc q_po q_co q_wc q_wo : Nat) (k_ra k_rc k_po k_co k_wc k_wo : ClassId) (sz : Nat) (pi_line pi_cycle pi_control pi_compareLine pi_ground pi_border pi_base pi_flag pi_enabled pi_idle pi_bad pi_glyphLine pi_rowToFetch : Int32) (f_ra f_rc f_po f_co f_wc f_wo : Nat → Int32) : Met l yX2_beginLine uX2_beginLine ({ frames := 0, cells := 0, slots := 0, locals := 0 }) (va_Pc [.ref q_pi] (fun U => U.heap.size = sz ∧ va_P (dC, dI) vwCl (wwX2 q_pi q_ra q_rc q_po q_co q_wc q_wo k_ra k_rc k_po k_co k_wc k_wo pi_line pi_cycle pi_control pi_compareLine pi_ground pi_border pi_base pi_flag pi_enabled pi_idle pi_bad pi_glyphLine pi_rowToFetch f_ra f_rc f_po f_co f_wc f_wo) U.heap ∧ va_K (dC, dI) vwCl [(k_ra, .int), (k_rc, .int), (k_po, .int), (k_co, .int), (k_wc, .int), (k_wo, .int)] U ∧ va_D (fun _ => True) (wwX2 q_pi q_ra q_rc q_po q_co q_wc q_wo k_ra k_rc k_po k_co k_wc k_wo pi_line pi_cycle pi_control pi_compareLine pi_ground pi_border pi_base pi_flag pi_enabled pi_idle pi_bad pi_glyphLine pi_rowToFetch f_ra f_rc f_po f_co f_wc f_wo))) (va_Qv (fun (u : Int32 × Int32 × Int32) => u = fX2_beginLine pi_line pi_compareLine pi_flag pi_idle pi_rowToFetch) (fun (u : Int32 × Int32 × Int32) (t : State) => va_P (dC, dI) vwCl (wwX2 q_pi q_ra q_rc q_po q_co q_wc q_wo k_ra k_rc k_po k_co k_wc k_wo pi_line pi_cycle pi_control pi_compareLine pi_ground pi_border pi_base u.1 pi_enabled u.2.1 pi_bad pi_glyphLine u.2.2 f_ra f_rc f_po f_co f_wc f_wo) t.heap ∧ va_K (dC, dI) vwCl [(k_ra, .int), (k_rc, .int), (k_po, .int), (k_co, .int), (k_wc, .int), (k_wo, .int)] t ∧ va_D (va_A (wwX2 q_pi q_ra q_rc q_po q_co q_wc q_wo k_ra k_rc k_po k_co k_wc k_wo pi_line pi_cycle pi_control pi_compareLine pi_ground pi_border pi_base pi_flag pi_enabled pi_idle pi_bad pi_glyphLine pi_rowToFetch f_ra f_rc f_po f_co f_wc f_wo) sz) (wwX2 q_pi q_ra q_rc q_po q_co q_wc q_wo k_ra k_rc k_po k_co k_wc k_wo pi_line pi_cycle pi_control pi_compareLine pi_ground pi_border pi_base u.1 pi_enabled u.2.1 pi_bad pi_glyphLine u.2.2 f_ra f_rc f_po f_co f_wc f_wo)) (va_A (wwX2 q_pi q_ra q_rc q_po q_co q_wc q_wo k_ra k_rc k_po k_co k_wc k_wo pi_line pi_cycle pi_control pi_compareLine pi_ground pi_border pi_base pi_flag pi_enabled pi_idle pi_bad pi_glyphLine pi_rowToFetch f_ra f_rc f_po f_co f_wc f_wo) sz)) 0 0 (va_A (wwX2 q_pi q_ra q_rc q_po q_co q_wc q_wo k_ra k_rc k_po k_co k_wc k_wo pi_line pi_cycle pi_control pi_compareLine pi_ground pi_border pi_base pi_flag pi_enabled pi_idle pi_bad pi_glyphLine pi_rowToFetch f_ra f_rc f_po f_co f_wc f_wo) sz) := by
  refine Met.ofW (cc := cX2_beginLine) (maxL := 1) (ret := none) (by decide) rfl ?_
  intro p e s m args below meth c s₁ B hml hv
  obtain ⟨rfl, hsz, hP, hK, hD0⟩ := hv
  have hx := B.exec
  have hb := B.bytes
  have hr := B.returns
  have hts : ∀ w ∈ ub, w.before _ s = true := fun w h => atoms_spec (ws := uX2_beginLine) B.pre w (List.mem_cons_of_mem _ h)
  have hown : s.vm.findClass RX2 = some m.cls := findClass_of_methodNamed B.named
  have hlocks := B.notSynchronized
  subst hsz
  have hD := hD0.self (sz := s.heap.size)
  generalize hAe : va_A (wwX2 q_pi q_ra q_rc q_po q_co q_wc q_wo k_ra k_rc k_po k_co k_wc k_wo pi_line pi_cycle pi_control pi_compareLine pi_ground pi_border pi_base pi_flag pi_enabled pi_idle pi_bad pi_glyphLine pi_rowToFetch f_ra f_rc f_po f_co f_wc f_wo) s.heap.size = A at hD ⊢
  have hA : ∀ q : Nat, s.heap.size ≤ q → A q := fun q h => by rw [← hAe]; exact Or.inr h
  have hS : va_S A s.heap s.heap [] := va_S.rf
  have hl := lv_entry ([.ref q_pi]) (n := 1) (Nat.le_of_ble_eq_true rfl)
  rw [lg_entry_eq]
  generalize (lg_sl ([.ref q_pi]) ++ List.replicate (1 - (lg_sl ([.ref q_pi])).length) Slot.unset).toArray = ls at hl ⊢
  have hl : lv_has ls 1 [(0, .ref q_pi)] := hl
  have hF := fX2_beginLine.eq_1 pi_line pi_compareLine pi_flag pi_idle pi_rowToFetch
  refine lv_aload_n hx hb dX2_beginLine_0 rfl (lv_at hl 0 rfl) ?_
  refine va_get (D := (dC, dI)) (ci := 2) (v := .int pi_line) (C := RX2) (T := TX2) (N := 19) hx hb hts hiX2 hown hK hP 0 rfl rfl 6 (by decide) (hts _ kFX2_58) (fun _ h9 => h9) rfl dX2_beginLine_1 ?_
  refine lv_aload_n hx hb dX2_beginLine_4 rfl (lv_at hl 0 rfl) ?_
  refine va_get (D := (dC, dI)) (ci := 2) (v := .int pi_compareLine) (C := RX2) (T := TX2) (N := 19) hx hb hts hiX2 hown hK hP 0 rfl rfl 9 (by decide) (hts _ kFX2_67) (fun _ h9 => h9) rfl dX2_beginLine_5 ?_
  refine lv_icmp_ne (tgt := 16) hx hb dX2_beginLine_8 (by decide) (fun c_8 => ?_) (fun c_8 => ?_)
  · have hF := hF.trans (if_neg c_8)
    refine lv_aload_n hx hb dX2_beginLine_16 rfl (lv_at hl 0 rfl) ?_
    refine va_get (D := (dC, dI)) (ci := 2) (v := .int pi_line) (C := RX2) (T := TX2) (N := 19) hx hb hts hiX2 hown hK hP 0 rfl rfl 6 (by decide) (hts _ kFX2_58) (fun _ h9 => h9) rfl dX2_beginLine_17 ?_
    refine lv_if_ne (tgt := 33) hx hb dX2_beginLine_20 (by decide) (fun c_20 => ?_) (fun c_20 => ?_)
    · have hF := hF.trans (if_neg c_20)
      exact W.vret hx hb hr (fun t ht hW => ⟨⟨(pi_flag, pi_idle, pi_rowToFetch), rfl, hF.symm, by rw [ht]; exact hP, va_K.moved hW.alike hK, hD⟩, hS.F ht⟩) hS.2.2 dX2_beginLine_33
    · have hF := hF.trans (if_pos c_20)
      refine lv_aload_n hx hb dX2_beginLine_23 rfl (lv_at hl 0 rfl) ?_
      refine lv_iconst (v := 1) hx hb dX2_beginLine_24 (by decide) ?_
      refine va_put (D := (dC, dI)) (ci := 2) (v := .int (1:Int32)) (ty := .boolean) (C := RX2) (T := TX2) (N := 19) hx hb hts hiX2 tyX2 tyX2_ok nmX2 hown hK hP hD hS 0 rfl rfl 15 (by decide) (hts _ kFX2_22) (fun _ h9 => h9) rfl (by decide +kernel) rfl rfl (Nat.le_of_ble_eq_true rfl) dX2_beginLine_25 (fun H locs hP hD hS => ?_)
      have hP : va_P (dC, dI) vwCl (wwX2 q_pi q_ra q_rc q_po q_co q_wc q_wo k_ra k_rc k_po k_co k_wc k_wo pi_line pi_cycle pi_control pi_compareLine pi_ground pi_border pi_base pi_flag pi_enabled (1:Int32) pi_bad pi_glyphLine pi_rowToFetch f_ra f_rc f_po f_co f_wc f_wo) H := hP
      have hD : va_D A (wwX2 q_pi q_ra q_rc q_po q_co q_wc q_wo k_ra k_rc k_po k_co k_wc k_wo pi_line pi_cycle pi_control pi_compareLine pi_ground pi_border pi_base pi_flag pi_enabled (1:Int32) pi_bad pi_glyphLine pi_rowToFetch f_ra f_rc f_po f_co f_wc f_wo) := hD
      refine lv_aload_n hx hb dX2_beginLine_28 rfl (lv_at hl 0 rfl) ?_
      refine lv_iconst (v := 0) hx hb dX2_beginLine_29 (by decide) ?_
      refine va_put (D := (dC, dI)) (ci := 2) (v := .int (0:Int32)) (ty := .int) (C := RX2) (T := TX2) (N := 19) hx hb hts hiX2 tyX2 tyX2_ok nmX2 hown hK hP hD hS 0 rfl rfl 18 (by decide) (hts _ kFX2_52) (fun _ h9 => h9) rfl (by decide +kernel) rfl rfl (Nat.le_of_ble_eq_true rfl) dX2_beginLine_30 (fun H locs hP hD hS => ?_)
      have hP : va_P (dC, dI) vwCl (wwX2 q_pi q_ra q_rc q_po q_co q_wc q_wo k_ra k_rc k_po k_co k_wc k_wo pi_line pi_cycle pi_control pi_compareLine pi_ground pi_border pi_base pi_flag pi_enabled (1:Int32) pi_bad pi_glyphLine (0:Int32) f_ra f_rc f_po f_co f_wc f_wo) H := hP
      have hD : va_D A (wwX2 q_pi q_ra q_rc q_po q_co q_wc q_wo k_ra k_rc k_po k_co k_wc k_wo pi_line pi_cycle pi_control pi_compareLine pi_ground pi_border pi_base pi_flag pi_enabled (1:Int32) pi_bad pi_glyphLine (0:Int32) f_ra f_rc f_po f_co f_wc f_wo) := hD
      exact W.vret hx hb hr (fun t ht hW => ⟨⟨(pi_flag, (1:Int32), (0:Int32)), rfl, hF.symm, by rw [ht]; exact hP, va_K.moved hW.alike hK, hD⟩, hS.F ht⟩) hS.2.2 dX2_beginLine_33
  · have hF := hF.trans (if_pos c_8)
    refine lv_aload_n hx hb dX2_beginLine_11 rfl (lv_at hl 0 rfl) ?_
    refine lv_iconst (v := 1) hx hb dX2_beginLine_12 (by decide) ?_
    refine va_put (D := (dC, dI)) (ci := 2) (v := .int (1:Int32)) (ty := .boolean) (C := RX2) (T := TX2) (N := 19) hx hb hts hiX2 tyX2 tyX2_ok nmX2 hown hK hP hD hS 0 rfl rfl 13 (by decide) (hts _ kFX2_61) (fun _ h9 => h9) rfl (by decide +kernel) rfl rfl (Nat.le_of_ble_eq_true rfl) dX2_beginLine_13 (fun H locs hP hD hS => ?_)
    have hP : va_P (dC, dI) vwCl (wwX2 q_pi q_ra q_rc q_po q_co q_wc q_wo k_ra k_rc k_po k_co k_wc k_wo pi_line pi_cycle pi_control pi_compareLine pi_ground pi_border pi_base (1:Int32) pi_enabled pi_idle pi_bad pi_glyphLine pi_rowToFetch f_ra f_rc f_po f_co f_wc f_wo) H := hP
    have hD : va_D A (wwX2 q_pi q_ra q_rc q_po q_co q_wc q_wo k_ra k_rc k_po k_co k_wc k_wo pi_line pi_cycle pi_control pi_compareLine pi_ground pi_border pi_base (1:Int32) pi_enabled pi_idle pi_bad pi_glyphLine pi_rowToFetch f_ra f_rc f_po f_co f_wc f_wo) := hD
    refine lv_aload_n hx hb dX2_beginLine_16 rfl (lv_at hl 0 rfl) ?_
    refine va_get (D := (dC, dI)) (ci := 2) (v := .int pi_line) (C := RX2) (T := TX2) (N := 19) hx hb hts hiX2 hown hK hP 0 rfl rfl 6 (by decide) (hts _ kFX2_58) (fun _ h9 => h9) rfl dX2_beginLine_17 ?_
    refine lv_if_ne (tgt := 33) hx hb dX2_beginLine_20 (by decide) (fun c_20 => ?_) (fun c_20 => ?_)
    · have hF := hF.trans (if_neg c_20)
      exact W.vret hx hb hr (fun t ht hW => ⟨⟨((1:Int32), pi_idle, pi_rowToFetch), rfl, hF.symm, by rw [ht]; exact hP, va_K.moved hW.alike hK, hD⟩, hS.F ht⟩) hS.2.2 dX2_beginLine_33
    · have hF := hF.trans (if_pos c_20)
      refine lv_aload_n hx hb dX2_beginLine_23 rfl (lv_at hl 0 rfl) ?_
      refine lv_iconst (v := 1) hx hb dX2_beginLine_24 (by decide) ?_
      refine va_put (D := (dC, dI)) (ci := 2) (v := .int (1:Int32)) (ty := .boolean) (C := RX2) (T := TX2) (N := 19) hx hb hts hiX2 tyX2 tyX2_ok nmX2 hown hK hP hD hS 0 rfl rfl 15 (by decide) (hts _ kFX2_22) (fun _ h9 => h9) rfl (by decide +kernel) rfl rfl (Nat.le_of_ble_eq_true rfl) dX2_beginLine_25 (fun H locs hP hD hS => ?_)
      have hP : va_P (dC, dI) vwCl (wwX2 q_pi q_ra q_rc q_po q_co q_wc q_wo k_ra k_rc k_po k_co k_wc k_wo pi_line pi_cycle pi_control pi_compareLine pi_ground pi_border pi_base (1:Int32) pi_enabled (1:Int32) pi_bad pi_glyphLine pi_rowToFetch f_ra f_rc f_po f_co f_wc f_wo) H := hP
      have hD : va_D A (wwX2 q_pi q_ra q_rc q_po q_co q_wc q_wo k_ra k_rc k_po k_co k_wc k_wo pi_line pi_cycle pi_control pi_compareLine pi_ground pi_border pi_base (1:Int32) pi_enabled (1:Int32) pi_bad pi_glyphLine pi_rowToFetch f_ra f_rc f_po f_co f_wc f_wo) := hD
      refine lv_aload_n hx hb dX2_beginLine_28 rfl (lv_at hl 0 rfl) ?_
      refine lv_iconst (v := 0) hx hb dX2_beginLine_29 (by decide) ?_
      refine va_put (D := (dC, dI)) (ci := 2) (v := .int (0:Int32)) (ty := .int) (C := RX2) (T := TX2) (N := 19) hx hb hts hiX2 tyX2 tyX2_ok nmX2 hown hK hP hD hS 0 rfl rfl 18 (by decide) (hts _ kFX2_52) (fun _ h9 => h9) rfl (by decide +kernel) rfl rfl (Nat.le_of_ble_eq_true rfl) dX2_beginLine_30 (fun H locs hP hD hS => ?_)
      have hP : va_P (dC, dI) vwCl (wwX2 q_pi q_ra q_rc q_po q_co q_wc q_wo k_ra k_rc k_po k_co k_wc k_wo pi_line pi_cycle pi_control pi_compareLine pi_ground pi_border pi_base (1:Int32) pi_enabled (1:Int32) pi_bad pi_glyphLine (0:Int32) f_ra f_rc f_po f_co f_wc f_wo) H := hP
      have hD : va_D A (wwX2 q_pi q_ra q_rc q_po q_co q_wc q_wo k_ra k_rc k_po k_co k_wc k_wo pi_line pi_cycle pi_control pi_compareLine pi_ground pi_border pi_base (1:Int32) pi_enabled (1:Int32) pi_bad pi_glyphLine (0:Int32) f_ra f_rc f_po f_co f_wc f_wo) := hD
      exact W.vret hx hb hr (fun t ht hW => ⟨⟨((1:Int32), (1:Int32), (0:Int32)), rfl, hF.symm, by rw [ht]; exact hP, va_K.moved hW.alike hK, hD⟩, hS.F ht⟩) hS.2.2 dX2_beginLine_33
def fX2_isShowing (pi_line : Int32) (pi_control : Int32) : Int32 :=
  (if pi_line < (8:Int32) then (0:Int32) else (if (31:Int32) < pi_line then (0:Int32) else (if (pi_control &&& (16:Int32)) = (0:Int32) then (0:Int32) else (1:Int32))))
set_option maxHeartbeats 4000000 in
set_option maxRecDepth 100000 in
theorem mX2_isShowing (l : Launch) (dC : Nat → ClassId) (dI : Nat → Nat → Nat) (q_pi q_ra q_rc q_po q_co q_wc q_wo : Nat) (k_ra k_rc k_po k_co k_wc k_wo : ClassId) (sz : Nat) (pi_line pi_cycle pi_control pi_compareLine pi_ground pi_border pi_base pi_flag pi_enabled pi_idle pi_bad pi_glyphLine pi_rowToFetch : Int32) (f_ra f_rc f_po f_co f_wc f_wo : Nat → Int32) : Met l yX2_isShowing uX2_isShowing ({ frames := 0, cells := 0, slots := 0, locals := 0 }) (va_Pc [.ref q_pi] (fun U => U.heap.size = sz ∧ va_P (dC, dI) vwCl (wwX2 q_pi q_ra q_rc q_po q_co q_wc q_wo k_ra k_rc k_po k_co k_wc k_wo pi_line pi_cycle pi_control pi_compareLine pi_ground pi_border pi_base pi_flag pi_enabled pi_idle pi_bad pi_glyphLine pi_rowToFetch f_ra f_rc f_po f_co f_wc f_wo) U.heap ∧ va_K (dC, dI) vwCl [(k_ra, .int), (k_rc, .int), (k_po, .int), (k_co, .int), (k_wc, .int), (k_wo, .int)] U ∧ va_D (fun _ => True) (wwX2 q_pi q_ra q_rc q_po q_co q_wc q_wo k_ra k_rc k_po k_co k_wc k_wo pi_line pi_cycle pi_control pi_compareLine pi_ground pi_border pi_base pi_flag pi_enabled pi_idle pi_bad pi_glyphLine pi_rowToFetch f_ra f_rc f_po f_co f_wc f_wo))) (va_Qi (fun (r : Int32) (u : Unit) => r = fX2_isShowing pi_line pi_control) (fun (u : Unit) (t : State) => va_P (dC, dI) vwCl (wwX2 q_pi q_ra q_rc q_po q_co q_wc q_wo k_ra k_rc k_po k_co k_wc k_wo pi_line pi_cycle pi_control pi_compareLine pi_ground pi_border pi_base pi_flag pi_enabled pi_idle pi_bad pi_glyphLine pi_rowToFetch f_ra f_rc f_po f_co f_wc f_wo) t.heap ∧ va_K (dC, dI) vwCl [(k_ra, .int), (k_rc, .int), (k_po, .int), (k_co, .int), (k_wc, .int), (k_wo, .int)] t ∧ va_D (va_A (wwX2 q_pi q_ra q_rc q_po q_co q_wc q_wo k_ra k_rc k_po k_co k_wc k_wo pi_line pi_cycle pi_control pi_compareLine pi_ground pi_border pi_base pi_flag pi_enabled pi_idle pi_bad pi_glyphLine pi_rowToFetch f_ra f_rc f_po f_co f_wc f_wo) sz) (wwX2 q_pi q_ra q_rc q_po q_co q_wc q_wo k_ra k_rc k_po k_co k_wc k_wo pi_line pi_cycle pi_control pi_compareLine pi_ground pi_border pi_base pi_flag pi_enabled pi_idle pi_bad pi_glyphLine pi_rowToFetch f_ra f_rc f_po f_co f_wc f_wo)) (va_A (wwX2 q_pi q_ra q_rc q_po q_co q_wc q_wo k_ra k_rc k_po k_co k_wc k_wo pi_line pi_cycle pi_control pi_compareLine pi_ground pi_border pi_base pi_flag pi_enabled pi_idle pi_bad pi_glyphLine pi_rowToFetch f_ra f_rc f_po f_co f_wc f_wo) sz)) 0 0 (va_A (wwX2 q_pi q_ra q_rc q_po q_co q_wc q_wo k_ra k_rc k_po k_co k_wc k_wo pi_line pi_cycle pi_control pi_compareLine pi_ground pi_border pi_base pi_flag pi_enabled pi_idle pi_bad pi_glyphLine pi_rowToFetch f_ra f_rc f_po f_co f_wc f_wo) sz) := by
  refine Met.ofW (cc := cX2_isShowing) (maxL := 1) (ret := (some .boolean)) (by decide) rfl ?_
  intro p e s m args below meth c s₁ B hml hv
  obtain ⟨rfl, hsz, hP, hK, hD0⟩ := hv
  have hx := B.exec
  have hb := B.bytes
  have hr := B.returns
  have hts : ∀ w ∈ ub, w.before _ s = true := fun w h => atoms_spec (ws := uX2_isShowing) B.pre w (List.mem_cons_of_mem _ h)
  have hown : s.vm.findClass RX2 = some m.cls := findClass_of_methodNamed B.named
  have hlocks := B.notSynchronized
  subst hsz
  have hD := hD0.self (sz := s.heap.size)
  generalize hAe : va_A (wwX2 q_pi q_ra q_rc q_po q_co q_wc q_wo k_ra k_rc k_po k_co k_wc k_wo pi_line pi_cycle pi_control pi_compareLine pi_ground pi_border pi_base pi_flag pi_enabled pi_idle pi_bad pi_glyphLine pi_rowToFetch f_ra f_rc f_po f_co f_wc f_wo) s.heap.size = A at hD ⊢
  have hA : ∀ q : Nat, s.heap.size ≤ q → A q := fun q h => by rw [← hAe]; exact Or.inr h
  have hS : va_S A s.heap s.heap [] := va_S.rf
  have hl := lv_entry ([.ref q_pi]) (n := 1) (Nat.le_of_ble_eq_true rfl)
  rw [lg_entry_eq]
  generalize (lg_sl ([.ref q_pi]) ++ List.replicate (1 - (lg_sl ([.ref q_pi])).length) Slot.unset).toArray = ls at hl ⊢
  have hl : lv_has ls 1 [(0, .ref q_pi)] := hl
  have hF := fX2_isShowing.eq_1 pi_line pi_control
  refine lv_aload_n hx hb dX2_isShowing_0 rfl (lv_at hl 0 rfl) ?_
  refine va_get (D := (dC, dI)) (ci := 2) (v := .int pi_line) (C := RX2) (T := TX2) (N := 19) hx hb hts hiX2 hown hK hP 0 rfl rfl 6 (by decide) (hts _ kFX2_58) (fun _ h9 => h9) rfl dX2_isShowing_1 ?_
  refine lv_bipush (v := 8) hx hb dX2_isShowing_4 (by decide) ?_
  refine vj_join (j := 33) (rest := []) (Hyp := fun z H locs => z = (if pi_line < (8:Int32) then (0:Int32) else (if (31:Int32) < pi_line then (0:Int32) else (if (pi_control &&& (16:Int32)) = (0:Int32) then (0:Int32) else (1:Int32)))) ∧ va_P (dC, dI) vwCl (wwX2 q_pi q_ra q_rc q_po q_co q_wc q_wo k_ra k_rc k_po k_co k_wc k_wo pi_line pi_cycle pi_control pi_compareLine pi_ground pi_border pi_base pi_flag pi_enabled pi_idle pi_bad pi_glyphLine pi_rowToFetch f_ra f_rc f_po f_co f_wc f_wo) H ∧ va_S A s.heap H locs) (fun z H locs hh => ?_) (fun J33 => ?_)
  · obtain ⟨hz, hP, hS⟩ := hh
    subst hz
    exact W.zret (v := (if pi_line < (8:Int32) then (0:Int32) else (if (31:Int32) < pi_line then (0:Int32) else (if (pi_control &&& (16:Int32)) = (0:Int32) then (0:Int32) else (1:Int32))))) hx hb hr (nb_if rfl (nb_if rfl (nb_if rfl rfl))) (fun t ht hW => ⟨⟨(if pi_line < (8:Int32) then (0:Int32) else (if (31:Int32) < pi_line then (0:Int32) else (if (pi_control &&& (16:Int32)) = (0:Int32) then (0:Int32) else (1:Int32)))), (), rfl, hF.symm, by rw [ht]; exact hP, va_K.moved hW.alike hK, hD⟩, hS.F ht⟩) hS.2.2 dX2_isShowing_33
  · refine lv_icmp_lt (tgt := 32) hx hb dX2_isShowing_6 (by decide) (fun c_6 => ?_) (fun c_6 => ?_)
    · refine lv_iconst (v := 0) hx hb dX2_isShowing_32 (by decide) ?_
      exact J33 _ _ _ ⟨by rw [if_pos c_6], hP, hS⟩
    · refine lv_aload_n hx hb dX2_isShowing_9 rfl (lv_at hl 0 rfl) ?_
      refine va_get (D := (dC, dI)) (ci := 2) (v := .int pi_line) (C := RX2) (T := TX2) (N := 19) hx hb hts hiX2 hown hK hP 0 rfl rfl 6 (by decide) (hts _ kFX2_58) (fun _ h9 => h9) rfl dX2_isShowing_10 ?_
      refine lv_bipush (v := 31) hx hb dX2_isShowing_13 (by decide) ?_
      refine lv_icmp_gt (tgt := 32) hx hb dX2_isShowing_15 (by decide) (fun c_15 => ?_) (fun c_15 => ?_)
      · refine lv_iconst (v := 0) hx hb dX2_isShowing_32 (by decide) ?_
        exact J33 _ _ _ ⟨by rw [if_neg c_6, if_pos c_15], hP, hS⟩
      · refine lv_aload_n hx hb dX2_isShowing_18 rfl (lv_at hl 0 rfl) ?_
        refine va_get (D := (dC, dI)) (ci := 2) (v := .int pi_control) (C := RX2) (T := TX2) (N := 19) hx hb hts hiX2 hown hK hP 0 rfl rfl 8 (by decide) (hts _ kFX2_74) (fun _ h9 => h9) rfl dX2_isShowing_19 ?_
        refine lv_bipush (v := 16) hx hb dX2_isShowing_22 (by decide) ?_
        refine lv_iand hx hb dX2_isShowing_24 ?_
        refine lv_if_eq (tgt := 32) hx hb dX2_isShowing_25 (by decide) (fun c_25 => ?_) (fun c_25 => ?_)
        · refine lv_iconst (v := 0) hx hb dX2_isShowing_32 (by decide) ?_
          exact J33 _ _ _ ⟨by rw [if_neg c_6, if_neg c_15, if_pos c_25], hP, hS⟩
        · refine lv_iconst (v := 1) hx hb dX2_isShowing_28 (by decide) ?_
          refine lv_goto (tgt := 33) hx hb dX2_isShowing_29 (by decide) ?_
          exact J33 _ _ _ ⟨by rw [if_neg c_6, if_neg c_15, if_neg c_25], hP, hS⟩
def fX2_judgeLine (pi_line : Int32) (pi_control : Int32) (pi_idle : Int32) (pi_glyphLine : Int32) : Int32 × Int32 × Int32 :=
  if (if (fX2_isShowing pi_line pi_control) = (0:Int32) then (0:Int32) else (if (pi_line - pi_line / (8:Int32) * (8:Int32)) = (pi_control &&& (7:Int32)) then (1:Int32) else (0:Int32))) = (0:Int32) then
   (pi_idle, (if (fX2_isShowing pi_line pi_control) = (0:Int32) then (0:Int32) else (if (pi_line - pi_line / (8:Int32) * (8:Int32)) = (pi_control &&& (7:Int32)) then (1:Int32) else (0:Int32))), pi_glyphLine)
  else
   ((0:Int32), (if (fX2_isShowing pi_line pi_control) = (0:Int32) then (0:Int32) else (if (pi_line - pi_line / (8:Int32) * (8:Int32)) = (pi_control &&& (7:Int32)) then (1:Int32) else (0:Int32))), (0:Int32))
set_option maxHeartbeats 4000000 in
set_option maxRecDepth 100000 in
theorem mX2_judgeLine (l : Launch) (dC : Nat → ClassId) (dI : Nat → Nat → Nat) (q_pi q_ra q_rc q_po q_co q_wc q_wo : Nat) (k_ra k_rc k_po k_co k_wc k_wo : ClassId) (sz : Nat) (pi_line pi_cycle pi_control pi_compareLine pi_ground pi_border pi_base pi_flag pi_enabled pi_idle pi_bad pi_glyphLine pi_rowToFetch : Int32) (f_ra f_rc f_po f_co f_wc f_wo : Nat → Int32) : Met l yX2_judgeLine uX2_judgeLine ({ frames := 1, cells := 0, slots := 0, locals := 20 }) (va_Pc [.ref q_pi] (fun U => U.heap.size = sz ∧ va_P (dC, dI) vwCl (wwX2 q_pi q_ra q_rc q_po q_co q_wc q_wo k_ra k_rc k_po k_co k_wc k_wo pi_line pi_cycle pi_control pi_compareLine pi_ground pi_border pi_base pi_flag pi_enabled pi_idle pi_bad pi_glyphLine pi_rowToFetch f_ra f_rc f_po f_co f_wc f_wo) U.heap ∧ va_K (dC, dI) vwCl [(k_ra, .int), (k_rc, .int), (k_po, .int), (k_co, .int), (k_wc, .int), (k_wo, .int)] U ∧ va_D (fun _ => True) (wwX2 q_pi q_ra q_rc q_po q_co q_wc q_wo k_ra k_rc k_po k_co k_wc k_wo pi_line pi_cycle pi_control pi_compareLine pi_ground pi_border pi_base pi_flag pi_enabled pi_idle pi_bad pi_glyphLine pi_rowToFetch f_ra f_rc f_po f_co f_wc f_wo))) (va_Qv (fun (u : Int32 × Int32 × Int32) => u = fX2_judgeLine pi_line pi_control pi_idle pi_glyphLine) (fun (u : Int32 × Int32 × Int32) (t : State) => va_P (dC, dI) vwCl (wwX2 q_pi q_ra q_rc q_po q_co q_wc q_wo k_ra k_rc k_po k_co k_wc k_wo pi_line pi_cycle pi_control pi_compareLine pi_ground pi_border pi_base pi_flag pi_enabled u.1 u.2.1 u.2.2 pi_rowToFetch f_ra f_rc f_po f_co f_wc f_wo) t.heap ∧ va_K (dC, dI) vwCl [(k_ra, .int), (k_rc, .int), (k_po, .int), (k_co, .int), (k_wc, .int), (k_wo, .int)] t ∧ va_D (va_A (wwX2 q_pi q_ra q_rc q_po q_co q_wc q_wo k_ra k_rc k_po k_co k_wc k_wo pi_line pi_cycle pi_control pi_compareLine pi_ground pi_border pi_base pi_flag pi_enabled pi_idle pi_bad pi_glyphLine pi_rowToFetch f_ra f_rc f_po f_co f_wc f_wo) sz) (wwX2 q_pi q_ra q_rc q_po q_co q_wc q_wo k_ra k_rc k_po k_co k_wc k_wo pi_line pi_cycle pi_control pi_compareLine pi_ground pi_border pi_base pi_flag pi_enabled u.1 u.2.1 u.2.2 pi_rowToFetch f_ra f_rc f_po f_co f_wc f_wo)) (va_A (wwX2 q_pi q_ra q_rc q_po q_co q_wc q_wo k_ra k_rc k_po k_co k_wc k_wo pi_line pi_cycle pi_control pi_compareLine pi_ground pi_border pi_base pi_flag pi_enabled pi_idle pi_bad pi_glyphLine pi_rowToFetch f_ra f_rc f_po f_co f_wc f_wo) sz)) 0 0 (va_A (wwX2 q_pi q_ra q_rc q_po q_co q_wc q_wo k_ra k_rc k_po k_co k_wc k_wo pi_line pi_cycle pi_control pi_compareLine pi_ground pi_border pi_base pi_flag pi_enabled pi_idle pi_bad pi_glyphLine pi_rowToFetch f_ra f_rc f_po f_co f_wc f_wo) sz) := by
  refine Met.ofW (cc := cX2_judgeLine) (maxL := 1) (ret := none) (by decide) rfl ?_
  intro p e s m args below meth c s₁ B hml hv
  obtain ⟨rfl, hsz, hP, hK, hD0⟩ := hv
  have hx := B.exec
  have hb := B.bytes
  have hr := B.returns
  have hts : ∀ w ∈ ub, w.before _ s = true := fun w h => atoms_spec (ws := uX2_judgeLine) B.pre w (List.mem_cons_of_mem _ h)
  have hown : s.vm.findClass RX2 = some m.cls := findClass_of_methodNamed B.named
  have hlocks := B.notSynchronized
  subst hsz
  have hD := hD0.self (sz := s.heap.size)
  generalize hAe : va_A (wwX2 q_pi q_ra q_rc q_po q_co q_wc q_wo k_ra k_rc k_po k_co k_wc k_wo pi_line pi_cycle pi_control pi_compareLine pi_ground pi_border pi_base pi_flag pi_enabled pi_idle pi_bad pi_glyphLine pi_rowToFetch f_ra f_rc f_po f_co f_wc f_wo) s.heap.size = A at hD ⊢
  have hA : ∀ q : Nat, s.heap.size ≤ q → A q := fun q h => by rw [← hAe]; exact Or.inr h
  have hS : va_S A s.heap s.heap [] := va_S.rf
  have hl := lv_entry ([.ref q_pi]) (n := 1) (Nat.le_of_ble_eq_true rfl)
  rw [lg_entry_eq]
  generalize (lg_sl ([.ref q_pi]) ++ List.replicate (1 - (lg_sl ([.ref q_pi])).length) Slot.unset).toArray = ls at hl ⊢
  have hl : lv_has ls 1 [(0, .ref q_pi)] := hl
  have hF := fX2_judgeLine.eq_1 pi_line pi_control pi_idle pi_glyphLine
  refine lv_aload_n hx hb dX2_judgeLine_0 rfl (lv_at hl 0 rfl) ?_
  refine lv_aload_n hx hb dX2_judgeLine_1 rfl (lv_at hl 0 rfl) ?_
  have hPc := hP.sub (ws' := (wwX2 q_pi q_ra q_rc q_po q_co q_wc q_wo k_ra k_rc k_po k_co k_wc k_wo pi_line pi_cycle pi_control pi_compareLine pi_ground pi_border pi_base pi_flag pi_enabled pi_idle pi_bad pi_glyphLine pi_rowToFetch f_ra f_rc f_po f_co f_wc f_wo)) [0, 1, 2, 3, 4, 5, 6] rfl
  have hDc := hD.sub (ws' := (wwX2 q_pi q_ra q_rc q_po q_co q_wc q_wo k_ra k_rc k_po k_co k_wc k_wo pi_line pi_cycle pi_control pi_compareLine pi_ground pi_border pi_base pi_flag pi_enabled pi_idle pi_bad pi_glyphLine pi_rowToFetch f_ra f_rc f_po f_co f_wc f_wo)) [0, 1, 2, 3, 4, 5, 6] (by decide) rfl
  have hKc := hK.sub (tys' := [(k_ra, .int), (k_rc, .int), (k_po, .int), (k_co, .int), (k_wc, .int), (k_wo, .int)]) [0, 1, 2, 3, 4, 5] rfl
  have hFc := va_free (wc := (wwX2 q_pi q_ra q_rc q_po q_co q_wc q_wo k_ra k_rc k_po k_co k_wc k_wo pi_line pi_cycle pi_control pi_compareLine pi_ground pi_border pi_base pi_flag pi_enabled pi_idle pi_bad pi_glyphLine pi_rowToFetch f_ra f_rc f_po f_co f_wc f_wo)) hD hS hA [0, 1, 2, 3, 4, 5, 6] rfl
  refine va_calli (va_runV (As := []) (rest := [.ref q_pi]) ⟨hx, hb, hml, hown, hts⟩ (mX2_isShowing l dC dI q_pi q_ra q_rc q_po q_co q_wc q_wo k_ra k_rc k_po k_co k_wc k_wo s.heap.size pi_line pi_cycle pi_control pi_compareLine pi_ground pi_border pi_base pi_flag pi_enabled pi_idle pi_bad pi_glyphLine pi_rowToFetch f_ra f_rc f_po f_co f_wc f_wo) (cwV 0 hts (ub_V kMX2_70 kYX2_isShowing kSX2_isShowing kIX2 kBX2_isShowing) rfl rfl rfl (by decide +kernel) ⟨Nat.le_of_ble_eq_true rfl, Nat.le_of_ble_eq_true rfl⟩) ⟨fun a U g mk q => by obtain ⟨q0, q1, qP, qK, qD⟩ := q; exact ⟨q0, q1, qP, va_K.moved (u := U) (U := U.calling g mk a) (Vm.Alike.refl U.vm) qK, qD⟩, va_recv hKc hPc (ci := 2) (q0 := 0) rfl rfl, fun U hU hW => ⟨rfl, by rw [hU], by rw [hU]; exact hPc, va_K.moved hW.alike hKc, hDc.weaken (fun _ _ _ _ => trivial)⟩⟩ rfl rfl hl.1 rfl (lv_room (Nat.le_of_ble_eq_true rfl)) dX2_judgeLine_2 ⟨(Nat.zero_le _), (Nat.zero_le _)⟩) hS (fun q _ h => hFc q h) hFc (fun r_2 u_2 t H locs ht hvm hw hB hz1 hk1 hS => ?_)
  obtain ⟨hP1, hK1, hD1⟩ := hB
  rw [ht] at hP1
  subst hw
  obtain ⟨hP, hD⟩ := vb_back (wc := (wwX2 q_pi q_ra q_rc q_po q_co q_wc q_wo k_ra k_rc k_po k_co k_wc k_wo pi_line pi_cycle pi_control pi_compareLine pi_ground pi_border pi_base pi_flag pi_enabled pi_idle pi_bad pi_glyphLine pi_rowToFetch f_ra f_rc f_po f_co f_wc f_wo)) (ws' := (wwX2 q_pi q_ra q_rc q_po q_co q_wc q_wo k_ra k_rc k_po k_co k_wc k_wo pi_line pi_cycle pi_control pi_compareLine pi_ground pi_border pi_base pi_flag pi_enabled pi_idle pi_bad pi_glyphLine pi_rowToFetch f_ra f_rc f_po f_co f_wc f_wo)) hP hD hD1 [0, 1, 2, 3, 4, 5, 6] [] rfl rfl ae_n rfl rfl hk1 hP1
  refine vj_join (j := 30) (rest := [.ref q_pi]) (Hyp := fun z H locs => z = (if (fX2_isShowing pi_line pi_control) = (0:Int32) then (0:Int32) else (if (pi_line - pi_line / (8:Int32) * (8:Int32)) = (pi_control &&& (7:Int32)) then (1:Int32) else (0:Int32))) ∧ va_P (dC, dI) vwCl (wwX2 q_pi q_ra q_rc q_po q_co q_wc q_wo k_ra k_rc k_po k_co k_wc k_wo pi_line pi_cycle pi_control pi_compareLine pi_ground pi_border pi_base pi_flag pi_enabled pi_idle pi_bad pi_glyphLine pi_rowToFetch f_ra f_rc f_po f_co f_wc f_wo) H ∧ va_S A s.heap H locs) (fun z H locs hh => ?_) (fun J30 => ?_)
  · obtain ⟨hz, hP, hS⟩ := hh
    subst hz
    refine va_put (D := (dC, dI)) (ci := 2) (v := .int (if (fX2_isShowing pi_line pi_control) = (0:Int32) then (0:Int32) else (if (pi_line - pi_line / (8:Int32) * (8:Int32)) = (pi_control &&& (7:Int32)) then (1:Int32) else (0:Int32)))) (ty := .boolean) (C := RX2) (T := TX2) (N := 19) hx hb hts hiX2 tyX2 tyX2_ok nmX2 hown hK hP hD hS 0 rfl rfl 16 (by decide) (hts _ kFX2_42) (fun _ h9 => h9) rfl (by decide +kernel) (nb_if rfl (nb_if rfl rfl)) (ft_if rfl (ft_if rfl rfl)) (Nat.le_of_ble_eq_true rfl) dX2_judgeLine_30 (fun H locs hP hD hS => ?_)
    have hP : va_P (dC, dI) vwCl (wwX2 q_pi q_ra q_rc q_po q_co q_wc q_wo k_ra k_rc k_po k_co k_wc k_wo pi_line pi_cycle pi_control pi_compareLine pi_ground pi_border pi_base pi_flag pi_enabled pi_idle (if (fX2_isShowing pi_line pi_control) = (0:Int32) then (0:Int32) else (if (pi_line - pi_line / (8:Int32) * (8:Int32)) = (pi_control &&& (7:Int32)) then (1:Int32) else (0:Int32))) pi_glyphLine pi_rowToFetch f_ra f_rc f_po f_co f_wc f_wo) H := hP
    have hD : va_D A (wwX2 q_pi q_ra q_rc q_po q_co q_wc q_wo k_ra k_rc k_po k_co k_wc k_wo pi_line pi_cycle pi_control pi_compareLine pi_ground pi_border pi_base pi_flag pi_enabled pi_idle (if (fX2_isShowing pi_line pi_control) = (0:Int32) then (0:Int32) else (if (pi_line - pi_line / (8:Int32) * (8:Int32)) = (pi_control &&& (7:Int32)) then (1:Int32) else (0:Int32))) pi_glyphLine pi_rowToFetch f_ra f_rc f_po f_co f_wc f_wo) := hD
    refine lv_aload_n hx hb dX2_judgeLine_33 rfl (lv_at hl 0 rfl) ?_
    refine va_get (D := (dC, dI)) (ci := 2) (v := .int (if (fX2_isShowing pi_line pi_control) = (0:Int32) then (0:Int32) else (if (pi_line - pi_line / (8:Int32) * (8:Int32)) = (pi_control &&& (7:Int32)) then (1:Int32) else (0:Int32)))) (C := RX2) (T := TX2) (N := 19) hx hb hts hiX2 hown hK hP 0 rfl rfl 16 (by decide) (hts _ kFX2_42) (fun _ h9 => h9) rfl dX2_judgeLine_34 ?_
    refine lv_if_eq (tgt := 50) hx hb dX2_judgeLine_37 (by decide) (fun c_37 => ?_) (fun c_37 => ?_)
    · have hF := hF.trans (if_pos c_37)
      exact W.vret hx hb hr (fun t ht hW => ⟨⟨(pi_idle, (if (fX2_isShowing pi_line pi_control) = (0:Int32) then (0:Int32) else (if (pi_line - pi_line / (8:Int32) * (8:Int32)) = (pi_control &&& (7:Int32)) then (1:Int32) else (0:Int32))), pi_glyphLine), rfl, hF.symm, by rw [ht]; exact hP, va_K.moved hW.alike hK, hD⟩, hS.F ht⟩) hS.2.2 dX2_judgeLine_50
    · have hF := hF.trans (if_neg c_37)
      refine lv_aload_n hx hb dX2_judgeLine_40 rfl (lv_at hl 0 rfl) ?_
      refine lv_iconst (v := 0) hx hb dX2_judgeLine_41 (by decide) ?_
      refine va_put (D := (dC, dI)) (ci := 2) (v := .int (0:Int32)) (ty := .boolean) (C := RX2) (T := TX2) (N := 19) hx hb hts hiX2 tyX2 tyX2_ok nmX2 hown hK hP hD hS 0 rfl rfl 15 (by decide) (hts _ kFX2_22) (fun _ h9 => h9) rfl (by decide +kernel) rfl rfl (Nat.le_of_ble_eq_true rfl) dX2_judgeLine_42 (fun H locs hP hD hS => ?_)
      have hP : va_P (dC, dI) vwCl (wwX2 q_pi q_ra q_rc q_po q_co q_wc q_wo k_ra k_rc k_po k_co k_wc k_wo pi_line pi_cycle pi_control pi_compareLine pi_ground pi_border pi_base pi_flag pi_enabled (0:Int32) (if (fX2_isShowing pi_line pi_control) = (0:Int32) then (0:Int32) else (if (pi_line - pi_line / (8:Int32) * (8:Int32)) = (pi_control &&& (7:Int32)) then (1:Int32) else (0:Int32))) pi_glyphLine pi_rowToFetch f_ra f_rc f_po f_co f_wc f_wo) H := hP
      have hD : va_D A (wwX2 q_pi q_ra q_rc q_po q_co q_wc q_wo k_ra k_rc k_po k_co k_wc k_wo pi_line pi_cycle pi_control pi_compareLine pi_ground pi_border pi_base pi_flag pi_enabled (0:Int32) (if (fX2_isShowing pi_line pi_control) = (0:Int32) then (0:Int32) else (if (pi_line - pi_line / (8:Int32) * (8:Int32)) = (pi_control &&& (7:Int32)) then (1:Int32) else (0:Int32))) pi_glyphLine pi_rowToFetch f_ra f_rc f_po f_co f_wc f_wo) := hD
      refine lv_aload_n hx hb dX2_judgeLine_45 rfl (lv_at hl 0 rfl) ?_
      refine lv_iconst (v := 0) hx hb dX2_judgeLine_46 (by decide) ?_
      refine va_put (D := (dC, dI)) (ci := 2) (v := .int (0:Int32)) (ty := .int) (C := RX2) (T := TX2) (N := 19) hx hb hts hiX2 tyX2 tyX2_ok nmX2 hown hK hP hD hS 0 rfl rfl 17 (by decide) (hts _ kFX2_77) (fun _ h9 => h9) rfl (by decide +kernel) rfl rfl (Nat.le_of_ble_eq_true rfl) dX2_judgeLine_47 (fun H locs hP hD hS => ?_)
      have hP : va_P (dC, dI) vwCl (wwX2 q_pi q_ra q_rc q_po q_co q_wc q_wo k_ra k_rc k_po k_co k_wc k_wo pi_line pi_cycle pi_control pi_compareLine pi_ground pi_border pi_base pi_flag pi_enabled (0:Int32) (if (fX2_isShowing pi_line pi_control) = (0:Int32) then (0:Int32) else (if (pi_line - pi_line / (8:Int32) * (8:Int32)) = (pi_control &&& (7:Int32)) then (1:Int32) else (0:Int32))) (0:Int32) pi_rowToFetch f_ra f_rc f_po f_co f_wc f_wo) H := hP
      have hD : va_D A (wwX2 q_pi q_ra q_rc q_po q_co q_wc q_wo k_ra k_rc k_po k_co k_wc k_wo pi_line pi_cycle pi_control pi_compareLine pi_ground pi_border pi_base pi_flag pi_enabled (0:Int32) (if (fX2_isShowing pi_line pi_control) = (0:Int32) then (0:Int32) else (if (pi_line - pi_line / (8:Int32) * (8:Int32)) = (pi_control &&& (7:Int32)) then (1:Int32) else (0:Int32))) (0:Int32) pi_rowToFetch f_ra f_rc f_po f_co f_wc f_wo) := hD
      exact W.vret hx hb hr (fun t ht hW => ⟨⟨((0:Int32), (if (fX2_isShowing pi_line pi_control) = (0:Int32) then (0:Int32) else (if (pi_line - pi_line / (8:Int32) * (8:Int32)) = (pi_control &&& (7:Int32)) then (1:Int32) else (0:Int32))), (0:Int32)), rfl, hF.symm, by rw [ht]; exact hP, va_K.moved hW.alike hK, hD⟩, hS.F ht⟩) hS.2.2 dX2_judgeLine_50
  · refine lv_if_eq (tgt := 29) hx hb dX2_judgeLine_5 (by decide) (fun c_5 => ?_) (fun c_5 => ?_)
    · refine lv_iconst (v := 0) hx hb dX2_judgeLine_29 (by decide) ?_
      exact J30 _ _ _ ⟨by rw [if_pos c_5], hP, hS⟩
    · refine lv_aload_n hx hb dX2_judgeLine_8 rfl (lv_at hl 0 rfl) ?_
      refine va_get (D := (dC, dI)) (ci := 2) (v := .int pi_line) (C := RX2) (T := TX2) (N := 19) hx hb hts hiX2 hown hK hP 0 rfl rfl 6 (by decide) (hts _ kFX2_58) (fun _ h9 => h9) rfl dX2_judgeLine_9 ?_
      refine lv_bipush (v := 8) hx hb dX2_judgeLine_12 (by decide) ?_
      refine lv_irem hx hb dX2_judgeLine_14 (by decide) ?_
      refine lv_aload_n hx hb dX2_judgeLine_15 rfl (lv_at hl 0 rfl) ?_
      refine va_get (D := (dC, dI)) (ci := 2) (v := .int pi_control) (C := RX2) (T := TX2) (N := 19) hx hb hts hiX2 hown hK hP 0 rfl rfl 8 (by decide) (hts _ kFX2_74) (fun _ h9 => h9) rfl dX2_judgeLine_16 ?_
      refine lv_bipush (v := 7) hx hb dX2_judgeLine_19 (by decide) ?_
      refine lv_iand hx hb dX2_judgeLine_21 ?_
      refine lv_icmp_ne (tgt := 29) hx hb dX2_judgeLine_22 (by decide) (fun c_22 => ?_) (fun c_22 => ?_)
      · refine lv_iconst (v := 0) hx hb dX2_judgeLine_29 (by decide) ?_
        exact J30 _ _ _ ⟨by rw [if_neg c_5, if_neg c_22], hP, hS⟩
      · refine lv_iconst (v := 1) hx hb dX2_judgeLine_25 (by decide) ?_
        refine lv_goto (tgt := 30) hx hb dX2_judgeLine_26 (by decide) ?_
        exact J30 _ _ _ ⟨by rw [if_neg c_5, if_pos c_22], hP, hS⟩
def fX2_fetchCell (p1 : Int32) (pi_base : Int32) (pi_rowToFetch : Int32) (f_ra : Nat → Int32) (f_co : Nat → Int32) (f_wc : Nat → Int32) (f_wo : Nat → Int32) : (Nat → Int32) × (Nat → Int32) :=
  ((upd f_wc p1.toNatClampNeg (f_ra (((64:Int32) * pi_base) + (((8:Int32) * pi_rowToFetch) + p1)).toNatClampNeg)), (upd f_wo p1.toNatClampNeg (f_co (((8:Int32) * pi_rowToFetch) + p1).toNatClampNeg)))
set_option maxHeartbeats 4000000 in
set_option maxRecDepth 100000 in
theorem mX2_fetchCell (l : Launch) (dC : Nat → ClassId) (dI : Nat → Nat → Nat) (q_pi q_ra q_rc q_po q_co q_wc q_wo : Nat) (k_ra k_rc k_po k_co k_wc k_wo : ClassId) (sz : Nat) (pi_line pi_cycle pi_control pi_compareLine pi_ground pi_border pi_base pi_flag pi_enabled pi_idle pi_bad pi_glyphLine pi_rowToFetch : Int32) (f_ra f_rc f_po f_co f_wc f_wo : Nat → Int32) (p1 : Int32) (hc : vp_in p1 8) (hb8 : vp_in pi_base 16) (hrf : vp_in pi_rowToFetch 3) : Met l yX2_fetchCell uX2_fetchCell ({ frames := 0, cells := 0, slots := 0, locals := 0 }) (va_Pc [.ref q_pi, .int p1] (fun U => U.heap.size = sz ∧ va_P (dC, dI) vwCl (wwX2 q_pi q_ra q_rc q_po q_co q_wc q_wo k_ra k_rc k_po k_co k_wc k_wo pi_line pi_cycle pi_control pi_compareLine pi_ground pi_border pi_base pi_flag pi_enabled pi_idle pi_bad pi_glyphLine pi_rowToFetch f_ra f_rc f_po f_co f_wc f_wo) U.heap ∧ va_K (dC, dI) vwCl [(k_ra, .int), (k_rc, .int), (k_po, .int), (k_co, .int), (k_wc, .int), (k_wo, .int)] U ∧ va_D (fun _ => True) (wwX2 q_pi q_ra q_rc q_po q_co q_wc q_wo k_ra k_rc k_po k_co k_wc k_wo pi_line pi_cycle pi_control pi_compareLine pi_ground pi_border pi_base pi_flag pi_enabled pi_idle pi_bad pi_glyphLine pi_rowToFetch f_ra f_rc f_po f_co f_wc f_wo))) (va_Qv (fun (u : (Nat → Int32) × (Nat → Int32)) => u = fX2_fetchCell p1 pi_base pi_rowToFetch f_ra f_co f_wc f_wo) (fun (u : (Nat → Int32) × (Nat → Int32)) (t : State) => va_P (dC, dI) vwCl (wwX2 q_pi q_ra q_rc q_po q_co q_wc q_wo k_ra k_rc k_po k_co k_wc k_wo pi_line pi_cycle pi_control pi_compareLine pi_ground pi_border pi_base pi_flag pi_enabled pi_idle pi_bad pi_glyphLine pi_rowToFetch f_ra f_rc f_po f_co u.1 u.2) t.heap ∧ va_K (dC, dI) vwCl [(k_ra, .int), (k_rc, .int), (k_po, .int), (k_co, .int), (k_wc, .int), (k_wo, .int)] t ∧ va_D (va_A (wwX2 q_pi q_ra q_rc q_po q_co q_wc q_wo k_ra k_rc k_po k_co k_wc k_wo pi_line pi_cycle pi_control pi_compareLine pi_ground pi_border pi_base pi_flag pi_enabled pi_idle pi_bad pi_glyphLine pi_rowToFetch f_ra f_rc f_po f_co f_wc f_wo) sz) (wwX2 q_pi q_ra q_rc q_po q_co q_wc q_wo k_ra k_rc k_po k_co k_wc k_wo pi_line pi_cycle pi_control pi_compareLine pi_ground pi_border pi_base pi_flag pi_enabled pi_idle pi_bad pi_glyphLine pi_rowToFetch f_ra f_rc f_po f_co u.1 u.2)) (va_A (wwX2 q_pi q_ra q_rc q_po q_co q_wc q_wo k_ra k_rc k_po k_co k_wc k_wo pi_line pi_cycle pi_control pi_compareLine pi_ground pi_border pi_base pi_flag pi_enabled pi_idle pi_bad pi_glyphLine pi_rowToFetch f_ra f_rc f_po f_co f_wc f_wo) sz)) 0 0 (va_A (wwX2 q_pi q_ra q_rc q_po q_co q_wc q_wo k_ra k_rc k_po k_co k_wc k_wo pi_line pi_cycle pi_control pi_compareLine pi_ground pi_border pi_base pi_flag pi_enabled pi_idle pi_bad pi_glyphLine pi_rowToFetch f_ra f_rc f_po f_co f_wc f_wo) sz) := by
  refine Met.ofW (cc := cX2_fetchCell) (maxL := 3) (ret := none) (by decide) rfl ?_
  intro p e s m args below meth c s₁ B hml hv
  obtain ⟨rfl, hsz, hP, hK, hD0⟩ := hv
  have hx := B.exec
  have hb := B.bytes
  have hr := B.returns
  have hts : ∀ w ∈ ub, w.before _ s = true := fun w h => atoms_spec (ws := uX2_fetchCell) B.pre w (List.mem_cons_of_mem _ h)
  have hown : s.vm.findClass RX2 = some m.cls := findClass_of_methodNamed B.named
  have hlocks := B.notSynchronized
  subst hsz
  have hD := hD0.self (sz := s.heap.size)
  generalize hAe : va_A (wwX2 q_pi q_ra q_rc q_po q_co q_wc q_wo k_ra k_rc k_po k_co k_wc k_wo pi_line pi_cycle pi_control pi_compareLine pi_ground pi_border pi_base pi_flag pi_enabled pi_idle pi_bad pi_glyphLine pi_rowToFetch f_ra f_rc f_po f_co f_wc f_wo) s.heap.size = A at hD ⊢
  have hA : ∀ q : Nat, s.heap.size ≤ q → A q := fun q h => by rw [← hAe]; exact Or.inr h
  have hS : va_S A s.heap s.heap [] := va_S.rf
  have hl := lv_entry ([.ref q_pi, .int p1]) (n := 3) (Nat.le_of_ble_eq_true rfl)
  rw [lg_entry_eq]
  generalize (lg_sl ([.ref q_pi, .int p1]) ++ List.replicate (3 - (lg_sl ([.ref q_pi, .int p1])).length) Slot.unset).toArray = ls at hl ⊢
  have hl : lv_has ls 3 [(0, .ref q_pi), (1, .int p1)] := hl
  have hF := fX2_fetchCell.eq_1 p1 pi_base pi_rowToFetch f_ra f_co f_wc f_wo
  refine lv_bipush (v := 8) hx hb dX2_fetchCell_0 (by decide) ?_
  refine lv_aload_n hx hb dX2_fetchCell_2 rfl (lv_at hl 0 rfl) ?_
  refine va_get (D := (dC, dI)) (ci := 2) (v := .int pi_rowToFetch) (C := RX2) (T := TX2) (N := 19) hx hb hts hiX2 hown hK hP 0 rfl rfl 18 (by decide) (hts _ kFX2_52) (fun _ h9 => h9) rfl dX2_fetchCell_3 ?_
  refine lv_imul hx hb dX2_fetchCell_6 ?_
  refine lv_iload_n hx hb dX2_fetchCell_7 rfl (lv_at hl 1 rfl) ?_
  refine lv_iadd hx hb dX2_fetchCell_8 ?_
  refine lv_istore_n (lv' := [(2, .int (((8:Int32) * pi_rowToFetch) + p1)), (0, .ref q_pi), (1, .int p1)]) hx hb dX2_fetchCell_9 rfl hl (by decide) rfl (fun ls hl => ?_)
  refine lv_aload_n hx hb dX2_fetchCell_10 rfl (lv_at hl 1 rfl) ?_
  refine va_get (D := (dC, dI)) (ci := 2) (v := .ref q_wc) (C := RX2) (T := TX2) (N := 19) hx hb hts hiX2 hown hK hP 0 rfl rfl 4 (by decide) (hts _ kFX2_16) (fun _ h9 => h9) rfl dX2_fetchCell_11 ?_
  refine lv_iload_n hx hb dX2_fetchCell_14 rfl (lv_at hl 2 rfl) ?_
  refine lv_aload_n hx hb dX2_fetchCell_15 rfl (lv_at hl 1 rfl) ?_
  refine va_get (D := (dC, dI)) (ci := 2) (v := .ref q_ra) (C := RX2) (T := TX2) (N := 19) hx hb hts hiX2 hown hK hP 0 rfl rfl 0 (by decide) (hts _ kFX2_26) (fun _ h9 => h9) rfl dX2_fetchCell_16 ?_
  refine lv_bipush (v := 64) hx hb dX2_fetchCell_19 (by decide) ?_
  refine lv_aload_n hx hb dX2_fetchCell_21 rfl (lv_at hl 1 rfl) ?_
  refine va_get (D := (dC, dI)) (ci := 2) (v := .int pi_base) (C := RX2) (T := TX2) (N := 19) hx hb hts hiX2 hown hK hP 0 rfl rfl 12 (by decide) (hts _ kFX2_80) (fun _ h9 => h9) rfl dX2_fetchCell_22 ?_
  refine lv_imul hx hb dX2_fetchCell_25 ?_
  refine lv_iload_n hx hb dX2_fetchCell_26 rfl (lv_at hl 0 rfl) ?_
  refine lv_iadd hx hb dX2_fetchCell_27 ?_
  refine va_iald hx hb hK hP 1 0 rfl rfl (rg_fetch hb8 hrf hc) dX2_fetchCell_28 ?_
  refine va_iast hx hb hK hP hD hS 5 4 rfl rfl hc dX2_fetchCell_29 (fun H locs hP hD hS => ?_)
  have hP : va_P (dC, dI) vwCl (wwX2 q_pi q_ra q_rc q_po q_co q_wc q_wo k_ra k_rc k_po k_co k_wc k_wo pi_line pi_cycle pi_control pi_compareLine pi_ground pi_border pi_base pi_flag pi_enabled pi_idle pi_bad pi_glyphLine pi_rowToFetch f_ra f_rc f_po f_co (upd f_wc p1.toNatClampNeg (f_ra (((64:Int32) * pi_base) + (((8:Int32) * pi_rowToFetch) + p1)).toNatClampNeg)) f_wo) H := hP
  have hD : va_D A (wwX2 q_pi q_ra q_rc q_po q_co q_wc q_wo k_ra k_rc k_po k_co k_wc k_wo pi_line pi_cycle pi_control pi_compareLine pi_ground pi_border pi_base pi_flag pi_enabled pi_idle pi_bad pi_glyphLine pi_rowToFetch f_ra f_rc f_po f_co (upd f_wc p1.toNatClampNeg (f_ra (((64:Int32) * pi_base) + (((8:Int32) * pi_rowToFetch) + p1)).toNatClampNeg)) f_wo) := hD
  refine lv_aload_n hx hb dX2_fetchCell_30 rfl (lv_at hl 1 rfl) ?_
  refine va_get (D := (dC, dI)) (ci := 2) (v := .ref q_wo) (C := RX2) (T := TX2) (N := 19) hx hb hts hiX2 hown hK hP 0 rfl rfl 5 (by decide) (hts _ kFX2_19) (fun _ h9 => h9) rfl dX2_fetchCell_31 ?_
  refine lv_iload_n hx hb dX2_fetchCell_34 rfl (lv_at hl 2 rfl) ?_
  refine lv_aload_n hx hb dX2_fetchCell_35 rfl (lv_at hl 1 rfl) ?_
  refine va_get (D := (dC, dI)) (ci := 2) (v := .ref q_co) (C := RX2) (T := TX2) (N := 19) hx hb hts hiX2 hown hK hP 0 rfl rfl 3 (by decide) (hts _ kFX2_13) (fun _ h9 => h9) rfl dX2_fetchCell_36 ?_
  refine lv_iload_n hx hb dX2_fetchCell_39 rfl (lv_at hl 0 rfl) ?_
  refine va_iald hx hb hK hP 4 3 rfl rfl (rg_cell hrf hc) dX2_fetchCell_40 ?_
  refine va_iast hx hb hK hP hD hS 6 5 rfl rfl hc dX2_fetchCell_41 (fun H locs hP hD hS => ?_)
  have hP : va_P (dC, dI) vwCl (wwX2 q_pi q_ra q_rc q_po q_co q_wc q_wo k_ra k_rc k_po k_co k_wc k_wo pi_line pi_cycle pi_control pi_compareLine pi_ground pi_border pi_base pi_flag pi_enabled pi_idle pi_bad pi_glyphLine pi_rowToFetch f_ra f_rc f_po f_co (upd f_wc p1.toNatClampNeg (f_ra (((64:Int32) * pi_base) + (((8:Int32) * pi_rowToFetch) + p1)).toNatClampNeg)) (upd f_wo p1.toNatClampNeg (f_co (((8:Int32) * pi_rowToFetch) + p1).toNatClampNeg))) H := hP
  have hD : va_D A (wwX2 q_pi q_ra q_rc q_po q_co q_wc q_wo k_ra k_rc k_po k_co k_wc k_wo pi_line pi_cycle pi_control pi_compareLine pi_ground pi_border pi_base pi_flag pi_enabled pi_idle pi_bad pi_glyphLine pi_rowToFetch f_ra f_rc f_po f_co (upd f_wc p1.toNatClampNeg (f_ra (((64:Int32) * pi_base) + (((8:Int32) * pi_rowToFetch) + p1)).toNatClampNeg)) (upd f_wo p1.toNatClampNeg (f_co (((8:Int32) * pi_rowToFetch) + p1).toNatClampNeg))) := hD
  exact W.vret hx hb hr (fun t ht hW => ⟨⟨((upd f_wc p1.toNatClampNeg (f_ra (((64:Int32) * pi_base) + (((8:Int32) * pi_rowToFetch) + p1)).toNatClampNeg)), (upd f_wo p1.toNatClampNeg (f_co (((8:Int32) * pi_rowToFetch) + p1).toNatClampNeg))), rfl, hF.symm, by rw [ht]; exact hP, va_K.moved hW.alike hK, hD⟩, hS.F ht⟩) hS.2.2 dX2_fetchCell_42
def gX2_paintCell (p1 : Int32) (pi_line : Int32) (pi_control : Int32) (pi_ground : Int32) (pi_border : Int32) (pi_idle : Int32) (pi_glyphLine : Int32) (f_rc : Nat → Int32) (f_wc : Nat → Int32) (f_wo : Nat → Int32) (i : Nat) : Int32 := (if (if (((if (fX2_isShowing pi_line pi_control) = (0:Int32) then (0:Int32) else (if pi_idle = (0:Int32) then (f_rc (((8:Int32) * ((f_wc p1.toNatClampNeg) &&& (63:Int32))) + pi_glyphLine).toNatClampNeg) else (0:Int32))) >>> (((7:Int32) - (nI i)) &&& (31:Int32))) &&& (1:Int32)) = (0:Int32) then (0:Int32) else (1:Int32)) = (0:Int32) then (if (fX2_isShowing pi_line pi_control) = (0:Int32) then pi_border else pi_ground) else (f_wo p1.toNatClampNeg))
def fX2_paintCell (p1 : Int32) (pi_line : Int32) (pi_control : Int32) (pi_ground : Int32) (pi_border : Int32) (pi_idle : Int32) (pi_glyphLine : Int32) (f_rc : Nat → Int32) (f_po : Nat → Int32) (f_wc : Nat → Int32) (f_wo : Nat → Int32) : (Nat → Int32) := pnt (gX2_paintCell p1 pi_line pi_control pi_ground pi_border pi_idle pi_glyphLine f_rc f_wc f_wo) ((pi_line * (64:Int32)) + ((8:Int32) * p1)) f_po 8
set_option maxHeartbeats 4000000 in
set_option maxRecDepth 100000 in
theorem mX2_paintCell (l : Launch) (dC : Nat → ClassId) (dI : Nat → Nat → Nat) (q_pi q_ra q_rc q_po q_co q_wc q_wo : Nat) (k_ra k_rc k_po k_co k_wc k_wo : ClassId) (sz : Nat) (pi_line pi_cycle pi_control pi_compareLine pi_ground pi_border pi_base pi_flag pi_enabled pi_idle pi_bad pi_glyphLine pi_rowToFetch : Int32) (f_ra f_rc f_po f_co f_wc f_wo : Nat → Int32) (p1 : Int32) (hc : vp_in p1 8) (hli : vp_in pi_line 40) (hgl : vp_in pi_glyphLine 8) : Met l yX2_paintCell uX2_paintCell ({ frames := 1, cells := 0, slots := 0, locals := 20 }) (va_Pc [.ref q_pi, .int p1] (fun U => U.heap.size = sz ∧ va_P (dC, dI) vwCl (wwX2 q_pi q_ra q_rc q_po q_co q_wc q_wo k_ra k_rc k_po k_co k_wc k_wo pi_line pi_cycle pi_control pi_compareLine pi_ground pi_border pi_base pi_flag pi_enabled pi_idle pi_bad pi_glyphLine pi_rowToFetch f_ra f_rc f_po f_co f_wc f_wo) U.heap ∧ va_K (dC, dI) vwCl [(k_ra, .int), (k_rc, .int), (k_po, .int), (k_co, .int), (k_wc, .int), (k_wo, .int)] U ∧ va_D (fun _ => True) (wwX2 q_pi q_ra q_rc q_po q_co q_wc q_wo k_ra k_rc k_po k_co k_wc k_wo pi_line pi_cycle pi_control pi_compareLine pi_ground pi_border pi_base pi_flag pi_enabled pi_idle pi_bad pi_glyphLine pi_rowToFetch f_ra f_rc f_po f_co f_wc f_wo))) (va_Qv (fun (u : (Nat → Int32)) => u = fX2_paintCell p1 pi_line pi_control pi_ground pi_border pi_idle pi_glyphLine f_rc f_po f_wc f_wo) (fun (u : (Nat → Int32)) (t : State) => va_P (dC, dI) vwCl (wwX2 q_pi q_ra q_rc q_po q_co q_wc q_wo k_ra k_rc k_po k_co k_wc k_wo pi_line pi_cycle pi_control pi_compareLine pi_ground pi_border pi_base pi_flag pi_enabled pi_idle pi_bad pi_glyphLine pi_rowToFetch f_ra f_rc u f_co f_wc f_wo) t.heap ∧ va_K (dC, dI) vwCl [(k_ra, .int), (k_rc, .int), (k_po, .int), (k_co, .int), (k_wc, .int), (k_wo, .int)] t ∧ va_D (va_A (wwX2 q_pi q_ra q_rc q_po q_co q_wc q_wo k_ra k_rc k_po k_co k_wc k_wo pi_line pi_cycle pi_control pi_compareLine pi_ground pi_border pi_base pi_flag pi_enabled pi_idle pi_bad pi_glyphLine pi_rowToFetch f_ra f_rc f_po f_co f_wc f_wo) sz) (wwX2 q_pi q_ra q_rc q_po q_co q_wc q_wo k_ra k_rc k_po k_co k_wc k_wo pi_line pi_cycle pi_control pi_compareLine pi_ground pi_border pi_base pi_flag pi_enabled pi_idle pi_bad pi_glyphLine pi_rowToFetch f_ra f_rc u f_co f_wc f_wo)) (va_A (wwX2 q_pi q_ra q_rc q_po q_co q_wc q_wo k_ra k_rc k_po k_co k_wc k_wo pi_line pi_cycle pi_control pi_compareLine pi_ground pi_border pi_base pi_flag pi_enabled pi_idle pi_bad pi_glyphLine pi_rowToFetch f_ra f_rc f_po f_co f_wc f_wo) sz)) 0 0 (va_A (wwX2 q_pi q_ra q_rc q_po q_co q_wc q_wo k_ra k_rc k_po k_co k_wc k_wo pi_line pi_cycle pi_control pi_compareLine pi_ground pi_border pi_base pi_flag pi_enabled pi_idle pi_bad pi_glyphLine pi_rowToFetch f_ra f_rc f_po f_co f_wc f_wo) sz) := by
  refine Met.ofW (cc := cX2_paintCell) (maxL := 8) (ret := none) (by decide) rfl ?_
  intro p e s m args below meth c s₁ B hml hv
  obtain ⟨rfl, hsz, hP, hK, hD0⟩ := hv
  have hx := B.exec
  have hb := B.bytes
  have hr := B.returns
  have hts : ∀ w ∈ ub, w.before _ s = true := fun w h => atoms_spec (ws := uX2_paintCell) B.pre w (List.mem_cons_of_mem _ h)
  have hown : s.vm.findClass RX2 = some m.cls := findClass_of_methodNamed B.named
  have hlocks := B.notSynchronized
  subst hsz
  have hD := hD0.self (sz := s.heap.size)
  generalize hAe : va_A (wwX2 q_pi q_ra q_rc q_po q_co q_wc q_wo k_ra k_rc k_po k_co k_wc k_wo pi_line pi_cycle pi_control pi_compareLine pi_ground pi_border pi_base pi_flag pi_enabled pi_idle pi_bad pi_glyphLine pi_rowToFetch f_ra f_rc f_po f_co f_wc f_wo) s.heap.size = A at hD ⊢
  have hA : ∀ q : Nat, s.heap.size ≤ q → A q := fun q h => by rw [← hAe]; exact Or.inr h
  have hS : va_S A s.heap s.heap [] := va_S.rf
  have hl := lv_entry ([.ref q_pi, .int p1]) (n := 8) (Nat.le_of_ble_eq_true rfl)
  rw [lg_entry_eq]
  generalize (lg_sl ([.ref q_pi, .int p1]) ++ List.replicate (8 - (lg_sl ([.ref q_pi, .int p1])).length) Slot.unset).toArray = ls at hl ⊢
  have hl : lv_has ls 8 [(0, .ref q_pi), (1, .int p1)] := hl
  refine vj_loop (j := 77) (Inv := fun i ls H locs => lv_has ls 8 [(6, .int (nI i)), (5, .int ((pi_line * (64:Int32)) + ((8:Int32) * p1))), (4, .int (if (fX2_isShowing pi_line pi_control) = (0:Int32) then (0:Int32) else (if pi_idle = (0:Int32) then (f_rc (((8:Int32) * ((f_wc p1.toNatClampNeg) &&& (63:Int32))) + pi_glyphLine).toNatClampNeg) else (0:Int32)))), (3, .int (if (fX2_isShowing pi_line pi_control) = (0:Int32) then pi_border else pi_ground)), (0, .ref q_pi), (1, .int p1)] ∧ va_P (dC, dI) vwCl (wwX2 q_pi q_ra q_rc q_po q_co q_wc q_wo k_ra k_rc k_po k_co k_wc k_wo pi_line pi_cycle pi_control pi_compareLine pi_ground pi_border pi_base pi_flag pi_enabled pi_idle pi_bad pi_glyphLine pi_rowToFetch f_ra f_rc (pnt (gX2_paintCell p1 pi_line pi_control pi_ground pi_border pi_idle pi_glyphLine f_rc f_wc f_wo) ((pi_line * (64:Int32)) + ((8:Int32) * p1)) f_po i) f_co f_wc f_wo) H ∧ va_D A (wwX2 q_pi q_ra q_rc q_po q_co q_wc q_wo k_ra k_rc k_po k_co k_wc k_wo pi_line pi_cycle pi_control pi_compareLine pi_ground pi_border pi_base pi_flag pi_enabled pi_idle pi_bad pi_glyphLine pi_rowToFetch f_ra f_rc (pnt (gX2_paintCell p1 pi_line pi_control pi_ground pi_border pi_idle pi_glyphLine f_rc f_wc f_wo) ((pi_line * (64:Int32)) + ((8:Int32) * p1)) f_po i) f_co f_wc f_wo) ∧ va_S A s.heap H locs) 8 (fun ls H locs hh => ?_) (fun i hi ih ls H locs hh => ?_) (fun L => ?_)
  · obtain ⟨hl, hP, hD, hS⟩ := hh
    refine lv_iload hx hb dX2_paintCell_77 (lv_at hl 0 rfl) ?_
    refine lv_bipush (v := 8) hx hb dX2_paintCell_79 (by decide) ?_
    refine lv_icmp_ge (tgt := 135) hx hb dX2_paintCell_81 (by decide) (fun c_81 => ?_) (fun c_81 => by exact absurd (by decide) c_81)
    exact W.vret hx hb hr (fun t ht hW => ⟨⟨(pnt (gX2_paintCell p1 pi_line pi_control pi_ground pi_border pi_idle pi_glyphLine f_rc f_wc f_wo) ((pi_line * (64:Int32)) + ((8:Int32) * p1)) f_po 8), rfl, rfl, by rw [ht]; exact hP, va_K.moved hW.alike hK, hD⟩, hS.F ht⟩) hS.2.2 dX2_paintCell_135
  · obtain ⟨hl, hP, hD, hS⟩ := hh
    refine lv_iload hx hb dX2_paintCell_77 (lv_at hl 0 rfl) ?_
    refine lv_bipush (v := 8) hx hb dX2_paintCell_79 (by decide) ?_
    refine lv_icmp_ge (tgt := 135) hx hb dX2_paintCell_81 (by decide) (fun c_81 => by exact absurd c_81 (nI_ge (b := 8) (by omega) (by decide))) (fun c_81 => ?_)
    refine lv_iload hx hb dX2_paintCell_84 (lv_at hl 2 rfl) ?_
    refine lv_bipush (v := 7) hx hb dX2_paintCell_86 (by decide) ?_
    refine lv_iload hx hb dX2_paintCell_88 (lv_at hl 0 rfl) ?_
    refine lv_isub hx hb dX2_paintCell_90 ?_
    refine lv_ishr hx hb dX2_paintCell_91 ?_
    refine lv_iconst (v := 1) hx hb dX2_paintCell_92 (by decide) ?_
    refine lv_iand hx hb dX2_paintCell_93 ?_
    refine vj_join (j := 102) (rest := []) (Hyp := fun z H locs => z = (if (((if (fX2_isShowing pi_line pi_control) = (0:Int32) then (0:Int32) else (if pi_idle = (0:Int32) then (f_rc (((8:Int32) * ((f_wc p1.toNatClampNeg) &&& (63:Int32))) + pi_glyphLine).toNatClampNeg) else (0:Int32))) >>> (((7:Int32) - (nI i)) &&& (31:Int32))) &&& (1:Int32)) = (0:Int32) then (0:Int32) else (1:Int32)) ∧ va_P (dC, dI) vwCl (wwX2 q_pi q_ra q_rc q_po q_co q_wc q_wo k_ra k_rc k_po k_co k_wc k_wo pi_line pi_cycle pi_control pi_compareLine pi_ground pi_border pi_base pi_flag pi_enabled pi_idle pi_bad pi_glyphLine pi_rowToFetch f_ra f_rc (pnt (gX2_paintCell p1 pi_line pi_control pi_ground pi_border pi_idle pi_glyphLine f_rc f_wc f_wo) ((pi_line * (64:Int32)) + ((8:Int32) * p1)) f_po i) f_co f_wc f_wo) H ∧ va_S A s.heap H locs) (fun z H locs hh => ?_) (fun J102 => ?_)
    · obtain ⟨hz, hP, hS⟩ := hh
      subst hz
      refine lv_istore (lv' := [(7, .int (if (((if (fX2_isShowing pi_line pi_control) = (0:Int32) then (0:Int32) else (if pi_idle = (0:Int32) then (f_rc (((8:Int32) * ((f_wc p1.toNatClampNeg) &&& (63:Int32))) + pi_glyphLine).toNatClampNeg) else (0:Int32))) >>> (((7:Int32) - (nI i)) &&& (31:Int32))) &&& (1:Int32)) = (0:Int32) then (0:Int32) else (1:Int32))), (6, .int (nI i)), (5, .int ((pi_line * (64:Int32)) + ((8:Int32) * p1))), (4, .int (if (fX2_isShowing pi_line pi_control) = (0:Int32) then (0:Int32) else (if pi_idle = (0:Int32) then (f_rc (((8:Int32) * ((f_wc p1.toNatClampNeg) &&& (63:Int32))) + pi_glyphLine).toNatClampNeg) else (0:Int32)))), (3, .int (if (fX2_isShowing pi_line pi_control) = (0:Int32) then pi_border else pi_ground)), (0, .ref q_pi), (1, .int p1)]) hx hb dX2_paintCell_102 hl (by decide) rfl (fun ls hl => ?_)
      refine lv_aload_n hx hb dX2_paintCell_104 rfl (lv_at hl 5 rfl) ?_
      refine va_get (D := (dC, dI)) (ci := 2) (v := .ref q_po) (C := RX2) (T := TX2) (N := 19) hx hb hts hiX2 hown hK hP 0 rfl rfl 2 (by decide) (hts _ kFX2_9) (fun _ h9 => h9) rfl dX2_paintCell_105 ?_
      refine lv_iload hx hb dX2_paintCell_108 (lv_at hl 2 rfl) ?_
      refine lv_iload hx hb dX2_paintCell_110 (lv_at hl 1 rfl) ?_
      refine lv_iadd hx hb dX2_paintCell_112 ?_
      refine lv_iload hx hb dX2_paintCell_113 (lv_at hl 0 rfl) ?_
      refine vj_join (j := 128) (rest := [.int (((pi_line * (64:Int32)) + ((8:Int32) * p1)) + (nI i)), .ref q_po]) (Hyp := fun z H locs => z = (if (if (((if (fX2_isShowing pi_line pi_control) = (0:Int32) then (0:Int32) else (if pi_idle = (0:Int32) then (f_rc (((8:Int32) * ((f_wc p1.toNatClampNeg) &&& (63:Int32))) + pi_glyphLine).toNatClampNeg) else (0:Int32))) >>> (((7:Int32) - (nI i)) &&& (31:Int32))) &&& (1:Int32)) = (0:Int32) then (0:Int32) else (1:Int32)) = (0:Int32) then (if (fX2_isShowing pi_line pi_control) = (0:Int32) then pi_border else pi_ground) else (f_wo p1.toNatClampNeg)) ∧ va_P (dC, dI) vwCl (wwX2 q_pi q_ra q_rc q_po q_co q_wc q_wo k_ra k_rc k_po k_co k_wc k_wo pi_line pi_cycle pi_control pi_compareLine pi_ground pi_border pi_base pi_flag pi_enabled pi_idle pi_bad pi_glyphLine pi_rowToFetch f_ra f_rc (pnt (gX2_paintCell p1 pi_line pi_control pi_ground pi_border pi_idle pi_glyphLine f_rc f_wc f_wo) ((pi_line * (64:Int32)) + ((8:Int32) * p1)) f_po i) f_co f_wc f_wo) H ∧ va_S A s.heap H locs) (fun z H locs hh => ?_) (fun J128 => ?_)
      · obtain ⟨hz, hP, hS⟩ := hh
        subst hz
        refine va_iast hx hb hK hP hD hS 3 2 rfl rfl (rg_pi hli hc hi) dX2_paintCell_128 (fun H locs hP hD hS => ?_)
        have hP : va_P (dC, dI) vwCl (wwX2 q_pi q_ra q_rc q_po q_co q_wc q_wo k_ra k_rc k_po k_co k_wc k_wo pi_line pi_cycle pi_control pi_compareLine pi_ground pi_border pi_base pi_flag pi_enabled pi_idle pi_bad pi_glyphLine pi_rowToFetch f_ra f_rc (upd (pnt (gX2_paintCell p1 pi_line pi_control pi_ground pi_border pi_idle pi_glyphLine f_rc f_wc f_wo) ((pi_line * (64:Int32)) + ((8:Int32) * p1)) f_po i) (((pi_line * (64:Int32)) + ((8:Int32) * p1)) + (nI i)).toNatClampNeg (if (if (((if (fX2_isShowing pi_line pi_control) = (0:Int32) then (0:Int32) else (if pi_idle = (0:Int32) then (f_rc (((8:Int32) * ((f_wc p1.toNatClampNeg) &&& (63:Int32))) + pi_glyphLine).toNatClampNeg) else (0:Int32))) >>> (((7:Int32) - (nI i)) &&& (31:Int32))) &&& (1:Int32)) = (0:Int32) then (0:Int32) else (1:Int32)) = (0:Int32) then (if (fX2_isShowing pi_line pi_control) = (0:Int32) then pi_border else pi_ground) else (f_wo p1.toNatClampNeg))) f_co f_wc f_wo) H := hP
        have hD : va_D A (wwX2 q_pi q_ra q_rc q_po q_co q_wc q_wo k_ra k_rc k_po k_co k_wc k_wo pi_line pi_cycle pi_control pi_compareLine pi_ground pi_border pi_base pi_flag pi_enabled pi_idle pi_bad pi_glyphLine pi_rowToFetch f_ra f_rc (upd (pnt (gX2_paintCell p1 pi_line pi_control pi_ground pi_border pi_idle pi_glyphLine f_rc f_wc f_wo) ((pi_line * (64:Int32)) + ((8:Int32) * p1)) f_po i) (((pi_line * (64:Int32)) + ((8:Int32) * p1)) + (nI i)).toNatClampNeg (if (if (((if (fX2_isShowing pi_line pi_control) = (0:Int32) then (0:Int32) else (if pi_idle = (0:Int32) then (f_rc (((8:Int32) * ((f_wc p1.toNatClampNeg) &&& (63:Int32))) + pi_glyphLine).toNatClampNeg) else (0:Int32))) >>> (((7:Int32) - (nI i)) &&& (31:Int32))) &&& (1:Int32)) = (0:Int32) then (0:Int32) else (1:Int32)) = (0:Int32) then (if (fX2_isShowing pi_line pi_control) = (0:Int32) then pi_border else pi_ground) else (f_wo p1.toNatClampNeg))) f_co f_wc f_wo) := hD
        refine lv_iinc (v := ((nI i) + (1:Int32))) (lv' := [(6, .int ((nI i) + (1:Int32))), (7, .int (if (((if (fX2_isShowing pi_line pi_control) = (0:Int32) then (0:Int32) else (if pi_idle = (0:Int32) then (f_rc (((8:Int32) * ((f_wc p1.toNatClampNeg) &&& (63:Int32))) + pi_glyphLine).toNatClampNeg) else (0:Int32))) >>> (((7:Int32) - (nI i)) &&& (31:Int32))) &&& (1:Int32)) = (0:Int32) then (0:Int32) else (1:Int32))), (5, .int ((pi_line * (64:Int32)) + ((8:Int32) * p1))), (4, .int (if (fX2_isShowing pi_line pi_control) = (0:Int32) then (0:Int32) else (if pi_idle = (0:Int32) then (f_rc (((8:Int32) * ((f_wc p1.toNatClampNeg) &&& (63:Int32))) + pi_glyphLine).toNatClampNeg) else (0:Int32)))), (3, .int (if (fX2_isShowing pi_line pi_control) = (0:Int32) then pi_border else pi_ground)), (0, .ref q_pi), (1, .int p1)]) hx hb dX2_paintCell_129 hl (k := 1) rfl rfl (by decide) rfl (fun ls hl => ?_)
        refine lv_goto (tgt := 77) hx hb dX2_paintCell_132 (by decide) ?_
        have e_f_po : (pnt (gX2_paintCell p1 pi_line pi_control pi_ground pi_border pi_idle pi_glyphLine f_rc f_wc f_wo) ((pi_line * (64:Int32)) + ((8:Int32) * p1)) f_po (i + 1)) = (upd (pnt (gX2_paintCell p1 pi_line pi_control pi_ground pi_border pi_idle pi_glyphLine f_rc f_wc f_wo) ((pi_line * (64:Int32)) + ((8:Int32) * p1)) f_po i) (((pi_line * (64:Int32)) + ((8:Int32) * p1)) + (nI i)).toNatClampNeg (if (if (((if (fX2_isShowing pi_line pi_control) = (0:Int32) then (0:Int32) else (if pi_idle = (0:Int32) then (f_rc (((8:Int32) * ((f_wc p1.toNatClampNeg) &&& (63:Int32))) + pi_glyphLine).toNatClampNeg) else (0:Int32))) >>> (((7:Int32) - (nI i)) &&& (31:Int32))) &&& (1:Int32)) = (0:Int32) then (0:Int32) else (1:Int32)) = (0:Int32) then (if (fX2_isShowing pi_line pi_control) = (0:Int32) then pi_border else pi_ground) else (f_wo p1.toNatClampNeg))) := by rfl
        rw [← e_f_po] at hP hD
        have hl := lv_sub hl [0, 2, 3, 4, 5, 6] rfl
        have w_6 : (nI (i + 1)) = ((nI i) + (1:Int32)) := by exact nI_succ i
        rw [← w_6] at hl
        exact ih ls _ _ ⟨hl, hP, hD, hS⟩
      · refine lv_if_eq (tgt := 127) hx hb dX2_paintCell_115 (by decide) (fun c_115 => ?_) (fun c_115 => ?_)
        · refine lv_iload_n hx hb dX2_paintCell_127 rfl (lv_at hl 4 rfl) ?_
          exact J128 _ _ _ ⟨by rw [if_pos c_115], hP, hS⟩
        · refine lv_aload_n hx hb dX2_paintCell_118 rfl (lv_at hl 5 rfl) ?_
          refine va_get (D := (dC, dI)) (ci := 2) (v := .ref q_wo) (C := RX2) (T := TX2) (N := 19) hx hb hts hiX2 hown hK hP 0 rfl rfl 5 (by decide) (hts _ kFX2_19) (fun _ h9 => h9) rfl dX2_paintCell_119 ?_
          refine lv_iload_n hx hb dX2_paintCell_122 rfl (lv_at hl 6 rfl) ?_
          refine va_iald hx hb hK hP 6 5 rfl rfl hc dX2_paintCell_123 ?_
          refine lv_goto (tgt := 128) hx hb dX2_paintCell_124 (by decide) ?_
          exact J128 _ _ _ ⟨by rw [if_neg c_115], hP, hS⟩
    · refine lv_if_eq (tgt := 101) hx hb dX2_paintCell_94 (by decide) (fun c_94 => ?_) (fun c_94 => ?_)
      · refine lv_iconst (v := 0) hx hb dX2_paintCell_101 (by decide) ?_
        exact J102 _ _ _ ⟨by rw [if_pos c_94], hP, hS⟩
      · refine lv_iconst (v := 1) hx hb dX2_paintCell_97 (by decide) ?_
        refine lv_goto (tgt := 102) hx hb dX2_paintCell_98 (by decide) ?_
        exact J102 _ _ _ ⟨by rw [if_neg c_94], hP, hS⟩
  · refine lv_aload_n hx hb dX2_paintCell_0 rfl (lv_at hl 0 rfl) ?_
    have hPc := hP.sub (ws' := (wwX2 q_pi q_ra q_rc q_po q_co q_wc q_wo k_ra k_rc k_po k_co k_wc k_wo pi_line pi_cycle pi_control pi_compareLine pi_ground pi_border pi_base pi_flag pi_enabled pi_idle pi_bad pi_glyphLine pi_rowToFetch f_ra f_rc f_po f_co f_wc f_wo)) [0, 1, 2, 3, 4, 5, 6] rfl
    have hDc := hD.sub (ws' := (wwX2 q_pi q_ra q_rc q_po q_co q_wc q_wo k_ra k_rc k_po k_co k_wc k_wo pi_line pi_cycle pi_control pi_compareLine pi_ground pi_border pi_base pi_flag pi_enabled pi_idle pi_bad pi_glyphLine pi_rowToFetch f_ra f_rc f_po f_co f_wc f_wo)) [0, 1, 2, 3, 4, 5, 6] (by decide) rfl
    have hKc := hK.sub (tys' := [(k_ra, .int), (k_rc, .int), (k_po, .int), (k_co, .int), (k_wc, .int), (k_wo, .int)]) [0, 1, 2, 3, 4, 5] rfl
    have hFc := va_free (wc := (wwX2 q_pi q_ra q_rc q_po q_co q_wc q_wo k_ra k_rc k_po k_co k_wc k_wo pi_line pi_cycle pi_control pi_compareLine pi_ground pi_border pi_base pi_flag pi_enabled pi_idle pi_bad pi_glyphLine pi_rowToFetch f_ra f_rc f_po f_co f_wc f_wo)) hD hS hA [0, 1, 2, 3, 4, 5, 6] rfl
    refine va_calli (va_runV (As := []) (rest := []) ⟨hx, hb, hml, hown, hts⟩ (mX2_isShowing l dC dI q_pi q_ra q_rc q_po q_co q_wc q_wo k_ra k_rc k_po k_co k_wc k_wo s.heap.size pi_line pi_cycle pi_control pi_compareLine pi_ground pi_border pi_base pi_flag pi_enabled pi_idle pi_bad pi_glyphLine pi_rowToFetch f_ra f_rc f_po f_co f_wc f_wo) (cwV 0 hts (ub_V kMX2_70 kYX2_isShowing kSX2_isShowing kIX2 kBX2_isShowing) rfl rfl rfl (by decide +kernel) ⟨Nat.le_of_ble_eq_true rfl, Nat.le_of_ble_eq_true rfl⟩) ⟨fun a U g mk q => by obtain ⟨q0, q1, qP, qK, qD⟩ := q; exact ⟨q0, q1, qP, va_K.moved (u := U) (U := U.calling g mk a) (Vm.Alike.refl U.vm) qK, qD⟩, va_recv hKc hPc (ci := 2) (q0 := 0) rfl rfl, fun U hU hW => ⟨rfl, by rw [hU], by rw [hU]; exact hPc, va_K.moved hW.alike hKc, hDc.weaken (fun _ _ _ _ => trivial)⟩⟩ rfl rfl hl.1 rfl (lv_room (Nat.le_of_ble_eq_true rfl)) dX2_paintCell_1 ⟨(Nat.zero_le _), (Nat.zero_le _)⟩) hS (fun q _ h => hFc q h) hFc (fun r_1 u_1 t H locs ht hvm hw hB hz1 hk1 hS => ?_)
    obtain ⟨hP1, hK1, hD1⟩ := hB
    rw [ht] at hP1
    subst hw
    obtain ⟨hP, hD⟩ := vb_back (wc := (wwX2 q_pi q_ra q_rc q_po q_co q_wc q_wo k_ra k_rc k_po k_co k_wc k_wo pi_line pi_cycle pi_control pi_compareLine pi_ground pi_border pi_base pi_flag pi_enabled pi_idle pi_bad pi_glyphLine pi_rowToFetch f_ra f_rc f_po f_co f_wc f_wo)) (ws' := (wwX2 q_pi q_ra q_rc q_po q_co q_wc q_wo k_ra k_rc k_po k_co k_wc k_wo pi_line pi_cycle pi_control pi_compareLine pi_ground pi_border pi_base pi_flag pi_enabled pi_idle pi_bad pi_glyphLine pi_rowToFetch f_ra f_rc f_po f_co f_wc f_wo)) hP hD hD1 [0, 1, 2, 3, 4, 5, 6] [] rfl rfl ae_n rfl rfl hk1 hP1
    refine lv_istore_n (lv' := [(2, .int (fX2_isShowing pi_line pi_control)), (0, .ref q_pi), (1, .int p1)]) hx hb dX2_paintCell_4 rfl hl (by decide) rfl (fun ls hl => ?_)
    refine lv_iload_n hx hb dX2_paintCell_5 rfl (lv_at hl 0 rfl) ?_
    refine vj_join (j := 20) (rest := []) (Hyp := fun z H locs => z = (if (fX2_isShowing pi_line pi_control) = (0:Int32) then pi_border else pi_ground) ∧ va_P (dC, dI) vwCl (wwX2 q_pi q_ra q_rc q_po q_co q_wc q_wo k_ra k_rc k_po k_co k_wc k_wo pi_line pi_cycle pi_control pi_compareLine pi_ground pi_border pi_base pi_flag pi_enabled pi_idle pi_bad pi_glyphLine pi_rowToFetch f_ra f_rc f_po f_co f_wc f_wo) H ∧ va_S A s.heap H locs) (fun z H locs hh => ?_) (fun J20 => ?_)
    · obtain ⟨hz, hP, hS⟩ := hh
      subst hz
      refine lv_istore_n (lv' := [(3, .int (if (fX2_isShowing pi_line pi_control) = (0:Int32) then pi_border else pi_ground)), (2, .int (fX2_isShowing pi_line pi_control)), (0, .ref q_pi), (1, .int p1)]) hx hb dX2_paintCell_20 rfl hl (by decide) rfl (fun ls hl => ?_)
      refine lv_iload_n hx hb dX2_paintCell_21 rfl (lv_at hl 1 rfl) ?_
      refine vj_join (j := 58) (rest := []) (Hyp := fun z H locs => z = (if (fX2_isShowing pi_line pi_control) = (0:Int32) then (0:Int32) else (if pi_idle = (0:Int32) then (f_rc (((8:Int32) * ((f_wc p1.toNatClampNeg) &&& (63:Int32))) + pi_glyphLine).toNatClampNeg) else (0:Int32))) ∧ va_P (dC, dI) vwCl (wwX2 q_pi q_ra q_rc q_po q_co q_wc q_wo k_ra k_rc k_po k_co k_wc k_wo pi_line pi_cycle pi_control pi_compareLine pi_ground pi_border pi_base pi_flag pi_enabled pi_idle pi_bad pi_glyphLine pi_rowToFetch f_ra f_rc f_po f_co f_wc f_wo) H ∧ va_S A s.heap H locs) (fun z H locs hh => ?_) (fun J58 => ?_)
      · obtain ⟨hz, hP, hS⟩ := hh
        subst hz
        refine lv_istore (lv' := [(4, .int (if (fX2_isShowing pi_line pi_control) = (0:Int32) then (0:Int32) else (if pi_idle = (0:Int32) then (f_rc (((8:Int32) * ((f_wc p1.toNatClampNeg) &&& (63:Int32))) + pi_glyphLine).toNatClampNeg) else (0:Int32)))), (3, .int (if (fX2_isShowing pi_line pi_control) = (0:Int32) then pi_border else pi_ground)), (2, .int (fX2_isShowing pi_line pi_control)), (0, .ref q_pi), (1, .int p1)]) hx hb dX2_paintCell_58 hl (by decide) rfl (fun ls hl => ?_)
        refine lv_aload_n hx hb dX2_paintCell_60 rfl (lv_at hl 3 rfl) ?_
        refine va_get (D := (dC, dI)) (ci := 2) (v := .int pi_line) (C := RX2) (T := TX2) (N := 19) hx hb hts hiX2 hown hK hP 0 rfl rfl 6 (by decide) (hts _ kFX2_58) (fun _ h9 => h9) rfl dX2_paintCell_61 ?_
        refine lv_bipush (v := 64) hx hb dX2_paintCell_64 (by decide) ?_
        refine lv_imul hx hb dX2_paintCell_66 ?_
        refine lv_bipush (v := 8) hx hb dX2_paintCell_67 (by decide) ?_
        refine lv_iload_n hx hb dX2_paintCell_69 rfl (lv_at hl 4 rfl) ?_
        refine lv_imul hx hb dX2_paintCell_70 ?_
        refine lv_iadd hx hb dX2_paintCell_71 ?_
        refine lv_istore (lv' := [(5, .int ((pi_line * (64:Int32)) + ((8:Int32) * p1))), (4, .int (if (fX2_isShowing pi_line pi_control) = (0:Int32) then (0:Int32) else (if pi_idle = (0:Int32) then (f_rc (((8:Int32) * ((f_wc p1.toNatClampNeg) &&& (63:Int32))) + pi_glyphLine).toNatClampNeg) else (0:Int32)))), (3, .int (if (fX2_isShowing pi_line pi_control) = (0:Int32) then pi_border else pi_ground)), (2, .int (fX2_isShowing pi_line pi_control)), (0, .ref q_pi), (1, .int p1)]) hx hb dX2_paintCell_72 hl (by decide) rfl (fun ls hl => ?_)
        refine lv_iconst (v := 0) hx hb dX2_paintCell_74 (by decide) ?_
        refine lv_istore (lv' := [(6, .int (0:Int32)), (5, .int ((pi_line * (64:Int32)) + ((8:Int32) * p1))), (4, .int (if (fX2_isShowing pi_line pi_control) = (0:Int32) then (0:Int32) else (if pi_idle = (0:Int32) then (f_rc (((8:Int32) * ((f_wc p1.toNatClampNeg) &&& (63:Int32))) + pi_glyphLine).toNatClampNeg) else (0:Int32)))), (3, .int (if (fX2_isShowing pi_line pi_control) = (0:Int32) then pi_border else pi_ground)), (2, .int (fX2_isShowing pi_line pi_control)), (0, .ref q_pi), (1, .int p1)]) hx hb dX2_paintCell_75 hl (by decide) rfl (fun ls hl => ?_)
        exact L ls _ _ ⟨lv_sub hl [0, 1, 2, 3, 5, 6] rfl, hP, hD, hS⟩
      · refine lv_if_eq (tgt := 57) hx hb dX2_paintCell_22 (by decide) (fun c_22 => ?_) (fun c_22 => ?_)
        · refine lv_iconst (v := 0) hx hb dX2_paintCell_57 (by decide) ?_
          exact J58 _ _ _ ⟨by rw [if_pos c_22], hP, hS⟩
        · refine lv_aload_n hx hb dX2_paintCell_25 rfl (lv_at hl 2 rfl) ?_
          refine va_get (D := (dC, dI)) (ci := 2) (v := .int pi_idle) (C := RX2) (T := TX2) (N := 19) hx hb hts hiX2 hown hK hP 0 rfl rfl 15 (by decide) (hts _ kFX2_22) (fun _ h9 => h9) rfl dX2_paintCell_26 ?_
          refine lv_if_ne (tgt := 57) hx hb dX2_paintCell_29 (by decide) (fun c_29 => ?_) (fun c_29 => ?_)
          · refine lv_iconst (v := 0) hx hb dX2_paintCell_57 (by decide) ?_
            exact J58 _ _ _ ⟨by rw [if_neg c_22, if_neg c_29], hP, hS⟩
          · refine lv_aload_n hx hb dX2_paintCell_32 rfl (lv_at hl 2 rfl) ?_
            refine va_get (D := (dC, dI)) (ci := 2) (v := .ref q_rc) (C := RX2) (T := TX2) (N := 19) hx hb hts hiX2 hown hK hP 0 rfl rfl 1 (by decide) (hts _ kFX2_29) (fun _ h9 => h9) rfl dX2_paintCell_33 ?_
            refine lv_bipush (v := 8) hx hb dX2_paintCell_36 (by decide) ?_
            refine lv_aload_n hx hb dX2_paintCell_38 rfl (lv_at hl 2 rfl) ?_
            refine va_get (D := (dC, dI)) (ci := 2) (v := .ref q_wc) (C := RX2) (T := TX2) (N := 19) hx hb hts hiX2 hown hK hP 0 rfl rfl 4 (by decide) (hts _ kFX2_16) (fun _ h9 => h9) rfl dX2_paintCell_39 ?_
            refine lv_iload_n hx hb dX2_paintCell_42 rfl (lv_at hl 3 rfl) ?_
            refine va_iald hx hb hK hP 5 4 rfl rfl hc dX2_paintCell_43 ?_
            refine lv_bipush (v := 63) hx hb dX2_paintCell_44 (by decide) ?_
            refine lv_iand hx hb dX2_paintCell_46 ?_
            refine lv_imul hx hb dX2_paintCell_47 ?_
            refine lv_aload_n hx hb dX2_paintCell_48 rfl (lv_at hl 2 rfl) ?_
            refine va_get (D := (dC, dI)) (ci := 2) (v := .int pi_glyphLine) (C := RX2) (T := TX2) (N := 19) hx hb hts hiX2 hown hK hP 0 rfl rfl 17 (by decide) (hts _ kFX2_77) (fun _ h9 => h9) rfl dX2_paintCell_49 ?_
            refine lv_iadd hx hb dX2_paintCell_52 ?_
            refine va_iald hx hb hK hP 2 1 rfl rfl (rg_gl hgl) dX2_paintCell_53 ?_
            refine lv_goto (tgt := 58) hx hb dX2_paintCell_54 (by decide) ?_
            exact J58 _ _ _ ⟨by rw [if_neg c_22, if_pos c_29], hP, hS⟩
    · refine lv_if_eq (tgt := 16) hx hb dX2_paintCell_6 (by decide) (fun c_6 => ?_) (fun c_6 => ?_)
      · refine lv_aload_n hx hb dX2_paintCell_16 rfl (lv_at hl 1 rfl) ?_
        refine va_get (D := (dC, dI)) (ci := 2) (v := .int pi_border) (C := RX2) (T := TX2) (N := 19) hx hb hts hiX2 hown hK hP 0 rfl rfl 11 (by decide) (hts _ kFX2_86) (fun _ h9 => h9) rfl dX2_paintCell_17 ?_
        exact J20 _ _ _ ⟨by rw [if_pos c_6], hP, hS⟩
      · refine lv_aload_n hx hb dX2_paintCell_9 rfl (lv_at hl 1 rfl) ?_
        refine va_get (D := (dC, dI)) (ci := 2) (v := .int pi_ground) (C := RX2) (T := TX2) (N := 19) hx hb hts hiX2 hown hK hP 0 rfl rfl 10 (by decide) (hts _ kFX2_83) (fun _ h9 => h9) rfl dX2_paintCell_10 ?_
        refine lv_goto (tgt := 20) hx hb dX2_paintCell_13 (by decide) ?_
        exact J20 _ _ _ ⟨by rw [if_neg c_6], hP, hS⟩
def fX2_endGlyphLine (pi_idle : Int32) (pi_glyphLine : Int32) : Int32 × Int32 :=
  if pi_glyphLine = (7:Int32) then
   ((1:Int32), pi_glyphLine)
  else
   (pi_idle, (pi_glyphLine + (1:Int32)))
set_option maxHeartbeats 4000000 in
set_option maxRecDepth 100000 in
theorem mX2_endGlyphLine (l : Launch) (dC : Nat → ClassId) (dI : Nat → Nat → Nat) (q_pi q_ra q_rc q_po q_co q_wc q_wo : Nat) (k_ra k_rc k_po k_co k_wc k_wo : ClassId) (sz : Nat) (pi_line pi_cycle pi_control pi_compareLine pi_ground pi_border pi_base pi_flag pi_enabled pi_idle pi_bad pi_glyphLine pi_rowToFetch : Int32) (f_ra f_rc f_po f_co f_wc f_wo : Nat → Int32) : Met l yX2_endGlyphLine uX2_endGlyphLine ({ frames := 0, cells := 0, slots := 0, locals := 0 }) (va_Pc [.ref q_pi] (fun U => U.heap.size = sz ∧ va_P (dC, dI) vwCl (wwX2 q_pi q_ra q_rc q_po q_co q_wc q_wo k_ra k_rc k_po k_co k_wc k_wo pi_line pi_cycle pi_control pi_compareLine pi_ground pi_border pi_base pi_flag pi_enabled pi_idle pi_bad pi_glyphLine pi_rowToFetch f_ra f_rc f_po f_co f_wc f_wo) U.heap ∧ va_K (dC, dI) vwCl [(k_ra, .int), (k_rc, .int), (k_po, .int), (k_co, .int), (k_wc, .int), (k_wo, .int)] U ∧ va_D (fun _ => True) (wwX2 q_pi q_ra q_rc q_po q_co q_wc q_wo k_ra k_rc k_po k_co k_wc k_wo pi_line pi_cycle pi_control pi_compareLine pi_ground pi_border pi_base pi_flag pi_enabled pi_idle pi_bad pi_glyphLine pi_rowToFetch f_ra f_rc f_po f_co f_wc f_wo))) (va_Qv (fun (u : Int32 × Int32) => u = fX2_endGlyphLine pi_idle pi_glyphLine) (fun (u : Int32 × Int32) (t : State) => va_P (dC, dI) vwCl (wwX2 q_pi q_ra q_rc q_po q_co q_wc q_wo k_ra k_rc k_po k_co k_wc k_wo pi_line pi_cycle pi_control pi_compareLine pi_ground pi_border pi_base pi_flag pi_enabled u.1 pi_bad u.2 pi_rowToFetch f_ra f_rc f_po f_co f_wc f_wo) t.heap ∧ va_K (dC, dI) vwCl [(k_ra, .int), (k_rc, .int), (k_po, .int), (k_co, .int), (k_wc, .int), (k_wo, .int)] t ∧ va_D (va_A (wwX2 q_pi q_ra q_rc q_po q_co q_wc q_wo k_ra k_rc k_po k_co k_wc k_wo pi_line pi_cycle pi_control pi_compareLine pi_ground pi_border pi_base pi_flag pi_enabled pi_idle pi_bad pi_glyphLine pi_rowToFetch f_ra f_rc f_po f_co f_wc f_wo) sz) (wwX2 q_pi q_ra q_rc q_po q_co q_wc q_wo k_ra k_rc k_po k_co k_wc k_wo pi_line pi_cycle pi_control pi_compareLine pi_ground pi_border pi_base pi_flag pi_enabled u.1 pi_bad u.2 pi_rowToFetch f_ra f_rc f_po f_co f_wc f_wo)) (va_A (wwX2 q_pi q_ra q_rc q_po q_co q_wc q_wo k_ra k_rc k_po k_co k_wc k_wo pi_line pi_cycle pi_control pi_compareLine pi_ground pi_border pi_base pi_flag pi_enabled pi_idle pi_bad pi_glyphLine pi_rowToFetch f_ra f_rc f_po f_co f_wc f_wo) sz)) 0 0 (va_A (wwX2 q_pi q_ra q_rc q_po q_co q_wc q_wo k_ra k_rc k_po k_co k_wc k_wo pi_line pi_cycle pi_control pi_compareLine pi_ground pi_border pi_base pi_flag pi_enabled pi_idle pi_bad pi_glyphLine pi_rowToFetch f_ra f_rc f_po f_co f_wc f_wo) sz) := by
  refine Met.ofW (cc := cX2_endGlyphLine) (maxL := 1) (ret := none) (by decide) rfl ?_
  intro p e s m args below meth c s₁ B hml hv
  obtain ⟨rfl, hsz, hP, hK, hD0⟩ := hv
  have hx := B.exec
  have hb := B.bytes
  have hr := B.returns
  have hts : ∀ w ∈ ub, w.before _ s = true := fun w h => atoms_spec (ws := uX2_endGlyphLine) B.pre w (List.mem_cons_of_mem _ h)
  have hown : s.vm.findClass RX2 = some m.cls := findClass_of_methodNamed B.named
  have hlocks := B.notSynchronized
  subst hsz
  have hD := hD0.self (sz := s.heap.size)
  generalize hAe : va_A (wwX2 q_pi q_ra q_rc q_po q_co q_wc q_wo k_ra k_rc k_po k_co k_wc k_wo pi_line pi_cycle pi_control pi_compareLine pi_ground pi_border pi_base pi_flag pi_enabled pi_idle pi_bad pi_glyphLine pi_rowToFetch f_ra f_rc f_po f_co f_wc f_wo) s.heap.size = A at hD ⊢
  have hA : ∀ q : Nat, s.heap.size ≤ q → A q := fun q h => by rw [← hAe]; exact Or.inr h
  have hS : va_S A s.heap s.heap [] := va_S.rf
  have hl := lv_entry ([.ref q_pi]) (n := 1) (Nat.le_of_ble_eq_true rfl)
  rw [lg_entry_eq]
  generalize (lg_sl ([.ref q_pi]) ++ List.replicate (1 - (lg_sl ([.ref q_pi])).length) Slot.unset).toArray = ls at hl ⊢
  have hl : lv_has ls 1 [(0, .ref q_pi)] := hl
  have hF := fX2_endGlyphLine.eq_1 pi_idle pi_glyphLine
  refine lv_aload_n hx hb dX2_endGlyphLine_0 rfl (lv_at hl 0 rfl) ?_
  refine va_get (D := (dC, dI)) (ci := 2) (v := .int pi_glyphLine) (C := RX2) (T := TX2) (N := 19) hx hb hts hiX2 hown hK hP 0 rfl rfl 17 (by decide) (hts _ kFX2_77) (fun _ h9 => h9) rfl dX2_endGlyphLine_1 ?_
  refine lv_bipush (v := 7) hx hb dX2_endGlyphLine_4 (by decide) ?_
  refine lv_icmp_ne (tgt := 17) hx hb dX2_endGlyphLine_6 (by decide) (fun c_6 => ?_) (fun c_6 => ?_)
  · have hF := hF.trans (if_neg c_6)
    refine lv_aload_n hx hb dX2_endGlyphLine_17 rfl (lv_at hl 0 rfl) ?_
    refine lv_dup hx hb dX2_endGlyphLine_18 rfl ?_
    refine va_get (D := (dC, dI)) (ci := 2) (v := .int pi_glyphLine) (C := RX2) (T := TX2) (N := 19) hx hb hts hiX2 hown hK hP 0 rfl rfl 17 (by decide) (hts _ kFX2_77) (fun _ h9 => h9) rfl dX2_endGlyphLine_19 ?_
    refine lv_iconst (v := 1) hx hb dX2_endGlyphLine_22 (by decide) ?_
    refine lv_iadd hx hb dX2_endGlyphLine_23 ?_
    refine va_put (D := (dC, dI)) (ci := 2) (v := .int (pi_glyphLine + (1:Int32))) (ty := .int) (C := RX2) (T := TX2) (N := 19) hx hb hts hiX2 tyX2 tyX2_ok nmX2 hown hK hP hD hS 0 rfl rfl 17 (by decide) (hts _ kFX2_77) (fun _ h9 => h9) rfl (by decide +kernel) rfl rfl (Nat.le_of_ble_eq_true rfl) dX2_endGlyphLine_24 (fun H locs hP hD hS => ?_)
    have hP : va_P (dC, dI) vwCl (wwX2 q_pi q_ra q_rc q_po q_co q_wc q_wo k_ra k_rc k_po k_co k_wc k_wo pi_line pi_cycle pi_control pi_compareLine pi_ground pi_border pi_base pi_flag pi_enabled pi_idle pi_bad (pi_glyphLine + (1:Int32)) pi_rowToFetch f_ra f_rc f_po f_co f_wc f_wo) H := hP
    have hD : va_D A (wwX2 q_pi q_ra q_rc q_po q_co q_wc q_wo k_ra k_rc k_po k_co k_wc k_wo pi_line pi_cycle pi_control pi_compareLine pi_ground pi_border pi_base pi_flag pi_enabled pi_idle pi_bad (pi_glyphLine + (1:Int32)) pi_rowToFetch f_ra f_rc f_po f_co f_wc f_wo) := hD
    exact W.vret hx hb hr (fun t ht hW => ⟨⟨(pi_idle, (pi_glyphLine + (1:Int32))), rfl, hF.symm, by rw [ht]; exact hP, va_K.moved hW.alike hK, hD⟩, hS.F ht⟩) hS.2.2 dX2_endGlyphLine_27
  · have hF := hF.trans (if_pos c_6)
    refine lv_aload_n hx hb dX2_endGlyphLine_9 rfl (lv_at hl 0 rfl) ?_
    refine lv_iconst (v := 1) hx hb dX2_endGlyphLine_10 (by decide) ?_
    refine va_put (D := (dC, dI)) (ci := 2) (v := .int (1:Int32)) (ty := .boolean) (C := RX2) (T := TX2) (N := 19) hx hb hts hiX2 tyX2 tyX2_ok nmX2 hown hK hP hD hS 0 rfl rfl 15 (by decide) (hts _ kFX2_22) (fun _ h9 => h9) rfl (by decide +kernel) rfl rfl (Nat.le_of_ble_eq_true rfl) dX2_endGlyphLine_11 (fun H locs hP hD hS => ?_)
    have hP : va_P (dC, dI) vwCl (wwX2 q_pi q_ra q_rc q_po q_co q_wc q_wo k_ra k_rc k_po k_co k_wc k_wo pi_line pi_cycle pi_control pi_compareLine pi_ground pi_border pi_base pi_flag pi_enabled (1:Int32) pi_bad pi_glyphLine pi_rowToFetch f_ra f_rc f_po f_co f_wc f_wo) H := hP
    have hD : va_D A (wwX2 q_pi q_ra q_rc q_po q_co q_wc q_wo k_ra k_rc k_po k_co k_wc k_wo pi_line pi_cycle pi_control pi_compareLine pi_ground pi_border pi_base pi_flag pi_enabled (1:Int32) pi_bad pi_glyphLine pi_rowToFetch f_ra f_rc f_po f_co f_wc f_wo) := hD
    refine lv_goto (tgt := 27) hx hb dX2_endGlyphLine_14 (by decide) ?_
    exact W.vret hx hb hr (fun t ht hW => ⟨⟨((1:Int32), pi_glyphLine), rfl, hF.symm, by rw [ht]; exact hP, va_K.moved hW.alike hK, hD⟩, hS.F ht⟩) hS.2.2 dX2_endGlyphLine_27
def fX2_beginCycle (pi_line : Int32) (pi_cycle : Int32) (pi_control : Int32) (pi_compareLine : Int32) (pi_ground : Int32) (pi_border : Int32) (pi_base : Int32) (pi_flag : Int32) (pi_idle : Int32) (pi_bad : Int32) (pi_glyphLine : Int32) (pi_rowToFetch : Int32) (f_ra : Nat → Int32) (f_rc : Nat → Int32) (f_po : Nat → Int32) (f_co : Nat → Int32) (f_wc : Nat → Int32) (f_wo : Nat → Int32) : Int32 × Int32 × Int32 × Int32 × Int32 × (Nat → Int32) × (Nat → Int32) × (Nat → Int32) :=
  if pi_cycle = (0:Int32) then
   match (fX2_beginLine pi_line pi_compareLine pi_flag pi_idle pi_rowToFetch) with
   | (pi_flag_8, pi_idle_8, pi_rowToFetch_8) =>
    (pi_flag_8, pi_idle_8, pi_bad, pi_glyphLine, pi_rowToFetch_8, f_po, f_wc, f_wo)
  else
   if pi_cycle = (3:Int32) then
    match (fX2_judgeLine pi_line pi_control pi_idle pi_glyphLine) with
    | (pi_idle_23, pi_bad_23, pi_glyphLine_23) =>
     (pi_flag, pi_idle_23, pi_bad_23, pi_glyphLine_23, pi_rowToFetch, f_po, f_wc, f_wo)
   else
    if pi_cycle < (6:Int32) then
     (pi_flag, pi_idle, pi_bad, pi_glyphLine, pi_rowToFetch, f_po, f_wc, f_wo)
    else
     if (13:Int32) < pi_cycle then
      if pi_cycle = (14:Int32) then
       if pi_bad = (0:Int32) then
        (pi_flag, pi_idle, pi_bad, pi_glyphLine, pi_rowToFetch, f_po, f_wc, f_wo)
       else
        (pi_flag, pi_idle, pi_bad, pi_glyphLine, ((pi_rowToFetch + (1:Int32)) - (pi_rowToFetch + (1:Int32)) / (3:Int32) * (3:Int32)), f_po, f_wc, f_wo)
      else
       if pi_cycle = (23:Int32) then
        if pi_idle = (0:Int32) then
         match (fX2_endGlyphLine pi_idle pi_glyphLine) with
         | (pi_idle_123, pi_glyphLine_123) =>
          (pi_flag, pi_idle_123, pi_bad, pi_glyphLine_123, pi_rowToFetch, f_po, f_wc, f_wo)
        else
         (pi_flag, pi_idle, pi_bad, pi_glyphLine, pi_rowToFetch, f_po, f_wc, f_wo)
       else
        (pi_flag, pi_idle, pi_bad, pi_glyphLine, pi_rowToFetch, f_po, f_wc, f_wo)
     else
      if pi_bad = (0:Int32) then
       (pi_flag, pi_idle, pi_bad, pi_glyphLine, pi_rowToFetch, (fX2_paintCell (pi_cycle - (6:Int32)) pi_line pi_control pi_ground pi_border pi_idle pi_glyphLine f_rc f_po f_wc f_wo), f_wc, f_wo)
      else
       match (fX2_fetchCell (pi_cycle - (6:Int32)) pi_base pi_rowToFetch f_ra f_co f_wc f_wo) with
       | (f_wc_64, f_wo_64) =>
        (pi_flag, pi_idle, pi_bad, pi_glyphLine, pi_rowToFetch, (fX2_paintCell (pi_cycle - (6:Int32)) pi_line pi_control pi_ground pi_border pi_idle pi_glyphLine f_rc f_po f_wc_64 f_wo_64), f_wc_64, f_wo_64)
set_option maxHeartbeats 4000000 in
set_option maxRecDepth 100000 in
theorem mX2_beginCycle (l : Launch) (dC : Nat → ClassId) (dI : Nat → Nat → Nat) (q_pi q_ra q_rc q_po q_co q_wc q_wo : Nat) (k_ra k_rc k_po k_co k_wc k_wo : ClassId) (sz : Nat) (pi_line pi_cycle pi_control pi_compareLine pi_ground pi_border pi_base pi_flag pi_enabled pi_idle pi_bad pi_glyphLine pi_rowToFetch : Int32) (f_ra f_rc f_po f_co f_wc f_wo : Nat → Int32) (hli : vp_in pi_line 40) (hb8 : vp_in pi_base 16) (hrf : vp_in pi_rowToFetch 3) (hgl : vp_in pi_glyphLine 8) : Met l yX2_beginCycle uX2_beginCycle ({ frames := 2, cells := 0, slots := 0, locals := 47 }) (va_Pc [.ref q_pi] (fun U => U.heap.size = sz ∧ va_P (dC, dI) vwCl (wwX2 q_pi q_ra q_rc q_po q_co q_wc q_wo k_ra k_rc k_po k_co k_wc k_wo pi_line pi_cycle pi_control pi_compareLine pi_ground pi_border pi_base pi_flag pi_enabled pi_idle pi_bad pi_glyphLine pi_rowToFetch f_ra f_rc f_po f_co f_wc f_wo) U.heap ∧ va_K (dC, dI) vwCl [(k_ra, .int), (k_rc, .int), (k_po, .int), (k_co, .int), (k_wc, .int), (k_wo, .int)] U ∧ va_D (fun _ => True) (wwX2 q_pi q_ra q_rc q_po q_co q_wc q_wo k_ra k_rc k_po k_co k_wc k_wo pi_line pi_cycle pi_control pi_compareLine pi_ground pi_border pi_base pi_flag pi_enabled pi_idle pi_bad pi_glyphLine pi_rowToFetch f_ra f_rc f_po f_co f_wc f_wo))) (va_Qv (fun (u : Int32 × Int32 × Int32 × Int32 × Int32 × (Nat → Int32) × (Nat → Int32) × (Nat → Int32)) => u = fX2_beginCycle pi_line pi_cycle pi_control pi_compareLine pi_ground pi_border pi_base pi_flag pi_idle pi_bad pi_glyphLine pi_rowToFetch f_ra f_rc f_po f_co f_wc f_wo) (fun (u : Int32 × Int32 × Int32 × Int32 × Int32 × (Nat → Int32) × (Nat → Int32) × (Nat → Int32)) (t : State) => va_P (dC, dI) vwCl (wwX2 q_pi q_ra q_rc q_po q_co q_wc q_wo k_ra k_rc k_po k_co k_wc k_wo pi_line pi_cycle pi_control pi_compareLine pi_ground pi_border pi_base u.1 pi_enabled u.2.1 u.2.2.1 u.2.2.2.1 u.2.2.2.2.1 f_ra f_rc u.2.2.2.2.2.1 f_co u.2.2.2.2.2.2.1 u.2.2.2.2.2.2.2) t.heap ∧ va_K (dC, dI) vwCl [(k_ra, .int), (k_rc, .int), (k_po, .int), (k_co, .int), (k_wc, .int), (k_wo, .int)] t ∧ va_D (va_A (wwX2 q_pi q_ra q_rc q_po q_co q_wc q_wo k_ra k_rc k_po k_co k_wc k_wo pi_line pi_cycle pi_control pi_compareLine pi_ground pi_border pi_base pi_flag pi_enabled pi_idle pi_bad pi_glyphLine pi_rowToFetch f_ra f_rc f_po f_co f_wc f_wo) sz) (wwX2 q_pi q_ra q_rc q_po q_co q_wc q_wo k_ra k_rc k_po k_co k_wc k_wo pi_line pi_cycle pi_control pi_compareLine pi_ground pi_border pi_base u.1 pi_enabled u.2.1 u.2.2.1 u.2.2.2.1 u.2.2.2.2.1 f_ra f_rc u.2.2.2.2.2.1 f_co u.2.2.2.2.2.2.1 u.2.2.2.2.2.2.2)) (va_A (wwX2 q_pi q_ra q_rc q_po q_co q_wc q_wo k_ra k_rc k_po k_co k_wc k_wo pi_line pi_cycle pi_control pi_compareLine pi_ground pi_border pi_base pi_flag pi_enabled pi_idle pi_bad pi_glyphLine pi_rowToFetch f_ra f_rc f_po f_co f_wc f_wo) sz)) 0 0 (va_A (wwX2 q_pi q_ra q_rc q_po q_co q_wc q_wo k_ra k_rc k_po k_co k_wc k_wo pi_line pi_cycle pi_control pi_compareLine pi_ground pi_border pi_base pi_flag pi_enabled pi_idle pi_bad pi_glyphLine pi_rowToFetch f_ra f_rc f_po f_co f_wc f_wo) sz) := by
  refine Met.ofW (cc := cX2_beginCycle) (maxL := 2) (ret := none) (by decide) rfl ?_
  intro p e s m args below meth c s₁ B hml hv
  obtain ⟨rfl, hsz, hP, hK, hD0⟩ := hv
  have hx := B.exec
  have hb := B.bytes
  have hr := B.returns
  have hts : ∀ w ∈ ub, w.before _ s = true := fun w h => atoms_spec (ws := uX2_beginCycle) B.pre w (List.mem_cons_of_mem _ h)
  have hown : s.vm.findClass RX2 = some m.cls := findClass_of_methodNamed B.named
  have hlocks := B.notSynchronized
  subst hsz
  have hD := hD0.self (sz := s.heap.size)
  generalize hAe : va_A (wwX2 q_pi q_ra q_rc q_po q_co q_wc q_wo k_ra k_rc k_po k_co k_wc k_wo pi_line pi_cycle pi_control pi_compareLine pi_ground pi_border pi_base pi_flag pi_enabled pi_idle pi_bad pi_glyphLine pi_rowToFetch f_ra f_rc f_po f_co f_wc f_wo) s.heap.size = A at hD ⊢
  have hA : ∀ q : Nat, s.heap.size ≤ q → A q := fun q h => by rw [← hAe]; exact Or.inr h
  have hS : va_S A s.heap s.heap [] := va_S.rf
  have hl := lv_entry ([.ref q_pi]) (n := 2) (Nat.le_of_ble_eq_true rfl)
  rw [lg_entry_eq]
  generalize (lg_sl ([.ref q_pi]) ++ List.replicate (2 - (lg_sl ([.ref q_pi])).length) Slot.unset).toArray = ls at hl ⊢
  have hl : lv_has ls 2 [(0, .ref q_pi)] := hl
  have hF := fX2_beginCycle.eq_1 pi_line pi_cycle pi_control pi_compareLine pi_ground pi_border pi_base pi_flag pi_idle pi_bad pi_glyphLine pi_rowToFetch f_ra f_rc f_po f_co f_wc f_wo
  refine lv_aload_n hx hb dX2_beginCycle_0 rfl (lv_at hl 0 rfl) ?_
  refine va_get (D := (dC, dI)) (ci := 2) (v := .int pi_cycle) (C := RX2) (T := TX2) (N := 19) hx hb hts hiX2 hown hK hP 0 rfl rfl 7 (by decide) (hts _ kFX2_32) (fun _ h9 => h9) rfl dX2_beginCycle_1 ?_
  refine lv_if_ne (tgt := 14) hx hb dX2_beginCycle_4 (by decide) (fun c_4 => ?_) (fun c_4 => ?_)
  · have hF := hF.trans (if_neg c_4)
    refine lv_aload_n hx hb dX2_beginCycle_14 rfl (lv_at hl 0 rfl) ?_
    refine va_get (D := (dC, dI)) (ci := 2) (v := .int pi_cycle) (C := RX2) (T := TX2) (N := 19) hx hb hts hiX2 hown hK hP 0 rfl rfl 7 (by decide) (hts _ kFX2_32) (fun _ h9 => h9) rfl dX2_beginCycle_15 ?_
    refine lv_iconst (v := 3) hx hb dX2_beginCycle_18 (by decide) ?_
    refine lv_icmp_ne (tgt := 29) hx hb dX2_beginCycle_19 (by decide) (fun c_19 => ?_) (fun c_19 => ?_)
    · have hF := hF.trans (if_neg c_19)
      refine lv_aload_n hx hb dX2_beginCycle_29 rfl (lv_at hl 0 rfl) ?_
      refine va_get (D := (dC, dI)) (ci := 2) (v := .int pi_cycle) (C := RX2) (T := TX2) (N := 19) hx hb hts hiX2 hown hK hP 0 rfl rfl 7 (by decide) (hts _ kFX2_32) (fun _ h9 => h9) rfl dX2_beginCycle_30 ?_
      refine lv_bipush (v := 6) hx hb dX2_beginCycle_33 (by decide) ?_
      refine lv_icmp_lt (tgt := 75) hx hb dX2_beginCycle_35 (by decide) (fun c_35 => ?_) (fun c_35 => ?_)
      · have hF := hF.trans (if_pos c_35)
        refine lv_aload_n hx hb dX2_beginCycle_75 rfl (lv_at hl 0 rfl) ?_
        refine va_get (D := (dC, dI)) (ci := 2) (v := .int pi_cycle) (C := RX2) (T := TX2) (N := 19) hx hb hts hiX2 hown hK hP 0 rfl rfl 7 (by decide) (hts _ kFX2_32) (fun _ h9 => h9) rfl dX2_beginCycle_76 ?_
        refine lv_bipush (v := 14) hx hb dX2_beginCycle_79 (by decide) ?_
        refine lv_icmp_ne (tgt := 106) hx hb dX2_beginCycle_81 (by decide) (fun c_81 => ?_) (fun c_81 => by exact (show False from by have h1 := congrArg Int32.toInt c_81; have h2 := Int32.lt_iff_toInt_lt.mp c_35; have k0 : (6:Int32).toInt = 6 := (by decide); have k1 : (14:Int32).toInt = 14 := (by decide); omega).elim)
        refine lv_aload_n hx hb dX2_beginCycle_106 rfl (lv_at hl 0 rfl) ?_
        refine va_get (D := (dC, dI)) (ci := 2) (v := .int pi_cycle) (C := RX2) (T := TX2) (N := 19) hx hb hts hiX2 hown hK hP 0 rfl rfl 7 (by decide) (hts _ kFX2_32) (fun _ h9 => h9) rfl dX2_beginCycle_107 ?_
        refine lv_bipush (v := 23) hx hb dX2_beginCycle_110 (by decide) ?_
        refine lv_icmp_ne (tgt := 126) hx hb dX2_beginCycle_112 (by decide) (fun c_112 => ?_) (fun c_112 => by exact (show False from by have h1 := congrArg Int32.toInt c_112; have h2 := Int32.lt_iff_toInt_lt.mp c_35; have k0 : (6:Int32).toInt = 6 := (by decide); have k1 : (23:Int32).toInt = 23 := (by decide); omega).elim)
        exact W.vret hx hb hr (fun t ht hW => ⟨⟨(pi_flag, pi_idle, pi_bad, pi_glyphLine, pi_rowToFetch, f_po, f_wc, f_wo), rfl, hF.symm, by rw [ht]; exact hP, va_K.moved hW.alike hK, hD⟩, hS.F ht⟩) hS.2.2 dX2_beginCycle_126
      · have hF := hF.trans (if_neg c_35)
        refine lv_aload_n hx hb dX2_beginCycle_38 rfl (lv_at hl 0 rfl) ?_
        refine va_get (D := (dC, dI)) (ci := 2) (v := .int pi_cycle) (C := RX2) (T := TX2) (N := 19) hx hb hts hiX2 hown hK hP 0 rfl rfl 7 (by decide) (hts _ kFX2_32) (fun _ h9 => h9) rfl dX2_beginCycle_39 ?_
        refine lv_bipush (v := 13) hx hb dX2_beginCycle_42 (by decide) ?_
        refine lv_icmp_gt (tgt := 75) hx hb dX2_beginCycle_44 (by decide) (fun c_44 => ?_) (fun c_44 => ?_)
        · have hF := hF.trans (if_pos c_44)
          refine lv_aload_n hx hb dX2_beginCycle_75 rfl (lv_at hl 0 rfl) ?_
          refine va_get (D := (dC, dI)) (ci := 2) (v := .int pi_cycle) (C := RX2) (T := TX2) (N := 19) hx hb hts hiX2 hown hK hP 0 rfl rfl 7 (by decide) (hts _ kFX2_32) (fun _ h9 => h9) rfl dX2_beginCycle_76 ?_
          refine lv_bipush (v := 14) hx hb dX2_beginCycle_79 (by decide) ?_
          refine lv_icmp_ne (tgt := 106) hx hb dX2_beginCycle_81 (by decide) (fun c_81 => ?_) (fun c_81 => ?_)
          · have hF := hF.trans (if_neg c_81)
            refine lv_aload_n hx hb dX2_beginCycle_106 rfl (lv_at hl 0 rfl) ?_
            refine va_get (D := (dC, dI)) (ci := 2) (v := .int pi_cycle) (C := RX2) (T := TX2) (N := 19) hx hb hts hiX2 hown hK hP 0 rfl rfl 7 (by decide) (hts _ kFX2_32) (fun _ h9 => h9) rfl dX2_beginCycle_107 ?_
            refine lv_bipush (v := 23) hx hb dX2_beginCycle_110 (by decide) ?_
            refine lv_icmp_ne (tgt := 126) hx hb dX2_beginCycle_112 (by decide) (fun c_112 => ?_) (fun c_112 => ?_)
            · have hF := hF.trans (if_neg c_112)
              exact W.vret hx hb hr (fun t ht hW => ⟨⟨(pi_flag, pi_idle, pi_bad, pi_glyphLine, pi_rowToFetch, f_po, f_wc, f_wo), rfl, hF.symm, by rw [ht]; exact hP, va_K.moved hW.alike hK, hD⟩, hS.F ht⟩) hS.2.2 dX2_beginCycle_126
            · have hF := hF.trans (if_pos c_112)
              refine lv_aload_n hx hb dX2_beginCycle_115 rfl (lv_at hl 0 rfl) ?_
              refine va_get (D := (dC, dI)) (ci := 2) (v := .int pi_idle) (C := RX2) (T := TX2) (N := 19) hx hb hts hiX2 hown hK hP 0 rfl rfl 15 (by decide) (hts _ kFX2_22) (fun _ h9 => h9) rfl dX2_beginCycle_116 ?_
              refine lv_if_ne (tgt := 126) hx hb dX2_beginCycle_119 (by decide) (fun c_119 => ?_) (fun c_119 => ?_)
              · have hF := hF.trans (if_neg c_119)
                exact W.vret hx hb hr (fun t ht hW => ⟨⟨(pi_flag, pi_idle, pi_bad, pi_glyphLine, pi_rowToFetch, f_po, f_wc, f_wo), rfl, hF.symm, by rw [ht]; exact hP, va_K.moved hW.alike hK, hD⟩, hS.F ht⟩) hS.2.2 dX2_beginCycle_126
              · have hF := hF.trans (if_pos c_119)
                refine lv_aload_n hx hb dX2_beginCycle_122 rfl (lv_at hl 0 rfl) ?_
                have hPc := hP.sub (ws' := (wwX2 q_pi q_ra q_rc q_po q_co q_wc q_wo k_ra k_rc k_po k_co k_wc k_wo pi_line pi_cycle pi_control pi_compareLine pi_ground pi_border pi_base pi_flag pi_enabled pi_idle pi_bad pi_glyphLine pi_rowToFetch f_ra f_rc f_po f_co f_wc f_wo)) [0, 1, 2, 3, 4, 5, 6] rfl
                have hDc := hD.sub (ws' := (wwX2 q_pi q_ra q_rc q_po q_co q_wc q_wo k_ra k_rc k_po k_co k_wc k_wo pi_line pi_cycle pi_control pi_compareLine pi_ground pi_border pi_base pi_flag pi_enabled pi_idle pi_bad pi_glyphLine pi_rowToFetch f_ra f_rc f_po f_co f_wc f_wo)) [0, 1, 2, 3, 4, 5, 6] (by decide) rfl
                have hKc := hK.sub (tys' := [(k_ra, .int), (k_rc, .int), (k_po, .int), (k_co, .int), (k_wc, .int), (k_wo, .int)]) [0, 1, 2, 3, 4, 5] rfl
                have hFc := va_free (wc := (wwX2 q_pi q_ra q_rc q_po q_co q_wc q_wo k_ra k_rc k_po k_co k_wc k_wo pi_line pi_cycle pi_control pi_compareLine pi_ground pi_border pi_base pi_flag pi_enabled pi_idle pi_bad pi_glyphLine pi_rowToFetch f_ra f_rc f_po f_co f_wc f_wo)) hD hS hA [0, 1, 2, 3, 4, 5, 6] rfl
                refine va_callv (va_runV (As := []) (rest := []) ⟨hx, hb, hml, hown, hts⟩ (mX2_endGlyphLine l dC dI q_pi q_ra q_rc q_po q_co q_wc q_wo k_ra k_rc k_po k_co k_wc k_wo s.heap.size pi_line pi_cycle pi_control pi_compareLine pi_ground pi_border pi_base pi_flag pi_enabled pi_idle pi_bad pi_glyphLine pi_rowToFetch f_ra f_rc f_po f_co f_wc f_wo) (cwV 0 hts (ub_V kMX2_55 kYX2_endGlyphLine kSX2_endGlyphLine kIX2 kBX2_endGlyphLine) rfl rfl rfl (by decide +kernel) ⟨Nat.le_of_ble_eq_true rfl, Nat.le_of_ble_eq_true rfl⟩) ⟨fun a U g mk q => by obtain ⟨q0, q1, qP, qK, qD⟩ := q; exact ⟨q0, q1, qP, va_K.moved (u := U) (U := U.calling g mk a) (Vm.Alike.refl U.vm) qK, qD⟩, va_recv hKc hPc (ci := 2) (q0 := 0) rfl rfl, fun U hU hW => ⟨rfl, by rw [hU], by rw [hU]; exact hPc, va_K.moved hW.alike hKc, hDc.weaken (fun _ _ _ _ => trivial)⟩⟩ rfl rfl hl.1 rfl (lv_room (Nat.le_of_ble_eq_true rfl)) dX2_beginCycle_123 ⟨(Nat.zero_le _), (Nat.zero_le _)⟩) hS (fun q _ h => hFc q h) hFc (fun u_123 t H locs ht hvm hw hB hz1 hk1 hS => ?_)
                obtain ⟨pi_idle_123, pi_glyphLine_123⟩ := u_123
                obtain ⟨hP1, hK1, hD1⟩ := hB
                rw [ht] at hP1
                obtain ⟨hP, hD⟩ := vb_back (wc := (wwX2 q_pi q_ra q_rc q_po q_co q_wc q_wo k_ra k_rc k_po k_co k_wc k_wo pi_line pi_cycle pi_control pi_compareLine pi_ground pi_border pi_base pi_flag pi_enabled pi_idle pi_bad pi_glyphLine pi_rowToFetch f_ra f_rc f_po f_co f_wc f_wo)) (ws' := (wwX2 q_pi q_ra q_rc q_po q_co q_wc q_wo k_ra k_rc k_po k_co k_wc k_wo pi_line pi_cycle pi_control pi_compareLine pi_ground pi_border pi_base pi_flag pi_enabled pi_idle_123 pi_bad pi_glyphLine_123 pi_rowToFetch f_ra f_rc f_po f_co f_wc f_wo)) hP hD hD1 [0, 1, 2, 3, 4, 5, 6] [] rfl rfl ae_n rfl rfl hk1 hP1
                rw [← hw] at hF
                dsimp only at hF
                exact W.vret hx hb hr (fun t ht hW => ⟨⟨(pi_flag, pi_idle_123, pi_bad, pi_glyphLine_123, pi_rowToFetch, f_po, f_wc, f_wo), rfl, hF.symm, by rw [ht]; exact hP, va_K.moved hW.alike hK, hD⟩, hS.F ht⟩) hS.2.2 dX2_beginCycle_126
          · have hF := hF.trans (if_pos c_81)
            refine lv_aload_n hx hb dX2_beginCycle_84 rfl (lv_at hl 0 rfl) ?_
            refine va_get (D := (dC, dI)) (ci := 2) (v := .int pi_bad) (C := RX2) (T := TX2) (N := 19) hx hb hts hiX2 hown hK hP 0 rfl rfl 16 (by decide) (hts _ kFX2_42) (fun _ h9 => h9) rfl dX2_beginCycle_85 ?_
            refine lv_if_eq (tgt := 106) hx hb dX2_beginCycle_88 (by decide) (fun c_88 => ?_) (fun c_88 => ?_)
            · have hF := hF.trans (if_pos c_88)
              refine lv_aload_n hx hb dX2_beginCycle_106 rfl (lv_at hl 0 rfl) ?_
              refine va_get (D := (dC, dI)) (ci := 2) (v := .int pi_cycle) (C := RX2) (T := TX2) (N := 19) hx hb hts hiX2 hown hK hP 0 rfl rfl 7 (by decide) (hts _ kFX2_32) (fun _ h9 => h9) rfl dX2_beginCycle_107 ?_
              refine lv_bipush (v := 23) hx hb dX2_beginCycle_110 (by decide) ?_
              refine lv_icmp_ne (tgt := 126) hx hb dX2_beginCycle_112 (by decide) (fun c_112 => ?_) (fun c_112 => by exact absurd c_112 (by rw [c_81]; decide))
              exact W.vret hx hb hr (fun t ht hW => ⟨⟨(pi_flag, pi_idle, pi_bad, pi_glyphLine, pi_rowToFetch, f_po, f_wc, f_wo), rfl, hF.symm, by rw [ht]; exact hP, va_K.moved hW.alike hK, hD⟩, hS.F ht⟩) hS.2.2 dX2_beginCycle_126
            · have hF := hF.trans (if_neg c_88)
              refine lv_aload_n hx hb dX2_beginCycle_91 rfl (lv_at hl 0 rfl) ?_
              refine lv_aload_n hx hb dX2_beginCycle_92 rfl (lv_at hl 0 rfl) ?_
              refine va_get (D := (dC, dI)) (ci := 2) (v := .int pi_rowToFetch) (C := RX2) (T := TX2) (N := 19) hx hb hts hiX2 hown hK hP 0 rfl rfl 18 (by decide) (hts _ kFX2_52) (fun _ h9 => h9) rfl dX2_beginCycle_93 ?_
              refine lv_iconst (v := 1) hx hb dX2_beginCycle_96 (by decide) ?_
              refine lv_iadd hx hb dX2_beginCycle_97 ?_
              refine lv_iconst (v := 3) hx hb dX2_beginCycle_98 (by decide) ?_
              refine lv_irem hx hb dX2_beginCycle_99 (by decide) ?_
              refine va_put (D := (dC, dI)) (ci := 2) (v := .int ((pi_rowToFetch + (1:Int32)) - (pi_rowToFetch + (1:Int32)) / (3:Int32) * (3:Int32))) (ty := .int) (C := RX2) (T := TX2) (N := 19) hx hb hts hiX2 tyX2 tyX2_ok nmX2 hown hK hP hD hS 0 rfl rfl 18 (by decide) (hts _ kFX2_52) (fun _ h9 => h9) rfl (by decide +kernel) rfl rfl (Nat.le_of_ble_eq_true rfl) dX2_beginCycle_100 (fun H locs hP hD hS => ?_)
              have hP : va_P (dC, dI) vwCl (wwX2 q_pi q_ra q_rc q_po q_co q_wc q_wo k_ra k_rc k_po k_co k_wc k_wo pi_line pi_cycle pi_control pi_compareLine pi_ground pi_border pi_base pi_flag pi_enabled pi_idle pi_bad pi_glyphLine ((pi_rowToFetch + (1:Int32)) - (pi_rowToFetch + (1:Int32)) / (3:Int32) * (3:Int32)) f_ra f_rc f_po f_co f_wc f_wo) H := hP
              have hD : va_D A (wwX2 q_pi q_ra q_rc q_po q_co q_wc q_wo k_ra k_rc k_po k_co k_wc k_wo pi_line pi_cycle pi_control pi_compareLine pi_ground pi_border pi_base pi_flag pi_enabled pi_idle pi_bad pi_glyphLine ((pi_rowToFetch + (1:Int32)) - (pi_rowToFetch + (1:Int32)) / (3:Int32) * (3:Int32)) f_ra f_rc f_po f_co f_wc f_wo) := hD
              refine lv_goto (tgt := 126) hx hb dX2_beginCycle_103 (by decide) ?_
              exact W.vret hx hb hr (fun t ht hW => ⟨⟨(pi_flag, pi_idle, pi_bad, pi_glyphLine, ((pi_rowToFetch + (1:Int32)) - (pi_rowToFetch + (1:Int32)) / (3:Int32) * (3:Int32)), f_po, f_wc, f_wo), rfl, hF.symm, by rw [ht]; exact hP, va_K.moved hW.alike hK, hD⟩, hS.F ht⟩) hS.2.2 dX2_beginCycle_126
        · have hF := hF.trans (if_neg c_44)
          refine lv_aload_n hx hb dX2_beginCycle_47 rfl (lv_at hl 0 rfl) ?_
          refine va_get (D := (dC, dI)) (ci := 2) (v := .int pi_cycle) (C := RX2) (T := TX2) (N := 19) hx hb hts hiX2 hown hK hP 0 rfl rfl 7 (by decide) (hts _ kFX2_32) (fun _ h9 => h9) rfl dX2_beginCycle_48 ?_
          refine lv_bipush (v := 6) hx hb dX2_beginCycle_51 (by decide) ?_
          refine lv_isub hx hb dX2_beginCycle_53 ?_
          refine lv_istore_n (lv' := [(1, .int (pi_cycle - (6:Int32))), (0, .ref q_pi)]) hx hb dX2_beginCycle_54 rfl hl (by decide) rfl (fun ls hl => ?_)
          refine lv_aload_n hx hb dX2_beginCycle_55 rfl (lv_at hl 1 rfl) ?_
          refine va_get (D := (dC, dI)) (ci := 2) (v := .int pi_bad) (C := RX2) (T := TX2) (N := 19) hx hb hts hiX2 hown hK hP 0 rfl rfl 16 (by decide) (hts _ kFX2_42) (fun _ h9 => h9) rfl dX2_beginCycle_56 ?_
          refine lv_if_eq (tgt := 67) hx hb dX2_beginCycle_59 (by decide) (fun c_59 => ?_) (fun c_59 => ?_)
          · have hF := hF.trans (if_pos c_59)
            refine lv_aload_n hx hb dX2_beginCycle_67 rfl (lv_at hl 1 rfl) ?_
            refine lv_iload_n hx hb dX2_beginCycle_68 rfl (lv_at hl 0 rfl) ?_
            have hPc := hP.sub (ws' := (wwX2 q_pi q_ra q_rc q_po q_co q_wc q_wo k_ra k_rc k_po k_co k_wc k_wo pi_line pi_cycle pi_control pi_compareLine pi_ground pi_border pi_base pi_flag pi_enabled pi_idle pi_bad pi_glyphLine pi_rowToFetch f_ra f_rc f_po f_co f_wc f_wo)) [0, 1, 2, 3, 4, 5, 6] rfl
            have hDc := hD.sub (ws' := (wwX2 q_pi q_ra q_rc q_po q_co q_wc q_wo k_ra k_rc k_po k_co k_wc k_wo pi_line pi_cycle pi_control pi_compareLine pi_ground pi_border pi_base pi_flag pi_enabled pi_idle pi_bad pi_glyphLine pi_rowToFetch f_ra f_rc f_po f_co f_wc f_wo)) [0, 1, 2, 3, 4, 5, 6] (by decide) rfl
            have hKc := hK.sub (tys' := [(k_ra, .int), (k_rc, .int), (k_po, .int), (k_co, .int), (k_wc, .int), (k_wo, .int)]) [0, 1, 2, 3, 4, 5] rfl
            have hFc := va_free (wc := (wwX2 q_pi q_ra q_rc q_po q_co q_wc q_wo k_ra k_rc k_po k_co k_wc k_wo pi_line pi_cycle pi_control pi_compareLine pi_ground pi_border pi_base pi_flag pi_enabled pi_idle pi_bad pi_glyphLine pi_rowToFetch f_ra f_rc f_po f_co f_wc f_wo)) hD hS hA [0, 1, 2, 3, 4, 5, 6] rfl
            refine va_callv (va_runV (As := [.int (pi_cycle - (6:Int32))]) (rest := []) ⟨hx, hb, hml, hown, hts⟩ (mX2_paintCell l dC dI q_pi q_ra q_rc q_po q_co q_wc q_wo k_ra k_rc k_po k_co k_wc k_wo s.heap.size pi_line pi_cycle pi_control pi_compareLine pi_ground pi_border pi_base pi_flag pi_enabled pi_idle pi_bad pi_glyphLine pi_rowToFetch f_ra f_rc f_po f_co f_wc f_wo (pi_cycle - (6:Int32)) (rg_offg 6 7 c_35 c_44 (by decide)) hli hgl) (cwV 1 hts (ub_V kMX2_49 kYX2_paintCell kSX2_paintCell kIX2 kBX2_paintCell) rfl rfl rfl (by decide +kernel) ⟨Nat.le_of_ble_eq_true rfl, Nat.le_of_ble_eq_true rfl⟩) ⟨fun a U g mk q => by obtain ⟨q0, q1, qP, qK, qD⟩ := q; exact ⟨q0, q1, qP, va_K.moved (u := U) (U := U.calling g mk a) (Vm.Alike.refl U.vm) qK, qD⟩, va_recv hKc hPc (ci := 2) (q0 := 0) rfl rfl, fun U hU hW => ⟨rfl, by rw [hU], by rw [hU]; exact hPc, va_K.moved hW.alike hKc, hDc.weaken (fun _ _ _ _ => trivial)⟩⟩ rfl rfl hl.1 rfl (lv_room (Nat.le_of_ble_eq_true rfl)) dX2_beginCycle_69 ⟨(Nat.zero_le _), (Nat.zero_le _)⟩) hS (fun q _ h => hFc q h) hFc (fun u_69 t H locs ht hvm hw hB hz1 hk1 hS => ?_)
            obtain ⟨hP1, hK1, hD1⟩ := hB
            rw [ht] at hP1
            subst hw
            obtain ⟨hP, hD⟩ := vb_back (wc := (wwX2 q_pi q_ra q_rc q_po q_co q_wc q_wo k_ra k_rc k_po k_co k_wc k_wo pi_line pi_cycle pi_control pi_compareLine pi_ground pi_border pi_base pi_flag pi_enabled pi_idle pi_bad pi_glyphLine pi_rowToFetch f_ra f_rc f_po f_co f_wc f_wo)) (ws' := (wwX2 q_pi q_ra q_rc q_po q_co q_wc q_wo k_ra k_rc k_po k_co k_wc k_wo pi_line pi_cycle pi_control pi_compareLine pi_ground pi_border pi_base pi_flag pi_enabled pi_idle pi_bad pi_glyphLine pi_rowToFetch f_ra f_rc (fX2_paintCell (pi_cycle - (6:Int32)) pi_line pi_control pi_ground pi_border pi_idle pi_glyphLine f_rc f_po f_wc f_wo) f_co f_wc f_wo)) hP hD hD1 [0, 1, 2, 3, 4, 5, 6] [] rfl rfl ae_n rfl rfl hk1 hP1
            refine lv_goto (tgt := 126) hx hb dX2_beginCycle_72 (by decide) ?_
            exact W.vret hx hb hr (fun t ht hW => ⟨⟨(pi_flag, pi_idle, pi_bad, pi_glyphLine, pi_rowToFetch, (fX2_paintCell (pi_cycle - (6:Int32)) pi_line pi_control pi_ground pi_border pi_idle pi_glyphLine f_rc f_po f_wc f_wo), f_wc, f_wo), rfl, hF.symm, by rw [ht]; exact hP, va_K.moved hW.alike hK, hD⟩, hS.F ht⟩) hS.2.2 dX2_beginCycle_126
          · have hF := hF.trans (if_neg c_59)
            refine lv_aload_n hx hb dX2_beginCycle_62 rfl (lv_at hl 1 rfl) ?_
            refine lv_iload_n hx hb dX2_beginCycle_63 rfl (lv_at hl 0 rfl) ?_
            have hPc := hP.sub (ws' := (wwX2 q_pi q_ra q_rc q_po q_co q_wc q_wo k_ra k_rc k_po k_co k_wc k_wo pi_line pi_cycle pi_control pi_compareLine pi_ground pi_border pi_base pi_flag pi_enabled pi_idle pi_bad pi_glyphLine pi_rowToFetch f_ra f_rc f_po f_co f_wc f_wo)) [0, 1, 2, 3, 4, 5, 6] rfl
            have hDc := hD.sub (ws' := (wwX2 q_pi q_ra q_rc q_po q_co q_wc q_wo k_ra k_rc k_po k_co k_wc k_wo pi_line pi_cycle pi_control pi_compareLine pi_ground pi_border pi_base pi_flag pi_enabled pi_idle pi_bad pi_glyphLine pi_rowToFetch f_ra f_rc f_po f_co f_wc f_wo)) [0, 1, 2, 3, 4, 5, 6] (by decide) rfl
            have hKc := hK.sub (tys' := [(k_ra, .int), (k_rc, .int), (k_po, .int), (k_co, .int), (k_wc, .int), (k_wo, .int)]) [0, 1, 2, 3, 4, 5] rfl
            have hFc := va_free (wc := (wwX2 q_pi q_ra q_rc q_po q_co q_wc q_wo k_ra k_rc k_po k_co k_wc k_wo pi_line pi_cycle pi_control pi_compareLine pi_ground pi_border pi_base pi_flag pi_enabled pi_idle pi_bad pi_glyphLine pi_rowToFetch f_ra f_rc f_po f_co f_wc f_wo)) hD hS hA [0, 1, 2, 3, 4, 5, 6] rfl
            refine va_callv (va_runV (As := [.int (pi_cycle - (6:Int32))]) (rest := []) ⟨hx, hb, hml, hown, hts⟩ (mX2_fetchCell l dC dI q_pi q_ra q_rc q_po q_co q_wc q_wo k_ra k_rc k_po k_co k_wc k_wo s.heap.size pi_line pi_cycle pi_control pi_compareLine pi_ground pi_border pi_base pi_flag pi_enabled pi_idle pi_bad pi_glyphLine pi_rowToFetch f_ra f_rc f_po f_co f_wc f_wo (pi_cycle - (6:Int32)) (rg_offg 6 7 c_35 c_44 (by decide)) hb8 hrf) (cwV 1 hts (ub_V kMX2_45 kYX2_fetchCell kSX2_fetchCell kIX2 kBX2_fetchCell) rfl rfl rfl (by decide +kernel) ⟨Nat.le_of_ble_eq_true rfl, Nat.le_of_ble_eq_true rfl⟩) ⟨fun a U g mk q => by obtain ⟨q0, q1, qP, qK, qD⟩ := q; exact ⟨q0, q1, qP, va_K.moved (u := U) (U := U.calling g mk a) (Vm.Alike.refl U.vm) qK, qD⟩, va_recv hKc hPc (ci := 2) (q0 := 0) rfl rfl, fun U hU hW => ⟨rfl, by rw [hU], by rw [hU]; exact hPc, va_K.moved hW.alike hKc, hDc.weaken (fun _ _ _ _ => trivial)⟩⟩ rfl rfl hl.1 rfl (lv_room (Nat.le_of_ble_eq_true rfl)) dX2_beginCycle_64 ⟨(Nat.zero_le _), (Nat.zero_le _)⟩) hS (fun q _ h => hFc q h) hFc (fun u_64 t H locs ht hvm hw hB hz1 hk1 hS => ?_)
            obtain ⟨f_wc_64, f_wo_64⟩ := u_64
            obtain ⟨hP1, hK1, hD1⟩ := hB
            rw [ht] at hP1
            obtain ⟨hP, hD⟩ := vb_back (wc := (wwX2 q_pi q_ra q_rc q_po q_co q_wc q_wo k_ra k_rc k_po k_co k_wc k_wo pi_line pi_cycle pi_control pi_compareLine pi_ground pi_border pi_base pi_flag pi_enabled pi_idle pi_bad pi_glyphLine pi_rowToFetch f_ra f_rc f_po f_co f_wc f_wo)) (ws' := (wwX2 q_pi q_ra q_rc q_po q_co q_wc q_wo k_ra k_rc k_po k_co k_wc k_wo pi_line pi_cycle pi_control pi_compareLine pi_ground pi_border pi_base pi_flag pi_enabled pi_idle pi_bad pi_glyphLine pi_rowToFetch f_ra f_rc f_po f_co f_wc_64 f_wo_64)) hP hD hD1 [0, 1, 2, 3, 4, 5, 6] [] rfl rfl ae_n rfl rfl hk1 hP1
            rw [← hw] at hF
            dsimp only at hF
            refine lv_aload_n hx hb dX2_beginCycle_67 rfl (lv_at hl 1 rfl) ?_
            refine lv_iload_n hx hb dX2_beginCycle_68 rfl (lv_at hl 0 rfl) ?_
            have hPc := hP.sub (ws' := (wwX2 q_pi q_ra q_rc q_po q_co q_wc q_wo k_ra k_rc k_po k_co k_wc k_wo pi_line pi_cycle pi_control pi_compareLine pi_ground pi_border pi_base pi_flag pi_enabled pi_idle pi_bad pi_glyphLine pi_rowToFetch f_ra f_rc f_po f_co f_wc_64 f_wo_64)) [0, 1, 2, 3, 4, 5, 6] rfl
            have hDc := hD.sub (ws' := (wwX2 q_pi q_ra q_rc q_po q_co q_wc q_wo k_ra k_rc k_po k_co k_wc k_wo pi_line pi_cycle pi_control pi_compareLine pi_ground pi_border pi_base pi_flag pi_enabled pi_idle pi_bad pi_glyphLine pi_rowToFetch f_ra f_rc f_po f_co f_wc_64 f_wo_64)) [0, 1, 2, 3, 4, 5, 6] (by decide) rfl
            have hKc := hK.sub (tys' := [(k_ra, .int), (k_rc, .int), (k_po, .int), (k_co, .int), (k_wc, .int), (k_wo, .int)]) [0, 1, 2, 3, 4, 5] rfl
            have hFc := va_free (wc := (wwX2 q_pi q_ra q_rc q_po q_co q_wc q_wo k_ra k_rc k_po k_co k_wc k_wo pi_line pi_cycle pi_control pi_compareLine pi_ground pi_border pi_base pi_flag pi_enabled pi_idle pi_bad pi_glyphLine pi_rowToFetch f_ra f_rc f_po f_co f_wc_64 f_wo_64)) hD hS hA [0, 1, 2, 3, 4, 5, 6] rfl
            refine va_callv (va_runV (As := [.int (pi_cycle - (6:Int32))]) (rest := []) ⟨hx, hb, hml, hown, hts⟩ (mX2_paintCell l dC dI q_pi q_ra q_rc q_po q_co q_wc q_wo k_ra k_rc k_po k_co k_wc k_wo H.size pi_line pi_cycle pi_control pi_compareLine pi_ground pi_border pi_base pi_flag pi_enabled pi_idle pi_bad pi_glyphLine pi_rowToFetch f_ra f_rc f_po f_co f_wc_64 f_wo_64 (pi_cycle - (6:Int32)) (rg_offg 6 7 c_35 c_44 (by decide)) hli hgl) (cwV 1 hts (ub_V kMX2_49 kYX2_paintCell kSX2_paintCell kIX2 kBX2_paintCell) rfl rfl rfl (by decide +kernel) ⟨Nat.le_of_ble_eq_true rfl, Nat.le_of_ble_eq_true rfl⟩) ⟨fun a U g mk q => by obtain ⟨q0, q1, qP, qK, qD⟩ := q; exact ⟨q0, q1, qP, va_K.moved (u := U) (U := U.calling g mk a) (Vm.Alike.refl U.vm) qK, qD⟩, va_recv hKc hPc (ci := 2) (q0 := 0) rfl rfl, fun U hU hW => ⟨rfl, by rw [hU], by rw [hU]; exact hPc, va_K.moved hW.alike hKc, hDc.weaken (fun _ _ _ _ => trivial)⟩⟩ rfl rfl hl.1 rfl (lv_room (Nat.le_of_ble_eq_true rfl)) dX2_beginCycle_69 ⟨(Nat.zero_le _), (Nat.zero_le _)⟩) hS (fun q _ h => hFc q h) hFc (fun u_69 t H locs ht hvm hw hB hz1 hk1 hS => ?_)
            obtain ⟨hP1, hK1, hD1⟩ := hB
            rw [ht] at hP1
            subst hw
            obtain ⟨hP, hD⟩ := vb_back (wc := (wwX2 q_pi q_ra q_rc q_po q_co q_wc q_wo k_ra k_rc k_po k_co k_wc k_wo pi_line pi_cycle pi_control pi_compareLine pi_ground pi_border pi_base pi_flag pi_enabled pi_idle pi_bad pi_glyphLine pi_rowToFetch f_ra f_rc f_po f_co f_wc_64 f_wo_64)) (ws' := (wwX2 q_pi q_ra q_rc q_po q_co q_wc q_wo k_ra k_rc k_po k_co k_wc k_wo pi_line pi_cycle pi_control pi_compareLine pi_ground pi_border pi_base pi_flag pi_enabled pi_idle pi_bad pi_glyphLine pi_rowToFetch f_ra f_rc (fX2_paintCell (pi_cycle - (6:Int32)) pi_line pi_control pi_ground pi_border pi_idle pi_glyphLine f_rc f_po f_wc_64 f_wo_64) f_co f_wc_64 f_wo_64)) hP hD hD1 [0, 1, 2, 3, 4, 5, 6] [] rfl rfl ae_n rfl rfl hk1 hP1
            refine lv_goto (tgt := 126) hx hb dX2_beginCycle_72 (by decide) ?_
            exact W.vret hx hb hr (fun t ht hW => ⟨⟨(pi_flag, pi_idle, pi_bad, pi_glyphLine, pi_rowToFetch, (fX2_paintCell (pi_cycle - (6:Int32)) pi_line pi_control pi_ground pi_border pi_idle pi_glyphLine f_rc f_po f_wc_64 f_wo_64), f_wc_64, f_wo_64), rfl, hF.symm, by rw [ht]; exact hP, va_K.moved hW.alike hK, hD⟩, hS.F ht⟩) hS.2.2 dX2_beginCycle_126
    · have hF := hF.trans (if_pos c_19)
      refine lv_aload_n hx hb dX2_beginCycle_22 rfl (lv_at hl 0 rfl) ?_
      have hPc := hP.sub (ws' := (wwX2 q_pi q_ra q_rc q_po q_co q_wc q_wo k_ra k_rc k_po k_co k_wc k_wo pi_line pi_cycle pi_control pi_compareLine pi_ground pi_border pi_base pi_flag pi_enabled pi_idle pi_bad pi_glyphLine pi_rowToFetch f_ra f_rc f_po f_co f_wc f_wo)) [0, 1, 2, 3, 4, 5, 6] rfl
      have hDc := hD.sub (ws' := (wwX2 q_pi q_ra q_rc q_po q_co q_wc q_wo k_ra k_rc k_po k_co k_wc k_wo pi_line pi_cycle pi_control pi_compareLine pi_ground pi_border pi_base pi_flag pi_enabled pi_idle pi_bad pi_glyphLine pi_rowToFetch f_ra f_rc f_po f_co f_wc f_wo)) [0, 1, 2, 3, 4, 5, 6] (by decide) rfl
      have hKc := hK.sub (tys' := [(k_ra, .int), (k_rc, .int), (k_po, .int), (k_co, .int), (k_wc, .int), (k_wo, .int)]) [0, 1, 2, 3, 4, 5] rfl
      have hFc := va_free (wc := (wwX2 q_pi q_ra q_rc q_po q_co q_wc q_wo k_ra k_rc k_po k_co k_wc k_wo pi_line pi_cycle pi_control pi_compareLine pi_ground pi_border pi_base pi_flag pi_enabled pi_idle pi_bad pi_glyphLine pi_rowToFetch f_ra f_rc f_po f_co f_wc f_wo)) hD hS hA [0, 1, 2, 3, 4, 5, 6] rfl
      refine va_callv (va_runV (As := []) (rest := []) ⟨hx, hb, hml, hown, hts⟩ (mX2_judgeLine l dC dI q_pi q_ra q_rc q_po q_co q_wc q_wo k_ra k_rc k_po k_co k_wc k_wo s.heap.size pi_line pi_cycle pi_control pi_compareLine pi_ground pi_border pi_base pi_flag pi_enabled pi_idle pi_bad pi_glyphLine pi_rowToFetch f_ra f_rc f_po f_co f_wc f_wo) (cwV 0 hts (ub_V kMX2_39 kYX2_judgeLine kSX2_judgeLine kIX2 kBX2_judgeLine) rfl rfl rfl (by decide +kernel) ⟨Nat.le_of_ble_eq_true rfl, Nat.le_of_ble_eq_true rfl⟩) ⟨fun a U g mk q => by obtain ⟨q0, q1, qP, qK, qD⟩ := q; exact ⟨q0, q1, qP, va_K.moved (u := U) (U := U.calling g mk a) (Vm.Alike.refl U.vm) qK, qD⟩, va_recv hKc hPc (ci := 2) (q0 := 0) rfl rfl, fun U hU hW => ⟨rfl, by rw [hU], by rw [hU]; exact hPc, va_K.moved hW.alike hKc, hDc.weaken (fun _ _ _ _ => trivial)⟩⟩ rfl rfl hl.1 rfl (lv_room (Nat.le_of_ble_eq_true rfl)) dX2_beginCycle_23 ⟨(Nat.zero_le _), (Nat.zero_le _)⟩) hS (fun q _ h => hFc q h) hFc (fun u_23 t H locs ht hvm hw hB hz1 hk1 hS => ?_)
      obtain ⟨pi_idle_23, pi_bad_23, pi_glyphLine_23⟩ := u_23
      obtain ⟨hP1, hK1, hD1⟩ := hB
      rw [ht] at hP1
      obtain ⟨hP, hD⟩ := vb_back (wc := (wwX2 q_pi q_ra q_rc q_po q_co q_wc q_wo k_ra k_rc k_po k_co k_wc k_wo pi_line pi_cycle pi_control pi_compareLine pi_ground pi_border pi_base pi_flag pi_enabled pi_idle pi_bad pi_glyphLine pi_rowToFetch f_ra f_rc f_po f_co f_wc f_wo)) (ws' := (wwX2 q_pi q_ra q_rc q_po q_co q_wc q_wo k_ra k_rc k_po k_co k_wc k_wo pi_line pi_cycle pi_control pi_compareLine pi_ground pi_border pi_base pi_flag pi_enabled pi_idle_23 pi_bad_23 pi_glyphLine_23 pi_rowToFetch f_ra f_rc f_po f_co f_wc f_wo)) hP hD hD1 [0, 1, 2, 3, 4, 5, 6] [] rfl rfl ae_n rfl rfl hk1 hP1
      rw [← hw] at hF
      dsimp only at hF
      refine lv_goto (tgt := 126) hx hb dX2_beginCycle_26 (by decide) ?_
      exact W.vret hx hb hr (fun t ht hW => ⟨⟨(pi_flag, pi_idle_23, pi_bad_23, pi_glyphLine_23, pi_rowToFetch, f_po, f_wc, f_wo), rfl, hF.symm, by rw [ht]; exact hP, va_K.moved hW.alike hK, hD⟩, hS.F ht⟩) hS.2.2 dX2_beginCycle_126
  · have hF := hF.trans (if_pos c_4)
    refine lv_aload_n hx hb dX2_beginCycle_7 rfl (lv_at hl 0 rfl) ?_
    have hPc := hP.sub (ws' := (wwX2 q_pi q_ra q_rc q_po q_co q_wc q_wo k_ra k_rc k_po k_co k_wc k_wo pi_line pi_cycle pi_control pi_compareLine pi_ground pi_border pi_base pi_flag pi_enabled pi_idle pi_bad pi_glyphLine pi_rowToFetch f_ra f_rc f_po f_co f_wc f_wo)) [0, 1, 2, 3, 4, 5, 6] rfl
    have hDc := hD.sub (ws' := (wwX2 q_pi q_ra q_rc q_po q_co q_wc q_wo k_ra k_rc k_po k_co k_wc k_wo pi_line pi_cycle pi_control pi_compareLine pi_ground pi_border pi_base pi_flag pi_enabled pi_idle pi_bad pi_glyphLine pi_rowToFetch f_ra f_rc f_po f_co f_wc f_wo)) [0, 1, 2, 3, 4, 5, 6] (by decide) rfl
    have hKc := hK.sub (tys' := [(k_ra, .int), (k_rc, .int), (k_po, .int), (k_co, .int), (k_wc, .int), (k_wo, .int)]) [0, 1, 2, 3, 4, 5] rfl
    have hFc := va_free (wc := (wwX2 q_pi q_ra q_rc q_po q_co q_wc q_wo k_ra k_rc k_po k_co k_wc k_wo pi_line pi_cycle pi_control pi_compareLine pi_ground pi_border pi_base pi_flag pi_enabled pi_idle pi_bad pi_glyphLine pi_rowToFetch f_ra f_rc f_po f_co f_wc f_wo)) hD hS hA [0, 1, 2, 3, 4, 5, 6] rfl
    refine va_callv (va_runV (As := []) (rest := []) ⟨hx, hb, hml, hown, hts⟩ (mX2_beginLine l dC dI q_pi q_ra q_rc q_po q_co q_wc q_wo k_ra k_rc k_po k_co k_wc k_wo s.heap.size pi_line pi_cycle pi_control pi_compareLine pi_ground pi_border pi_base pi_flag pi_enabled pi_idle pi_bad pi_glyphLine pi_rowToFetch f_ra f_rc f_po f_co f_wc f_wo) (cwV 0 hts (ub_V kMX2_36 kYX2_beginLine kSX2_beginLine kIX2 kBX2_beginLine) rfl rfl rfl (by decide +kernel) ⟨Nat.le_of_ble_eq_true rfl, Nat.le_of_ble_eq_true rfl⟩) ⟨fun a U g mk q => by obtain ⟨q0, q1, qP, qK, qD⟩ := q; exact ⟨q0, q1, qP, va_K.moved (u := U) (U := U.calling g mk a) (Vm.Alike.refl U.vm) qK, qD⟩, va_recv hKc hPc (ci := 2) (q0 := 0) rfl rfl, fun U hU hW => ⟨rfl, by rw [hU], by rw [hU]; exact hPc, va_K.moved hW.alike hKc, hDc.weaken (fun _ _ _ _ => trivial)⟩⟩ rfl rfl hl.1 rfl (lv_room (Nat.le_of_ble_eq_true rfl)) dX2_beginCycle_8 ⟨(Nat.zero_le _), (Nat.zero_le _)⟩) hS (fun q _ h => hFc q h) hFc (fun u_8 t H locs ht hvm hw hB hz1 hk1 hS => ?_)
    obtain ⟨pi_flag_8, pi_idle_8, pi_rowToFetch_8⟩ := u_8
    obtain ⟨hP1, hK1, hD1⟩ := hB
    rw [ht] at hP1
    obtain ⟨hP, hD⟩ := vb_back (wc := (wwX2 q_pi q_ra q_rc q_po q_co q_wc q_wo k_ra k_rc k_po k_co k_wc k_wo pi_line pi_cycle pi_control pi_compareLine pi_ground pi_border pi_base pi_flag pi_enabled pi_idle pi_bad pi_glyphLine pi_rowToFetch f_ra f_rc f_po f_co f_wc f_wo)) (ws' := (wwX2 q_pi q_ra q_rc q_po q_co q_wc q_wo k_ra k_rc k_po k_co k_wc k_wo pi_line pi_cycle pi_control pi_compareLine pi_ground pi_border pi_base pi_flag_8 pi_enabled pi_idle_8 pi_bad pi_glyphLine pi_rowToFetch_8 f_ra f_rc f_po f_co f_wc f_wo)) hP hD hD1 [0, 1, 2, 3, 4, 5, 6] [] rfl rfl ae_n rfl rfl hk1 hP1
    rw [← hw] at hF
    dsimp only at hF
    refine lv_goto (tgt := 126) hx hb dX2_beginCycle_11 (by decide) ?_
    exact W.vret hx hb hr (fun t ht hW => ⟨⟨(pi_flag_8, pi_idle_8, pi_bad, pi_glyphLine, pi_rowToFetch_8, f_po, f_wc, f_wo), rfl, hF.symm, by rw [ht]; exact hP, va_K.moved hW.alike hK, hD⟩, hS.F ht⟩) hS.2.2 dX2_beginCycle_126
def fX2_endCycle (pi_line : Int32) (pi_cycle : Int32) : Int32 × Int32 :=
  if (24:Int32) ≤ (pi_cycle + (1:Int32)) then
   if (pi_line + (1:Int32)) < (40:Int32) then
    ((pi_line + (1:Int32)), (0:Int32))
   else
    ((0:Int32), (0:Int32))
  else
   (pi_line, (pi_cycle + (1:Int32)))
set_option maxHeartbeats 4000000 in
set_option maxRecDepth 100000 in
theorem mX2_endCycle (l : Launch) (dC : Nat → ClassId) (dI : Nat → Nat → Nat) (q_pi q_ra q_rc q_po q_co q_wc q_wo : Nat) (k_ra k_rc k_po k_co k_wc k_wo : ClassId) (sz : Nat) (pi_line pi_cycle pi_control pi_compareLine pi_ground pi_border pi_base pi_flag pi_enabled pi_idle pi_bad pi_glyphLine pi_rowToFetch : Int32) (f_ra f_rc f_po f_co f_wc f_wo : Nat → Int32) : Met l yX2_endCycle uX2_endCycle ({ frames := 0, cells := 0, slots := 0, locals := 0 }) (va_Pc [.ref q_pi] (fun U => U.heap.size = sz ∧ va_P (dC, dI) vwCl (wwX2 q_pi q_ra q_rc q_po q_co q_wc q_wo k_ra k_rc k_po k_co k_wc k_wo pi_line pi_cycle pi_control pi_compareLine pi_ground pi_border pi_base pi_flag pi_enabled pi_idle pi_bad pi_glyphLine pi_rowToFetch f_ra f_rc f_po f_co f_wc f_wo) U.heap ∧ va_K (dC, dI) vwCl [(k_ra, .int), (k_rc, .int), (k_po, .int), (k_co, .int), (k_wc, .int), (k_wo, .int)] U ∧ va_D (fun _ => True) (wwX2 q_pi q_ra q_rc q_po q_co q_wc q_wo k_ra k_rc k_po k_co k_wc k_wo pi_line pi_cycle pi_control pi_compareLine pi_ground pi_border pi_base pi_flag pi_enabled pi_idle pi_bad pi_glyphLine pi_rowToFetch f_ra f_rc f_po f_co f_wc f_wo))) (va_Qv (fun (u : Int32 × Int32) => u = fX2_endCycle pi_line pi_cycle) (fun (u : Int32 × Int32) (t : State) => va_P (dC, dI) vwCl (wwX2 q_pi q_ra q_rc q_po q_co q_wc q_wo k_ra k_rc k_po k_co k_wc k_wo u.1 u.2 pi_control pi_compareLine pi_ground pi_border pi_base pi_flag pi_enabled pi_idle pi_bad pi_glyphLine pi_rowToFetch f_ra f_rc f_po f_co f_wc f_wo) t.heap ∧ va_K (dC, dI) vwCl [(k_ra, .int), (k_rc, .int), (k_po, .int), (k_co, .int), (k_wc, .int), (k_wo, .int)] t ∧ va_D (va_A (wwX2 q_pi q_ra q_rc q_po q_co q_wc q_wo k_ra k_rc k_po k_co k_wc k_wo pi_line pi_cycle pi_control pi_compareLine pi_ground pi_border pi_base pi_flag pi_enabled pi_idle pi_bad pi_glyphLine pi_rowToFetch f_ra f_rc f_po f_co f_wc f_wo) sz) (wwX2 q_pi q_ra q_rc q_po q_co q_wc q_wo k_ra k_rc k_po k_co k_wc k_wo u.1 u.2 pi_control pi_compareLine pi_ground pi_border pi_base pi_flag pi_enabled pi_idle pi_bad pi_glyphLine pi_rowToFetch f_ra f_rc f_po f_co f_wc f_wo)) (va_A (wwX2 q_pi q_ra q_rc q_po q_co q_wc q_wo k_ra k_rc k_po k_co k_wc k_wo pi_line pi_cycle pi_control pi_compareLine pi_ground pi_border pi_base pi_flag pi_enabled pi_idle pi_bad pi_glyphLine pi_rowToFetch f_ra f_rc f_po f_co f_wc f_wo) sz)) 0 0 (va_A (wwX2 q_pi q_ra q_rc q_po q_co q_wc q_wo k_ra k_rc k_po k_co k_wc k_wo pi_line pi_cycle pi_control pi_compareLine pi_ground pi_border pi_base pi_flag pi_enabled pi_idle pi_bad pi_glyphLine pi_rowToFetch f_ra f_rc f_po f_co f_wc f_wo) sz) := by
  refine Met.ofW (cc := cX2_endCycle) (maxL := 1) (ret := none) (by decide) rfl ?_
  intro p e s m args below meth c s₁ B hml hv
  obtain ⟨rfl, hsz, hP, hK, hD0⟩ := hv
  have hx := B.exec
  have hb := B.bytes
  have hr := B.returns
  have hts : ∀ w ∈ ub, w.before _ s = true := fun w h => atoms_spec (ws := uX2_endCycle) B.pre w (List.mem_cons_of_mem _ h)
  have hown : s.vm.findClass RX2 = some m.cls := findClass_of_methodNamed B.named
  have hlocks := B.notSynchronized
  subst hsz
  have hD := hD0.self (sz := s.heap.size)
  generalize hAe : va_A (wwX2 q_pi q_ra q_rc q_po q_co q_wc q_wo k_ra k_rc k_po k_co k_wc k_wo pi_line pi_cycle pi_control pi_compareLine pi_ground pi_border pi_base pi_flag pi_enabled pi_idle pi_bad pi_glyphLine pi_rowToFetch f_ra f_rc f_po f_co f_wc f_wo) s.heap.size = A at hD ⊢
  have hA : ∀ q : Nat, s.heap.size ≤ q → A q := fun q h => by rw [← hAe]; exact Or.inr h
  have hS : va_S A s.heap s.heap [] := va_S.rf
  have hl := lv_entry ([.ref q_pi]) (n := 1) (Nat.le_of_ble_eq_true rfl)
  rw [lg_entry_eq]
  generalize (lg_sl ([.ref q_pi]) ++ List.replicate (1 - (lg_sl ([.ref q_pi])).length) Slot.unset).toArray = ls at hl ⊢
  have hl : lv_has ls 1 [(0, .ref q_pi)] := hl
  have hF := fX2_endCycle.eq_1 pi_line pi_cycle
  refine lv_aload_n hx hb dX2_endCycle_0 rfl (lv_at hl 0 rfl) ?_
  refine lv_dup hx hb dX2_endCycle_1 rfl ?_
  refine va_get (D := (dC, dI)) (ci := 2) (v := .int pi_cycle) (C := RX2) (T := TX2) (N := 19) hx hb hts hiX2 hown hK hP 0 rfl rfl 7 (by decide) (hts _ kFX2_32) (fun _ h9 => h9) rfl dX2_endCycle_2 ?_
  refine lv_iconst (v := 1) hx hb dX2_endCycle_5 (by decide) ?_
  refine lv_iadd hx hb dX2_endCycle_6 ?_
  refine va_put (D := (dC, dI)) (ci := 2) (v := .int (pi_cycle + (1:Int32))) (ty := .int) (C := RX2) (T := TX2) (N := 19) hx hb hts hiX2 tyX2 tyX2_ok nmX2 hown hK hP hD hS 0 rfl rfl 7 (by decide) (hts _ kFX2_32) (fun _ h9 => h9) rfl (by decide +kernel) rfl rfl (Nat.le_of_ble_eq_true rfl) dX2_endCycle_7 (fun H locs hP hD hS => ?_)
  have hP : va_P (dC, dI) vwCl (wwX2 q_pi q_ra q_rc q_po q_co q_wc q_wo k_ra k_rc k_po k_co k_wc k_wo pi_line (pi_cycle + (1:Int32)) pi_control pi_compareLine pi_ground pi_border pi_base pi_flag pi_enabled pi_idle pi_bad pi_glyphLine pi_rowToFetch f_ra f_rc f_po f_co f_wc f_wo) H := hP
  have hD : va_D A (wwX2 q_pi q_ra q_rc q_po q_co q_wc q_wo k_ra k_rc k_po k_co k_wc k_wo pi_line (pi_cycle + (1:Int32)) pi_control pi_compareLine pi_ground pi_border pi_base pi_flag pi_enabled pi_idle pi_bad pi_glyphLine pi_rowToFetch f_ra f_rc f_po f_co f_wc f_wo) := hD
  refine lv_aload_n hx hb dX2_endCycle_10 rfl (lv_at hl 0 rfl) ?_
  refine va_get (D := (dC, dI)) (ci := 2) (v := .int (pi_cycle + (1:Int32))) (C := RX2) (T := TX2) (N := 19) hx hb hts hiX2 hown hK hP 0 rfl rfl 7 (by decide) (hts _ kFX2_32) (fun _ h9 => h9) rfl dX2_endCycle_11 ?_
  refine lv_bipush (v := 24) hx hb dX2_endCycle_14 (by decide) ?_
  refine lv_icmp_ge (tgt := 20) hx hb dX2_endCycle_16 (by decide) (fun c_16 => ?_) (fun c_16 => ?_)
  · have hF := hF.trans (if_pos c_16)
    refine lv_aload_n hx hb dX2_endCycle_20 rfl (lv_at hl 0 rfl) ?_
    refine lv_iconst (v := 0) hx hb dX2_endCycle_21 (by decide) ?_
    refine va_put (D := (dC, dI)) (ci := 2) (v := .int (0:Int32)) (ty := .int) (C := RX2) (T := TX2) (N := 19) hx hb hts hiX2 tyX2 tyX2_ok nmX2 hown hK hP hD hS 0 rfl rfl 7 (by decide) (hts _ kFX2_32) (fun _ h9 => h9) rfl (by decide +kernel) rfl rfl (Nat.le_of_ble_eq_true rfl) dX2_endCycle_22 (fun H locs hP hD hS => ?_)
    have hP : va_P (dC, dI) vwCl (wwX2 q_pi q_ra q_rc q_po q_co q_wc q_wo k_ra k_rc k_po k_co k_wc k_wo pi_line (0:Int32) pi_control pi_compareLine pi_ground pi_border pi_base pi_flag pi_enabled pi_idle pi_bad pi_glyphLine pi_rowToFetch f_ra f_rc f_po f_co f_wc f_wo) H := hP
    have hD : va_D A (wwX2 q_pi q_ra q_rc q_po q_co q_wc q_wo k_ra k_rc k_po k_co k_wc k_wo pi_line (0:Int32) pi_control pi_compareLine pi_ground pi_border pi_base pi_flag pi_enabled pi_idle pi_bad pi_glyphLine pi_rowToFetch f_ra f_rc f_po f_co f_wc f_wo) := hD
    refine lv_aload_n hx hb dX2_endCycle_25 rfl (lv_at hl 0 rfl) ?_
    refine lv_dup hx hb dX2_endCycle_26 rfl ?_
    refine va_get (D := (dC, dI)) (ci := 2) (v := .int pi_line) (C := RX2) (T := TX2) (N := 19) hx hb hts hiX2 hown hK hP 0 rfl rfl 6 (by decide) (hts _ kFX2_58) (fun _ h9 => h9) rfl dX2_endCycle_27 ?_
    refine lv_iconst (v := 1) hx hb dX2_endCycle_30 (by decide) ?_
    refine lv_iadd hx hb dX2_endCycle_31 ?_
    refine va_put (D := (dC, dI)) (ci := 2) (v := .int (pi_line + (1:Int32))) (ty := .int) (C := RX2) (T := TX2) (N := 19) hx hb hts hiX2 tyX2 tyX2_ok nmX2 hown hK hP hD hS 0 rfl rfl 6 (by decide) (hts _ kFX2_58) (fun _ h9 => h9) rfl (by decide +kernel) rfl rfl (Nat.le_of_ble_eq_true rfl) dX2_endCycle_32 (fun H locs hP hD hS => ?_)
    have hP : va_P (dC, dI) vwCl (wwX2 q_pi q_ra q_rc q_po q_co q_wc q_wo k_ra k_rc k_po k_co k_wc k_wo (pi_line + (1:Int32)) (0:Int32) pi_control pi_compareLine pi_ground pi_border pi_base pi_flag pi_enabled pi_idle pi_bad pi_glyphLine pi_rowToFetch f_ra f_rc f_po f_co f_wc f_wo) H := hP
    have hD : va_D A (wwX2 q_pi q_ra q_rc q_po q_co q_wc q_wo k_ra k_rc k_po k_co k_wc k_wo (pi_line + (1:Int32)) (0:Int32) pi_control pi_compareLine pi_ground pi_border pi_base pi_flag pi_enabled pi_idle pi_bad pi_glyphLine pi_rowToFetch f_ra f_rc f_po f_co f_wc f_wo) := hD
    refine lv_aload_n hx hb dX2_endCycle_35 rfl (lv_at hl 0 rfl) ?_
    refine va_get (D := (dC, dI)) (ci := 2) (v := .int (pi_line + (1:Int32))) (C := RX2) (T := TX2) (N := 19) hx hb hts hiX2 hown hK hP 0 rfl rfl 6 (by decide) (hts _ kFX2_58) (fun _ h9 => h9) rfl dX2_endCycle_36 ?_
    refine lv_bipush (v := 40) hx hb dX2_endCycle_39 (by decide) ?_
    refine lv_icmp_lt (tgt := 49) hx hb dX2_endCycle_41 (by decide) (fun c_41 => ?_) (fun c_41 => ?_)
    · have hF := hF.trans (if_pos c_41)
      exact W.vret hx hb hr (fun t ht hW => ⟨⟨((pi_line + (1:Int32)), (0:Int32)), rfl, hF.symm, by rw [ht]; exact hP, va_K.moved hW.alike hK, hD⟩, hS.F ht⟩) hS.2.2 dX2_endCycle_49
    · have hF := hF.trans (if_neg c_41)
      refine lv_aload_n hx hb dX2_endCycle_44 rfl (lv_at hl 0 rfl) ?_
      refine lv_iconst (v := 0) hx hb dX2_endCycle_45 (by decide) ?_
      refine va_put (D := (dC, dI)) (ci := 2) (v := .int (0:Int32)) (ty := .int) (C := RX2) (T := TX2) (N := 19) hx hb hts hiX2 tyX2 tyX2_ok nmX2 hown hK hP hD hS 0 rfl rfl 6 (by decide) (hts _ kFX2_58) (fun _ h9 => h9) rfl (by decide +kernel) rfl rfl (Nat.le_of_ble_eq_true rfl) dX2_endCycle_46 (fun H locs hP hD hS => ?_)
      have hP : va_P (dC, dI) vwCl (wwX2 q_pi q_ra q_rc q_po q_co q_wc q_wo k_ra k_rc k_po k_co k_wc k_wo (0:Int32) (0:Int32) pi_control pi_compareLine pi_ground pi_border pi_base pi_flag pi_enabled pi_idle pi_bad pi_glyphLine pi_rowToFetch f_ra f_rc f_po f_co f_wc f_wo) H := hP
      have hD : va_D A (wwX2 q_pi q_ra q_rc q_po q_co q_wc q_wo k_ra k_rc k_po k_co k_wc k_wo (0:Int32) (0:Int32) pi_control pi_compareLine pi_ground pi_border pi_base pi_flag pi_enabled pi_idle pi_bad pi_glyphLine pi_rowToFetch f_ra f_rc f_po f_co f_wc f_wo) := hD
      exact W.vret hx hb hr (fun t ht hW => ⟨⟨((0:Int32), (0:Int32)), rfl, hF.symm, by rw [ht]; exact hP, va_K.moved hW.alike hK, hD⟩, hS.F ht⟩) hS.2.2 dX2_endCycle_49
  · have hF := hF.trans (if_neg c_16)
    exact W.vret hx hb hr (fun t ht hW => ⟨⟨(pi_line, (pi_cycle + (1:Int32))), rfl, hF.symm, by rw [ht]; exact hP, va_K.moved hW.alike hK, hD⟩, hS.F ht⟩) hS.2.2 dX2_endCycle_19
def fX2_wantsBus (pi_cycle : Int32) (pi_bad : Int32) : Int32 :=
  (if pi_bad = (0:Int32) then (0:Int32) else (if pi_cycle < (3:Int32) then (0:Int32) else (if (13:Int32) < pi_cycle then (0:Int32) else (1:Int32))))
set_option maxHeartbeats 4000000 in
set_option maxRecDepth 100000 in
theorem mX2_wantsBus (l : Launch) (dC : Nat → ClassId) (dI : Nat → Nat → Nat) (q_pi q_ra q_rc q_po q_co q_wc q_wo : Nat) (k_ra k_rc k_po k_co k_wc k_wo : ClassId) (sz : Nat) (pi_line pi_cycle pi_control pi_compareLine pi_ground pi_border pi_base pi_flag pi_enabled pi_idle pi_bad pi_glyphLine pi_rowToFetch : Int32) (f_ra f_rc f_po f_co f_wc f_wo : Nat → Int32) : Met l yX2_wantsBus uX2_wantsBus ({ frames := 0, cells := 0, slots := 0, locals := 0 }) (va_Pc [.ref q_pi] (fun U => U.heap.size = sz ∧ va_P (dC, dI) vwCl (wwX2 q_pi q_ra q_rc q_po q_co q_wc q_wo k_ra k_rc k_po k_co k_wc k_wo pi_line pi_cycle pi_control pi_compareLine pi_ground pi_border pi_base pi_flag pi_enabled pi_idle pi_bad pi_glyphLine pi_rowToFetch f_ra f_rc f_po f_co f_wc f_wo) U.heap ∧ va_K (dC, dI) vwCl [(k_ra, .int), (k_rc, .int), (k_po, .int), (k_co, .int), (k_wc, .int), (k_wo, .int)] U ∧ va_D (fun _ => True) (wwX2 q_pi q_ra q_rc q_po q_co q_wc q_wo k_ra k_rc k_po k_co k_wc k_wo pi_line pi_cycle pi_control pi_compareLine pi_ground pi_border pi_base pi_flag pi_enabled pi_idle pi_bad pi_glyphLine pi_rowToFetch f_ra f_rc f_po f_co f_wc f_wo))) (va_Qi (fun (r : Int32) (u : Unit) => r = fX2_wantsBus pi_cycle pi_bad) (fun (u : Unit) (t : State) => va_P (dC, dI) vwCl (wwX2 q_pi q_ra q_rc q_po q_co q_wc q_wo k_ra k_rc k_po k_co k_wc k_wo pi_line pi_cycle pi_control pi_compareLine pi_ground pi_border pi_base pi_flag pi_enabled pi_idle pi_bad pi_glyphLine pi_rowToFetch f_ra f_rc f_po f_co f_wc f_wo) t.heap ∧ va_K (dC, dI) vwCl [(k_ra, .int), (k_rc, .int), (k_po, .int), (k_co, .int), (k_wc, .int), (k_wo, .int)] t ∧ va_D (va_A (wwX2 q_pi q_ra q_rc q_po q_co q_wc q_wo k_ra k_rc k_po k_co k_wc k_wo pi_line pi_cycle pi_control pi_compareLine pi_ground pi_border pi_base pi_flag pi_enabled pi_idle pi_bad pi_glyphLine pi_rowToFetch f_ra f_rc f_po f_co f_wc f_wo) sz) (wwX2 q_pi q_ra q_rc q_po q_co q_wc q_wo k_ra k_rc k_po k_co k_wc k_wo pi_line pi_cycle pi_control pi_compareLine pi_ground pi_border pi_base pi_flag pi_enabled pi_idle pi_bad pi_glyphLine pi_rowToFetch f_ra f_rc f_po f_co f_wc f_wo)) (va_A (wwX2 q_pi q_ra q_rc q_po q_co q_wc q_wo k_ra k_rc k_po k_co k_wc k_wo pi_line pi_cycle pi_control pi_compareLine pi_ground pi_border pi_base pi_flag pi_enabled pi_idle pi_bad pi_glyphLine pi_rowToFetch f_ra f_rc f_po f_co f_wc f_wo) sz)) 0 0 (va_A (wwX2 q_pi q_ra q_rc q_po q_co q_wc q_wo k_ra k_rc k_po k_co k_wc k_wo pi_line pi_cycle pi_control pi_compareLine pi_ground pi_border pi_base pi_flag pi_enabled pi_idle pi_bad pi_glyphLine pi_rowToFetch f_ra f_rc f_po f_co f_wc f_wo) sz) := by
  refine Met.ofW (cc := cX2_wantsBus) (maxL := 1) (ret := (some .boolean)) (by decide) rfl ?_
  intro p e s m args below meth c s₁ B hml hv
  obtain ⟨rfl, hsz, hP, hK, hD0⟩ := hv
  have hx := B.exec
  have hb := B.bytes
  have hr := B.returns
  have hts : ∀ w ∈ ub, w.before _ s = true := fun w h => atoms_spec (ws := uX2_wantsBus) B.pre w (List.mem_cons_of_mem _ h)
  have hown : s.vm.findClass RX2 = some m.cls := findClass_of_methodNamed B.named
  have hlocks := B.notSynchronized
  subst hsz
  have hD := hD0.self (sz := s.heap.size)
  generalize hAe : va_A (wwX2 q_pi q_ra q_rc q_po q_co q_wc q_wo k_ra k_rc k_po k_co k_wc k_wo pi_line pi_cycle pi_control pi_compareLine pi_ground pi_border pi_base pi_flag pi_enabled pi_idle pi_bad pi_glyphLine pi_rowToFetch f_ra f_rc f_po f_co f_wc f_wo) s.heap.size = A at hD ⊢
  have hA : ∀ q : Nat, s.heap.size ≤ q → A q := fun q h => by rw [← hAe]; exact Or.inr h
  have hS : va_S A s.heap s.heap [] := va_S.rf
  have hl := lv_entry ([.ref q_pi]) (n := 1) (Nat.le_of_ble_eq_true rfl)
  rw [lg_entry_eq]
  generalize (lg_sl ([.ref q_pi]) ++ List.replicate (1 - (lg_sl ([.ref q_pi])).length) Slot.unset).toArray = ls at hl ⊢
  have hl : lv_has ls 1 [(0, .ref q_pi)] := hl
  have hF := fX2_wantsBus.eq_1 pi_cycle pi_bad
  refine lv_aload_n hx hb dX2_wantsBus_0 rfl (lv_at hl 0 rfl) ?_
  refine va_get (D := (dC, dI)) (ci := 2) (v := .int pi_bad) (C := RX2) (T := TX2) (N := 19) hx hb hts hiX2 hown hK hP 0 rfl rfl 16 (by decide) (hts _ kFX2_42) (fun _ h9 => h9) rfl dX2_wantsBus_1 ?_
  refine vj_join (j := 29) (rest := []) (Hyp := fun z H locs => z = (if pi_bad = (0:Int32) then (0:Int32) else (if pi_cycle < (3:Int32) then (0:Int32) else (if (13:Int32) < pi_cycle then (0:Int32) else (1:Int32)))) ∧ va_P (dC, dI) vwCl (wwX2 q_pi q_ra q_rc q_po q_co q_wc q_wo k_ra k_rc k_po k_co k_wc k_wo pi_line pi_cycle pi_control pi_compareLine pi_ground pi_border pi_base pi_flag pi_enabled pi_idle pi_bad pi_glyphLine pi_rowToFetch f_ra f_rc f_po f_co f_wc f_wo) H ∧ va_S A s.heap H locs) (fun z H locs hh => ?_) (fun J29 => ?_)
  · obtain ⟨hz, hP, hS⟩ := hh
    subst hz
    exact W.zret (v := (if pi_bad = (0:Int32) then (0:Int32) else (if pi_cycle < (3:Int32) then (0:Int32) else (if (13:Int32) < pi_cycle then (0:Int32) else (1:Int32))))) hx hb hr (nb_if rfl (nb_if rfl (nb_if rfl rfl))) (fun t ht hW => ⟨⟨(if pi_bad = (0:Int32) then (0:Int32) else (if pi_cycle < (3:Int32) then (0:Int32) else (if (13:Int32) < pi_cycle then (0:Int32) else (1:Int32)))), (), rfl, hF.symm, by rw [ht]; exact hP, va_K.moved hW.alike hK, hD⟩, hS.F ht⟩) hS.2.2 dX2_wantsBus_29
  · refine lv_if_eq (tgt := 28) hx hb dX2_wantsBus_4 (by decide) (fun c_4 => ?_) (fun c_4 => ?_)
    · refine lv_iconst (v := 0) hx hb dX2_wantsBus_28 (by decide) ?_
      exact J29 _ _ _ ⟨by rw [if_pos c_4], hP, hS⟩
    · refine lv_aload_n hx hb dX2_wantsBus_7 rfl (lv_at hl 0 rfl) ?_
      refine va_get (D := (dC, dI)) (ci := 2) (v := .int pi_cycle) (C := RX2) (T := TX2) (N := 19) hx hb hts hiX2 hown hK hP 0 rfl rfl 7 (by decide) (hts _ kFX2_32) (fun _ h9 => h9) rfl dX2_wantsBus_8 ?_
      refine lv_iconst (v := 3) hx hb dX2_wantsBus_11 (by decide) ?_
      refine lv_icmp_lt (tgt := 28) hx hb dX2_wantsBus_12 (by decide) (fun c_12 => ?_) (fun c_12 => ?_)
      · refine lv_iconst (v := 0) hx hb dX2_wantsBus_28 (by decide) ?_
        exact J29 _ _ _ ⟨by rw [if_neg c_4, if_pos c_12], hP, hS⟩
      · refine lv_aload_n hx hb dX2_wantsBus_15 rfl (lv_at hl 0 rfl) ?_
        refine va_get (D := (dC, dI)) (ci := 2) (v := .int pi_cycle) (C := RX2) (T := TX2) (N := 19) hx hb hts hiX2 hown hK hP 0 rfl rfl 7 (by decide) (hts _ kFX2_32) (fun _ h9 => h9) rfl dX2_wantsBus_16 ?_
        refine lv_bipush (v := 13) hx hb dX2_wantsBus_19 (by decide) ?_
        refine lv_icmp_gt (tgt := 28) hx hb dX2_wantsBus_21 (by decide) (fun c_21 => ?_) (fun c_21 => ?_)
        · refine lv_iconst (v := 0) hx hb dX2_wantsBus_28 (by decide) ?_
          exact J29 _ _ _ ⟨by rw [if_neg c_4, if_neg c_12, if_pos c_21], hP, hS⟩
        · refine lv_iconst (v := 1) hx hb dX2_wantsBus_24 (by decide) ?_
          refine lv_goto (tgt := 29) hx hb dX2_wantsBus_25 (by decide) ?_
          exact J29 _ _ _ ⟨by rw [if_neg c_4, if_neg c_12, if_neg c_21], hP, hS⟩
def fX2_asksInterrupt (pi_flag : Int32) (pi_enabled : Int32) : Int32 :=
  (if pi_flag = (0:Int32) then (0:Int32) else (if pi_enabled = (0:Int32) then (0:Int32) else (1:Int32)))
set_option maxHeartbeats 4000000 in
set_option maxRecDepth 100000 in
theorem mX2_asksInterrupt (l : Launch) (dC : Nat → ClassId) (dI : Nat → Nat → Nat) (q_pi q_ra q_rc q_po q_co q_wc q_wo : Nat) (k_ra k_rc k_po k_co k_wc k_wo : ClassId) (sz : Nat) (pi_line pi_cycle pi_control pi_compareLine pi_ground pi_border pi_base pi_flag pi_enabled pi_idle pi_bad pi_glyphLine pi_rowToFetch : Int32) (f_ra f_rc f_po f_co f_wc f_wo : Nat → Int32) : Met l yX2_asksInterrupt uX2_asksInterrupt ({ frames := 0, cells := 0, slots := 0, locals := 0 }) (va_Pc [.ref q_pi] (fun U => U.heap.size = sz ∧ va_P (dC, dI) vwCl (wwX2 q_pi q_ra q_rc q_po q_co q_wc q_wo k_ra k_rc k_po k_co k_wc k_wo pi_line pi_cycle pi_control pi_compareLine pi_ground pi_border pi_base pi_flag pi_enabled pi_idle pi_bad pi_glyphLine pi_rowToFetch f_ra f_rc f_po f_co f_wc f_wo) U.heap ∧ va_K (dC, dI) vwCl [(k_ra, .int), (k_rc, .int), (k_po, .int), (k_co, .int), (k_wc, .int), (k_wo, .int)] U ∧ va_D (fun _ => True) (wwX2 q_pi q_ra q_rc q_po q_co q_wc q_wo k_ra k_rc k_po k_co k_wc k_wo pi_line pi_cycle pi_control pi_compareLine pi_ground pi_border pi_base pi_flag pi_enabled pi_idle pi_bad pi_glyphLine pi_rowToFetch f_ra f_rc f_po f_co f_wc f_wo))) (va_Qi (fun (r : Int32) (u : Unit) => r = fX2_asksInterrupt pi_flag pi_enabled) (fun (u : Unit) (t : State) => va_P (dC, dI) vwCl (wwX2 q_pi q_ra q_rc q_po q_co q_wc q_wo k_ra k_rc k_po k_co k_wc k_wo pi_line pi_cycle pi_control pi_compareLine pi_ground pi_border pi_base pi_flag pi_enabled pi_idle pi_bad pi_glyphLine pi_rowToFetch f_ra f_rc f_po f_co f_wc f_wo) t.heap ∧ va_K (dC, dI) vwCl [(k_ra, .int), (k_rc, .int), (k_po, .int), (k_co, .int), (k_wc, .int), (k_wo, .int)] t ∧ va_D (va_A (wwX2 q_pi q_ra q_rc q_po q_co q_wc q_wo k_ra k_rc k_po k_co k_wc k_wo pi_line pi_cycle pi_control pi_compareLine pi_ground pi_border pi_base pi_flag pi_enabled pi_idle pi_bad pi_glyphLine pi_rowToFetch f_ra f_rc f_po f_co f_wc f_wo) sz) (wwX2 q_pi q_ra q_rc q_po q_co q_wc q_wo k_ra k_rc k_po k_co k_wc k_wo pi_line pi_cycle pi_control pi_compareLine pi_ground pi_border pi_base pi_flag pi_enabled pi_idle pi_bad pi_glyphLine pi_rowToFetch f_ra f_rc f_po f_co f_wc f_wo)) (va_A (wwX2 q_pi q_ra q_rc q_po q_co q_wc q_wo k_ra k_rc k_po k_co k_wc k_wo pi_line pi_cycle pi_control pi_compareLine pi_ground pi_border pi_base pi_flag pi_enabled pi_idle pi_bad pi_glyphLine pi_rowToFetch f_ra f_rc f_po f_co f_wc f_wo) sz)) 0 0 (va_A (wwX2 q_pi q_ra q_rc q_po q_co q_wc q_wo k_ra k_rc k_po k_co k_wc k_wo pi_line pi_cycle pi_control pi_compareLine pi_ground pi_border pi_base pi_flag pi_enabled pi_idle pi_bad pi_glyphLine pi_rowToFetch f_ra f_rc f_po f_co f_wc f_wo) sz) := by
  refine Met.ofW (cc := cX2_asksInterrupt) (maxL := 1) (ret := (some .boolean)) (by decide) rfl ?_
  intro p e s m args below meth c s₁ B hml hv
  obtain ⟨rfl, hsz, hP, hK, hD0⟩ := hv
  have hx := B.exec
  have hb := B.bytes
  have hr := B.returns
  have hts : ∀ w ∈ ub, w.before _ s = true := fun w h => atoms_spec (ws := uX2_asksInterrupt) B.pre w (List.mem_cons_of_mem _ h)
  have hown : s.vm.findClass RX2 = some m.cls := findClass_of_methodNamed B.named
  have hlocks := B.notSynchronized
  subst hsz
  have hD := hD0.self (sz := s.heap.size)
  generalize hAe : va_A (wwX2 q_pi q_ra q_rc q_po q_co q_wc q_wo k_ra k_rc k_po k_co k_wc k_wo pi_line pi_cycle pi_control pi_compareLine pi_ground pi_border pi_base pi_flag pi_enabled pi_idle pi_bad pi_glyphLine pi_rowToFetch f_ra f_rc f_po f_co f_wc f_wo) s.heap.size = A at hD ⊢
  have hA : ∀ q : Nat, s.heap.size ≤ q → A q := fun q h => by rw [← hAe]; exact Or.inr h
  have hS : va_S A s.heap s.heap [] := va_S.rf
  have hl := lv_entry ([.ref q_pi]) (n := 1) (Nat.le_of_ble_eq_true rfl)
  rw [lg_entry_eq]
  generalize (lg_sl ([.ref q_pi]) ++ List.replicate (1 - (lg_sl ([.ref q_pi])).length) Slot.unset).toArray = ls at hl ⊢
  have hl : lv_has ls 1 [(0, .ref q_pi)] := hl
  have hF := fX2_asksInterrupt.eq_1 pi_flag pi_enabled
  refine lv_aload_n hx hb dX2_asksInterrupt_0 rfl (lv_at hl 0 rfl) ?_
  refine va_get (D := (dC, dI)) (ci := 2) (v := .int pi_flag) (C := RX2) (T := TX2) (N := 19) hx hb hts hiX2 hown hK hP 0 rfl rfl 13 (by decide) (hts _ kFX2_61) (fun _ h9 => h9) rfl dX2_asksInterrupt_1 ?_
  refine vj_join (j := 19) (rest := []) (Hyp := fun z H locs => z = (if pi_flag = (0:Int32) then (0:Int32) else (if pi_enabled = (0:Int32) then (0:Int32) else (1:Int32))) ∧ va_P (dC, dI) vwCl (wwX2 q_pi q_ra q_rc q_po q_co q_wc q_wo k_ra k_rc k_po k_co k_wc k_wo pi_line pi_cycle pi_control pi_compareLine pi_ground pi_border pi_base pi_flag pi_enabled pi_idle pi_bad pi_glyphLine pi_rowToFetch f_ra f_rc f_po f_co f_wc f_wo) H ∧ va_S A s.heap H locs) (fun z H locs hh => ?_) (fun J19 => ?_)
  · obtain ⟨hz, hP, hS⟩ := hh
    subst hz
    exact W.zret (v := (if pi_flag = (0:Int32) then (0:Int32) else (if pi_enabled = (0:Int32) then (0:Int32) else (1:Int32)))) hx hb hr (nb_if rfl (nb_if rfl rfl)) (fun t ht hW => ⟨⟨(if pi_flag = (0:Int32) then (0:Int32) else (if pi_enabled = (0:Int32) then (0:Int32) else (1:Int32))), (), rfl, hF.symm, by rw [ht]; exact hP, va_K.moved hW.alike hK, hD⟩, hS.F ht⟩) hS.2.2 dX2_asksInterrupt_19
  · refine lv_if_eq (tgt := 18) hx hb dX2_asksInterrupt_4 (by decide) (fun c_4 => ?_) (fun c_4 => ?_)
    · refine lv_iconst (v := 0) hx hb dX2_asksInterrupt_18 (by decide) ?_
      exact J19 _ _ _ ⟨by rw [if_pos c_4], hP, hS⟩
    · refine lv_aload_n hx hb dX2_asksInterrupt_7 rfl (lv_at hl 0 rfl) ?_
      refine va_get (D := (dC, dI)) (ci := 2) (v := .int pi_enabled) (C := RX2) (T := TX2) (N := 19) hx hb hts hiX2 hown hK hP 0 rfl rfl 14 (by decide) (hts _ kFX2_64) (fun _ h9 => h9) rfl dX2_asksInterrupt_8 ?_
      refine lv_if_eq (tgt := 18) hx hb dX2_asksInterrupt_11 (by decide) (fun c_11 => ?_) (fun c_11 => ?_)
      · refine lv_iconst (v := 0) hx hb dX2_asksInterrupt_18 (by decide) ?_
        exact J19 _ _ _ ⟨by rw [if_neg c_4, if_pos c_11], hP, hS⟩
      · refine lv_iconst (v := 1) hx hb dX2_asksInterrupt_14 (by decide) ?_
        refine lv_goto (tgt := 19) hx hb dX2_asksInterrupt_15 (by decide) ?_
        exact J19 _ _ _ ⟨by rw [if_neg c_4, if_neg c_11], hP, hS⟩
def fX3_word (p1 : Int32) (p2 : Int32) : Int32 :=
  ((p2 <<< ((8:Int32) &&& (31:Int32))) ||| p1)
set_option maxHeartbeats 4000000 in
set_option maxRecDepth 100000 in
theorem mX3_word (l : Launch) (dC : Nat → ClassId) (dI : Nat → Nat → Nat) (sz : Nat) (p1 p2 : Int32) : Met l yX3_word uX3_word ({ frames := 0, cells := 0, slots := 0, locals := 0 }) (va_Pc [.int p1, .int p2] (fun U => U.heap.size = sz ∧ va_P (dC, dI) vwCl ([] : va_W) U.heap ∧ va_K (dC, dI) vwCl [] U ∧ va_D (fun _ => True) ([] : va_W))) (va_Qi (fun (r : Int32) (u : Unit) => r = fX3_word p1 p2) (fun (u : Unit) (t : State) => va_P (dC, dI) vwCl ([] : va_W) t.heap ∧ va_K (dC, dI) vwCl [] t ∧ va_D (va_A ([] : va_W) sz) ([] : va_W)) (va_A ([] : va_W) sz)) 0 0 (va_A ([] : va_W) sz) := by
  refine Met.ofW (cc := cX3_word) (maxL := 2) (ret := (some .int)) (by decide) rfl ?_
  intro p e s m args below meth c s₁ B hml hv
  obtain ⟨rfl, hsz, hP, hK, hD0⟩ := hv
  have hx := B.exec
  have hb := B.bytes
  have hr := B.returns
  have hts : ∀ w ∈ ub, w.before _ s = true := fun w h => atoms_spec (ws := uX3_word) B.pre w (List.mem_cons_of_mem _ h)
  have hown : s.vm.findClass RX3 = some m.cls := findClass_of_methodNamed B.named
  have hlocks := B.notSynchronized
  subst hsz
  have hD := hD0.self (sz := s.heap.size)
  generalize hAe : va_A ([] : va_W) s.heap.size = A at hD ⊢
  have hA : ∀ q : Nat, s.heap.size ≤ q → A q := fun q h => by rw [← hAe]; exact Or.inr h
  have hS : va_S A s.heap s.heap [] := va_S.rf
  have hl := lv_entry ([.int p1, .int p2]) (n := 2) (Nat.le_of_ble_eq_true rfl)
  rw [lg_entry_eq]
  generalize (lg_sl ([.int p1, .int p2]) ++ List.replicate (2 - (lg_sl ([.int p1, .int p2])).length) Slot.unset).toArray = ls at hl ⊢
  have hl : lv_has ls 2 [(0, .int p1), (1, .int p2)] := hl
  have hF := fX3_word.eq_1 p1 p2
  refine lv_iload_n hx hb dX3_word_0 rfl (lv_at hl 1 rfl) ?_
  refine lv_bipush (v := 8) hx hb dX3_word_1 (by decide) ?_
  refine lv_ishl hx hb dX3_word_3 ?_
  refine lv_iload_n hx hb dX3_word_4 rfl (lv_at hl 0 rfl) ?_
  refine lv_ior hx hb dX3_word_5 ?_
  exact W.iret (v := ((p2 <<< ((8:Int32) &&& (31:Int32))) ||| p1)) hx hb hr (fun t ht hW => ⟨⟨((p2 <<< ((8:Int32) &&& (31:Int32))) ||| p1), (), rfl, hF.symm, by rw [ht]; exact hP, va_K.moved hW.alike hK, hD⟩, hS.F ht⟩) hS.2.2 dX3_word_6
def fX4_reset (p1 : Int32) : Int32 × Int32 × Int32 × Int32 × Int32 × Int32 :=
  ((0:Int32), (0:Int32), (0:Int32), (255:Int32), (4:Int32), p1)
set_option maxHeartbeats 4000000 in
set_option maxRecDepth 100000 in
theorem mX4_reset (l : Launch) (dC : Nat → ClassId) (dI : Nat → Nat → Nat) (q_rg : Nat) (sz : Nat) (rg_a rg_x rg_y rg_s rg_flags rg_p : Int32) (p1 : Int32) : Met l yX4_reset uX4_reset ({ frames := 0, cells := 0, slots := 0, locals := 0 }) (va_Pc [.ref q_rg, .int p1] (fun U => U.heap.size = sz ∧ va_P (dC, dI) vwCl (wwX4 q_rg rg_a rg_x rg_y rg_s rg_flags rg_p) U.heap ∧ va_K (dC, dI) vwCl [] U ∧ va_D (fun _ => True) (wwX4 q_rg rg_a rg_x rg_y rg_s rg_flags rg_p))) (va_Qv (fun (u : Int32 × Int32 × Int32 × Int32 × Int32 × Int32) => u = fX4_reset p1) (fun (u : Int32 × Int32 × Int32 × Int32 × Int32 × Int32) (t : State) => va_P (dC, dI) vwCl (wwX4 q_rg u.1 u.2.1 u.2.2.1 u.2.2.2.1 u.2.2.2.2.1 u.2.2.2.2.2) t.heap ∧ va_K (dC, dI) vwCl [] t ∧ va_D (va_A (wwX4 q_rg rg_a rg_x rg_y rg_s rg_flags rg_p) sz) (wwX4 q_rg u.1 u.2.1 u.2.2.1 u.2.2.2.1 u.2.2.2.2.1 u.2.2.2.2.2)) (va_A (wwX4 q_rg rg_a rg_x rg_y rg_s rg_flags rg_p) sz)) 0 0 (va_A (wwX4 q_rg rg_a rg_x rg_y rg_s rg_flags rg_p) sz) := by
  refine Met.ofW (cc := cX4_reset) (maxL := 2) (ret := none) (by decide) rfl ?_
  intro p e s m args below meth c s₁ B hml hv
  obtain ⟨rfl, hsz, hP, hK, hD0⟩ := hv
  have hx := B.exec
  have hb := B.bytes
  have hr := B.returns
  have hts : ∀ w ∈ ub, w.before _ s = true := fun w h => atoms_spec (ws := uX4_reset) B.pre w (List.mem_cons_of_mem _ h)
  have hown : s.vm.findClass RX4 = some m.cls := findClass_of_methodNamed B.named
  have hlocks := B.notSynchronized
  subst hsz
  have hD := hD0.self (sz := s.heap.size)
  generalize hAe : va_A (wwX4 q_rg rg_a rg_x rg_y rg_s rg_flags rg_p) s.heap.size = A at hD ⊢
  have hA : ∀ q : Nat, s.heap.size ≤ q → A q := fun q h => by rw [← hAe]; exact Or.inr h
  have hS : va_S A s.heap s.heap [] := va_S.rf
  have hl := lv_entry ([.ref q_rg, .int p1]) (n := 2) (Nat.le_of_ble_eq_true rfl)
  rw [lg_entry_eq]
  generalize (lg_sl ([.ref q_rg, .int p1]) ++ List.replicate (2 - (lg_sl ([.ref q_rg, .int p1])).length) Slot.unset).toArray = ls at hl ⊢
  have hl : lv_has ls 2 [(0, .ref q_rg), (1, .int p1)] := hl
  have hF := fX4_reset.eq_1 p1
  refine lv_aload_n hx hb dX4_reset_0 rfl (lv_at hl 0 rfl) ?_
  refine lv_iconst (v := 0) hx hb dX4_reset_1 (by decide) ?_
  refine va_put (D := (dC, dI)) (ci := 4) (v := .int (0:Int32)) (ty := .int) (C := RX4) (T := TX4) (N := 6) hx hb hts hiX4 tyX4 tyX4_ok nmX4 hown hK hP hD hS 0 rfl rfl 0 (by decide) (hts _ kFX4_16) (fun _ h9 => h9) rfl (by decide +kernel) rfl rfl (Nat.le_of_ble_eq_true rfl) dX4_reset_2 (fun H locs hP hD hS => ?_)
  have hP : va_P (dC, dI) vwCl (wwX4 q_rg (0:Int32) rg_x rg_y rg_s rg_flags rg_p) H := hP
  have hD : va_D A (wwX4 q_rg (0:Int32) rg_x rg_y rg_s rg_flags rg_p) := hD
  refine lv_aload_n hx hb dX4_reset_5 rfl (lv_at hl 0 rfl) ?_
  refine lv_iconst (v := 0) hx hb dX4_reset_6 (by decide) ?_
  refine va_put (D := (dC, dI)) (ci := 4) (v := .int (0:Int32)) (ty := .int) (C := RX4) (T := TX4) (N := 6) hx hb hts hiX4 tyX4 tyX4_ok nmX4 hown hK hP hD hS 0 rfl rfl 1 (by decide) (hts _ kFX4_19) (fun _ h9 => h9) rfl (by decide +kernel) rfl rfl (Nat.le_of_ble_eq_true rfl) dX4_reset_7 (fun H locs hP hD hS => ?_)
  have hP : va_P (dC, dI) vwCl (wwX4 q_rg (0:Int32) (0:Int32) rg_y rg_s rg_flags rg_p) H := hP
  have hD : va_D A (wwX4 q_rg (0:Int32) (0:Int32) rg_y rg_s rg_flags rg_p) := hD
  refine lv_aload_n hx hb dX4_reset_10 rfl (lv_at hl 0 rfl) ?_
  refine lv_iconst (v := 0) hx hb dX4_reset_11 (by decide) ?_
  refine va_put (D := (dC, dI)) (ci := 4) (v := .int (0:Int32)) (ty := .int) (C := RX4) (T := TX4) (N := 6) hx hb hts hiX4 tyX4 tyX4_ok nmX4 hown hK hP hD hS 0 rfl rfl 2 (by decide) (hts _ kFX4_22) (fun _ h9 => h9) rfl (by decide +kernel) rfl rfl (Nat.le_of_ble_eq_true rfl) dX4_reset_12 (fun H locs hP hD hS => ?_)
  have hP : va_P (dC, dI) vwCl (wwX4 q_rg (0:Int32) (0:Int32) (0:Int32) rg_s rg_flags rg_p) H := hP
  have hD : va_D A (wwX4 q_rg (0:Int32) (0:Int32) (0:Int32) rg_s rg_flags rg_p) := hD
  refine lv_aload_n hx hb dX4_reset_15 rfl (lv_at hl 0 rfl) ?_
  refine lv_sipush (v := 255) hx hb dX4_reset_16 (by decide) ?_
  refine va_put (D := (dC, dI)) (ci := 4) (v := .int (255:Int32)) (ty := .int) (C := RX4) (T := TX4) (N := 6) hx hb hts hiX4 tyX4 tyX4_ok nmX4 hown hK hP hD hS 0 rfl rfl 3 (by decide) (hts _ kFX4_9) (fun _ h9 => h9) rfl (by decide +kernel) rfl rfl (Nat.le_of_ble_eq_true rfl) dX4_reset_19 (fun H locs hP hD hS => ?_)
  have hP : va_P (dC, dI) vwCl (wwX4 q_rg (0:Int32) (0:Int32) (0:Int32) (255:Int32) rg_flags rg_p) H := hP
  have hD : va_D A (wwX4 q_rg (0:Int32) (0:Int32) (0:Int32) (255:Int32) rg_flags rg_p) := hD
  refine lv_aload_n hx hb dX4_reset_22 rfl (lv_at hl 0 rfl) ?_
  refine lv_iconst (v := 4) hx hb dX4_reset_23 (by decide) ?_
  refine va_put (D := (dC, dI)) (ci := 4) (v := .int (4:Int32)) (ty := .int) (C := RX4) (T := TX4) (N := 6) hx hb hts hiX4 tyX4 tyX4_ok nmX4 hown hK hP hD hS 0 rfl rfl 4 (by decide) (hts _ kFX4_13) (fun _ h9 => h9) rfl (by decide +kernel) rfl rfl (Nat.le_of_ble_eq_true rfl) dX4_reset_24 (fun H locs hP hD hS => ?_)
  have hP : va_P (dC, dI) vwCl (wwX4 q_rg (0:Int32) (0:Int32) (0:Int32) (255:Int32) (4:Int32) rg_p) H := hP
  have hD : va_D A (wwX4 q_rg (0:Int32) (0:Int32) (0:Int32) (255:Int32) (4:Int32) rg_p) := hD
  refine lv_aload_n hx hb dX4_reset_27 rfl (lv_at hl 0 rfl) ?_
  refine lv_iload_n hx hb dX4_reset_28 rfl (lv_at hl 1 rfl) ?_
  refine va_put (D := (dC, dI)) (ci := 4) (v := .int p1) (ty := .int) (C := RX4) (T := TX4) (N := 6) hx hb hts hiX4 tyX4 tyX4_ok nmX4 hown hK hP hD hS 0 rfl rfl 5 (by decide) (hts _ kFX4_25) (fun _ h9 => h9) rfl (by decide +kernel) rfl rfl (Nat.le_of_ble_eq_true rfl) dX4_reset_29 (fun H locs hP hD hS => ?_)
  have hP : va_P (dC, dI) vwCl (wwX4 q_rg (0:Int32) (0:Int32) (0:Int32) (255:Int32) (4:Int32) p1) H := hP
  have hD : va_D A (wwX4 q_rg (0:Int32) (0:Int32) (0:Int32) (255:Int32) (4:Int32) p1) := hD
  exact W.vret hx hb hr (fun t ht hW => ⟨⟨((0:Int32), (0:Int32), (0:Int32), (255:Int32), (4:Int32), p1), rfl, hF.symm, by rw [ht]; exact hP, va_K.moved hW.alike hK, hD⟩, hS.F ht⟩) hS.2.2 dX4_reset_32
