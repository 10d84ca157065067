def fX0_showsRegisters (p1 : Int32) (bu_port : Int32) : Int32 :=
  (if p1 < (6656:Int32) then (0:Int32) else (if (7168:Int32) ≤ p1 then (0:Int32) else (if (bu_port &&& (3:Int32)) = (0:Int32) then (0:Int32) else (if (bu_port &&& (4:Int32)) = (0:Int32) then (0:Int32) else (1:Int32)))))
set_option maxHeartbeats 4000000 in
set_option maxRecDepth 100000 in
theorem mX0_showsRegisters (l : Launch) (dC : Nat → ClassId) (dI : Nat → Nat → Nat) (q_bu q_ra q_rA q_rc q_rk q_pi q_po q_co q_wc q_wo q_ic q_ky q_ta q_tb : Nat) (k_ra k_rA k_rc k_rk k_po k_co k_wc k_wo k_ky : ClassId) (sz : Nat) (bu_port bu_latest pi_line pi_cycle pi_control pi_compareLine pi_ground pi_border pi_base pi_flag pi_enabled pi_idle pi_bad pi_glyphLine pi_rowToFetch ic_rows ic_keysSeen ic_flags ic_enabled ta_controlBits ta_control ta_count ta_latch tb_controlBits tb_control tb_count tb_latch : Int32) (f_ra f_rA f_rc f_rk f_po f_co f_wc f_wo f_ky : Nat → Int32) (p1 : Int32) : Met l yX0_showsRegisters uX0_showsRegisters ({ frames := 0, cells := 0, slots := 0, locals := 0 }) (va_Pc [.ref q_bu, .int p1] (fun U => U.heap.size = sz ∧ va_P (dC, dI) vwCl (wwX0 q_bu q_ra q_rA q_rc q_rk q_pi q_po q_co q_wc q_wo q_ic q_ky q_ta q_tb k_ra k_rA k_rc k_rk k_po k_co k_wc k_wo k_ky bu_port bu_latest pi_line pi_cycle pi_control pi_compareLine pi_ground pi_border pi_base pi_flag pi_enabled pi_idle pi_bad pi_glyphLine pi_rowToFetch ic_rows ic_keysSeen ic_flags ic_enabled ta_controlBits ta_control ta_count ta_latch tb_controlBits tb_control tb_count tb_latch f_ra f_rA f_rc f_rk f_po f_co f_wc f_wo f_ky) U.heap ∧ va_K (dC, dI) vwCl [(k_ra, .int), (k_rA, .int), (k_rc, .int), (k_rk, .int), (k_po, .int), (k_co, .int), (k_wc, .int), (k_wo, .int), (k_ky, .int)] U ∧ va_D (fun _ => True) (wwX0 q_bu q_ra q_rA q_rc q_rk q_pi q_po q_co q_wc q_wo q_ic q_ky q_ta q_tb k_ra k_rA k_rc k_rk k_po k_co k_wc k_wo k_ky bu_port bu_latest pi_line pi_cycle pi_control pi_compareLine pi_ground pi_border pi_base pi_flag pi_enabled pi_idle pi_bad pi_glyphLine pi_rowToFetch ic_rows ic_keysSeen ic_flags ic_enabled ta_controlBits ta_control ta_count ta_latch tb_controlBits tb_control tb_count tb_latch f_ra f_rA f_rc f_rk f_po f_co f_wc f_wo f_ky))) (va_Qi (fun (r : Int32) (u : Unit) => r = fX0_showsRegisters p1 bu_port) (fun (u : Unit) (t : State) => va_P (dC, dI) vwCl (wwX0 q_bu q_ra q_rA q_rc q_rk q_pi q_po q_co q_wc q_wo q_ic q_ky q_ta q_tb k_ra k_rA k_rc k_rk k_po k_co k_wc k_wo k_ky bu_port bu_latest pi_line pi_cycle pi_control pi_compareLine pi_ground pi_border pi_base pi_flag pi_enabled pi_idle pi_bad pi_glyphLine pi_rowToFetch ic_rows ic_keysSeen ic_flags ic_enabled ta_controlBits ta_control ta_count ta_latch tb_controlBits tb_control tb_count tb_latch f_ra f_rA f_rc f_rk f_po f_co f_wc f_wo f_ky) t.heap ∧ va_K (dC, dI) vwCl [(k_ra, .int), (k_rA, .int), (k_rc, .int), (k_rk, .int), (k_po, .int), (k_co, .int), (k_wc, .int), (k_wo, .int), (k_ky, .int)] t ∧ va_D (va_A (wwX0 q_bu q_ra q_rA q_rc q_rk q_pi q_po q_co q_wc q_wo q_ic q_ky q_ta q_tb k_ra k_rA k_rc k_rk k_po k_co k_wc k_wo k_ky bu_port bu_latest pi_line pi_cycle pi_control pi_compareLine pi_ground pi_border pi_base pi_flag pi_enabled pi_idle pi_bad pi_glyphLine pi_rowToFetch ic_rows ic_keysSeen ic_flags ic_enabled ta_controlBits ta_control ta_count ta_latch tb_controlBits tb_control tb_count tb_latch f_ra f_rA f_rc f_rk f_po f_co f_wc f_wo f_ky) sz) (wwX0 q_bu q_ra q_rA q_rc q_rk q_pi q_po q_co q_wc q_wo q_ic q_ky q_ta q_tb k_ra k_rA k_rc k_rk k_po k_co k_wc k_wo k_ky bu_port bu_latest pi_line pi_cycle pi_control pi_compareLine pi_ground pi_border pi_base pi_flag pi_enabled pi_idle pi_bad pi_glyphLine pi_rowToFetch ic_rows ic_keysSeen ic_flags ic_enabled ta_controlBits ta_control ta_count ta_latch tb_controlBits tb_control tb_count tb_latch f_ra f_rA f_rc f_rk f_po f_co f_wc f_wo f_ky)) (va_A (wwX0 q_bu q_ra q_rA q_rc q_rk q_pi q_po q_co q_wc q_wo q_ic q_ky q_ta q_tb k_ra k_rA k_rc k_rk k_po k_co k_wc k_wo k_ky bu_port bu_latest pi_line pi_cycle pi_control pi_compareLine pi_ground pi_border pi_base pi_flag pi_enabled pi_idle pi_bad pi_glyphLine pi_rowToFetch ic_rows ic_keysSeen ic_flags ic_enabled ta_controlBits ta_control ta_count ta_latch tb_controlBits tb_control tb_count tb_latch f_ra f_rA f_rc f_rk f_po f_co f_wc f_wo f_ky) sz)) 0 0 (va_A (wwX0 q_bu q_ra q_rA q_rc q_rk q_pi q_po q_co q_wc q_wo q_ic q_ky q_ta q_tb k_ra k_rA k_rc k_rk k_po k_co k_wc k_wo k_ky bu_port bu_latest pi_line pi_cycle pi_control pi_compareLine pi_ground pi_border pi_base pi_flag pi_enabled pi_idle pi_bad pi_glyphLine pi_rowToFetch ic_rows ic_keysSeen ic_flags ic_enabled ta_controlBits ta_control ta_count ta_latch tb_controlBits tb_control tb_count tb_latch f_ra f_rA f_rc f_rk f_po f_co f_wc f_wo f_ky) sz) := by
  refine Met.ofW (cc := cX0_showsRegisters) (maxL := 2) (ret := (some .boolean)) (by decide) rfl ?_
  intro p e s m args below meth c s₁ B hml hv
  obtain ⟨rfl, hsz, hP, hK, hD0⟩ := hv
  have hx := B.exec
  have hb := B.bytes
  have hr := B.returns
  have hts : ∀ w ∈ ub, w.before _ s = true := fun w h => atoms_spec (ws := uX0_showsRegisters) B.pre w (List.mem_cons_of_mem _ h)
  have hown : s.vm.findClass RX0 = some m.cls := findClass_of_methodNamed B.named
  have hlocks := B.notSynchronized
  subst hsz
  have hD := hD0.self (sz := s.heap.size)
  generalize hAe : va_A (wwX0 q_bu q_ra q_rA q_rc q_rk q_pi q_po q_co q_wc q_wo q_ic q_ky q_ta q_tb k_ra k_rA k_rc k_rk k_po k_co k_wc k_wo k_ky bu_port bu_latest pi_line pi_cycle pi_control pi_compareLine pi_ground pi_border pi_base pi_flag pi_enabled pi_idle pi_bad pi_glyphLine pi_rowToFetch ic_rows ic_keysSeen ic_flags ic_enabled ta_controlBits ta_control ta_count ta_latch tb_controlBits tb_control tb_count tb_latch f_ra f_rA f_rc f_rk f_po f_co f_wc f_wo f_ky) s.heap.size = A at hD ⊢
  have hA : ∀ q : Nat, s.heap.size ≤ q → A q := fun q h => by rw [← hAe]; exact Or.inr h
  have hS : va_S A s.heap s.heap [] := va_S.rf
  have hl := lv_entry ([.ref q_bu, .int p1]) (n := 2) (Nat.le_of_ble_eq_true rfl)
  rw [lg_entry_eq]
  generalize (lg_sl ([.ref q_bu, .int p1]) ++ List.replicate (2 - (lg_sl ([.ref q_bu, .int p1])).length) Slot.unset).toArray = ls at hl ⊢
  have hl : lv_has ls 2 [(0, .ref q_bu), (1, .int p1)] := hl
  have hF := fX0_showsRegisters.eq_1 p1 bu_port
  refine lv_iload_n hx hb dX0_showsRegisters_0 rfl (lv_at hl 1 rfl) ?_
  refine lv_sipush (v := 6656) hx hb dX0_showsRegisters_1 (by decide) ?_
  refine vj_join (j := 37) (rest := []) (Hyp := fun z H locs => z = (if p1 < (6656:Int32) then (0:Int32) else (if (7168:Int32) ≤ p1 then (0:Int32) else (if (bu_port &&& (3:Int32)) = (0:Int32) then (0:Int32) else (if (bu_port &&& (4:Int32)) = (0:Int32) then (0:Int32) else (1:Int32))))) ∧ va_P (dC, dI) vwCl (wwX0 q_bu q_ra q_rA q_rc q_rk q_pi q_po q_co q_wc q_wo q_ic q_ky q_ta q_tb k_ra k_rA k_rc k_rk k_po k_co k_wc k_wo k_ky bu_port bu_latest pi_line pi_cycle pi_control pi_compareLine pi_ground pi_border pi_base pi_flag pi_enabled pi_idle pi_bad pi_glyphLine pi_rowToFetch ic_rows ic_keysSeen ic_flags ic_enabled ta_controlBits ta_control ta_count ta_latch tb_controlBits tb_control tb_count tb_latch f_ra f_rA f_rc f_rk f_po f_co f_wc f_wo f_ky) H ∧ va_S A s.heap H locs) (fun z H locs hh => ?_) (fun J37 => ?_)
  · obtain ⟨hz, hP, hS⟩ := hh
    subst hz
    exact W.zret (v := (if p1 < (6656:Int32) then (0:Int32) else (if (7168:Int32) ≤ p1 then (0:Int32) else (if (bu_port &&& (3:Int32)) = (0:Int32) then (0:Int32) else (if (bu_port &&& (4:Int32)) = (0:Int32) then (0:Int32) else (1:Int32)))))) hx hb hr (nb_if rfl (nb_if rfl (nb_if rfl (nb_if rfl rfl)))) (fun t ht hW => ⟨⟨(if p1 < (6656:Int32) then (0:Int32) else (if (7168:Int32) ≤ p1 then (0:Int32) else (if (bu_port &&& (3:Int32)) = (0:Int32) then (0:Int32) else (if (bu_port &&& (4:Int32)) = (0:Int32) then (0:Int32) else (1:Int32))))), (), rfl, hF.symm, by rw [ht]; exact hP, va_K.moved hW.alike hK, hD⟩, hS.F ht⟩) hS.2.2 dX0_showsRegisters_37
  · refine lv_icmp_lt (tgt := 36) hx hb dX0_showsRegisters_4 (by decide) (fun c_4 => ?_) (fun c_4 => ?_)
    · refine lv_iconst (v := 0) hx hb dX0_showsRegisters_36 (by decide) ?_
      exact J37 _ _ _ ⟨by rw [if_pos c_4], hP, hS⟩
    · refine lv_iload_n hx hb dX0_showsRegisters_7 rfl (lv_at hl 1 rfl) ?_
      refine lv_sipush (v := 7168) hx hb dX0_showsRegisters_8 (by decide) ?_
      refine lv_icmp_ge (tgt := 36) hx hb dX0_showsRegisters_11 (by decide) (fun c_11 => ?_) (fun c_11 => ?_)
      · refine lv_iconst (v := 0) hx hb dX0_showsRegisters_36 (by decide) ?_
        exact J37 _ _ _ ⟨by rw [if_neg c_4, if_pos c_11], hP, hS⟩
      · refine lv_aload_n hx hb dX0_showsRegisters_14 rfl (lv_at hl 0 rfl) ?_
        refine va_get (D := (dC, dI)) (ci := 0) (v := .int bu_port) (C := RX0) (T := TX0) (N := 8) hx hb hts hiX0 hown hK hP 0 rfl rfl 6 (by decide) (hts _ kFX0_11) (fun _ h9 => h9) rfl dX0_showsRegisters_15 ?_
        refine lv_iconst (v := 3) hx hb dX0_showsRegisters_18 (by decide) ?_
        refine lv_iand hx hb dX0_showsRegisters_19 ?_
        refine lv_if_eq (tgt := 36) hx hb dX0_showsRegisters_20 (by decide) (fun c_20 => ?_) (fun c_20 => ?_)
        · refine lv_iconst (v := 0) hx hb dX0_showsRegisters_36 (by decide) ?_
          exact J37 _ _ _ ⟨by rw [if_neg c_4, if_neg c_11, if_pos c_20], hP, hS⟩
        · refine lv_aload_n hx hb dX0_showsRegisters_23 rfl (lv_at hl 0 rfl) ?_
          refine va_get (D := (dC, dI)) (ci := 0) (v := .int bu_port) (C := RX0) (T := TX0) (N := 8) hx hb hts hiX0 hown hK hP 0 rfl rfl 6 (by decide) (hts _ kFX0_11) (fun _ h9 => h9) rfl dX0_showsRegisters_24 ?_
          refine lv_iconst (v := 4) hx hb dX0_showsRegisters_27 (by decide) ?_
          refine lv_iand hx hb dX0_showsRegisters_28 ?_
          refine lv_if_eq (tgt := 36) hx hb dX0_showsRegisters_29 (by decide) (fun c_29 => ?_) (fun c_29 => ?_)
          · refine lv_iconst (v := 0) hx hb dX0_showsRegisters_36 (by decide) ?_
            exact J37 _ _ _ ⟨by rw [if_neg c_4, if_neg c_11, if_neg c_20, if_pos c_29], hP, hS⟩
          · refine lv_iconst (v := 1) hx hb dX0_showsRegisters_32 (by decide) ?_
            refine lv_goto (tgt := 37) hx hb dX0_showsRegisters_33 (by decide) ?_
            exact J37 _ _ _ ⟨by rw [if_neg c_4, if_neg c_11, if_neg c_20, if_neg c_29], hP, hS⟩
def fX0_peekMemory (p1 : Int32) (bu_port : Int32) (f_ra : Nat → Int32) (f_rA : Nat → Int32) (f_rc : Nat → Int32) (f_rk : Nat → Int32) : Int32 :=
  if (p1 &&& (8191:Int32)) = (1:Int32) then
   bu_port
  else
   if ((p1 &&& (8191:Int32)) - (5120:Int32)) < (0:Int32) then
    if (p1 &&& (8191:Int32)) < (7168:Int32) then
     if (p1 &&& (8191:Int32)) < (6656:Int32) then
      (f_ra (p1 &&& (8191:Int32)).toNatClampNeg)
     else
      if (bu_port &&& (3:Int32)) = (0:Int32) then
       (f_ra (p1 &&& (8191:Int32)).toNatClampNeg)
      else
       (f_rc ((p1 &&& (8191:Int32)) - (6656:Int32)).toNatClampNeg)
    else
     (if (bu_port &&& (2:Int32)) = (0:Int32) then (f_ra (p1 &&& (8191:Int32)).toNatClampNeg) else (f_rk ((p1 &&& (8191:Int32)) - (7168:Int32)).toNatClampNeg))
   else
    if (1024:Int32) ≤ ((p1 &&& (8191:Int32)) - (5120:Int32)) then
     if (p1 &&& (8191:Int32)) < (7168:Int32) then
      if (p1 &&& (8191:Int32)) < (6656:Int32) then
       (f_ra (p1 &&& (8191:Int32)).toNatClampNeg)
      else
       if (bu_port &&& (3:Int32)) = (0:Int32) then
        (f_ra (p1 &&& (8191:Int32)).toNatClampNeg)
       else
        (f_rc ((p1 &&& (8191:Int32)) - (6656:Int32)).toNatClampNeg)
     else
      (if (bu_port &&& (2:Int32)) = (0:Int32) then (f_ra (p1 &&& (8191:Int32)).toNatClampNeg) else (f_rk ((p1 &&& (8191:Int32)) - (7168:Int32)).toNatClampNeg))
    else
     if (bu_port &&& (1:Int32)) = (0:Int32) then
      if (p1 &&& (8191:Int32)) < (7168:Int32) then
       if (p1 &&& (8191:Int32)) < (6656:Int32) then
        (f_ra (p1 &&& (8191:Int32)).toNatClampNeg)
       else
        if (bu_port &&& (3:Int32)) = (0:Int32) then
         (f_ra (p1 &&& (8191:Int32)).toNatClampNeg)
        else
         (f_rc ((p1 &&& (8191:Int32)) - (6656:Int32)).toNatClampNeg)
      else
       (if (bu_port &&& (2:Int32)) = (0:Int32) then (f_ra (p1 &&& (8191:Int32)).toNatClampNeg) else (f_rk ((p1 &&& (8191:Int32)) - (7168:Int32)).toNatClampNeg))
     else
      if (bu_port &&& (2:Int32)) = (0:Int32) then
       if (p1 &&& (8191:Int32)) < (7168:Int32) then
        if (p1 &&& (8191:Int32)) < (6656:Int32) then
         (f_ra (p1 &&& (8191:Int32)).toNatClampNeg)
        else
         if (bu_port &&& (3:Int32)) = (0:Int32) then
          (f_ra (p1 &&& (8191:Int32)).toNatClampNeg)
         else
          (f_rc ((p1 &&& (8191:Int32)) - (6656:Int32)).toNatClampNeg)
       else
        (f_ra (p1 &&& (8191:Int32)).toNatClampNeg)
      else
       (f_rA ((p1 &&& (8191:Int32)) - (5120:Int32)).toNatClampNeg)
set_option maxHeartbeats 4000000 in
set_option maxRecDepth 100000 in
theorem mX0_peekMemory (l : Launch) (dC : Nat → ClassId) (dI : Nat → Nat → Nat) (q_bu q_ra q_rA q_rc q_rk q_pi q_po q_co q_wc q_wo q_ic q_ky q_ta q_tb : Nat) (k_ra k_rA k_rc k_rk k_po k_co k_wc k_wo k_ky : ClassId) (sz : Nat) (bu_port bu_latest pi_line pi_cycle pi_control pi_compareLine pi_ground pi_border pi_base pi_flag pi_enabled pi_idle pi_bad pi_glyphLine pi_rowToFetch ic_rows ic_keysSeen ic_flags ic_enabled ta_controlBits ta_control ta_count ta_latch tb_controlBits tb_control tb_count tb_latch : Int32) (f_ra f_rA f_rc f_rk f_po f_co f_wc f_wo f_ky : Nat → Int32) (p1 : Int32) : Met l yX0_peekMemory uX0_peekMemory ({ frames := 0, cells := 0, slots := 0, locals := 0 }) (va_Pc [.ref q_bu, .int p1] (fun U => U.heap.size = sz ∧ va_P (dC, dI) vwCl (wwX0 q_bu q_ra q_rA q_rc q_rk q_pi q_po q_co q_wc q_wo q_ic q_ky q_ta q_tb k_ra k_rA k_rc k_rk k_po k_co k_wc k_wo k_ky bu_port bu_latest pi_line pi_cycle pi_control pi_compareLine pi_ground pi_border pi_base pi_flag pi_enabled pi_idle pi_bad pi_glyphLine pi_rowToFetch ic_rows ic_keysSeen ic_flags ic_enabled ta_controlBits ta_control ta_count ta_latch tb_controlBits tb_control tb_count tb_latch f_ra f_rA f_rc f_rk f_po f_co f_wc f_wo f_ky) U.heap ∧ va_K (dC, dI) vwCl [(k_ra, .int), (k_rA, .int), (k_rc, .int), (k_rk, .int), (k_po, .int), (k_co, .int), (k_wc, .int), (k_wo, .int), (k_ky, .int)] U ∧ va_D (fun _ => True) (wwX0 q_bu q_ra q_rA q_rc q_rk q_pi q_po q_co q_wc q_wo q_ic q_ky q_ta q_tb k_ra k_rA k_rc k_rk k_po k_co k_wc k_wo k_ky bu_port bu_latest pi_line pi_cycle pi_control pi_compareLine pi_ground pi_border pi_base pi_flag pi_enabled pi_idle pi_bad pi_glyphLine pi_rowToFetch ic_rows ic_keysSeen ic_flags ic_enabled ta_controlBits ta_control ta_count ta_latch tb_controlBits tb_control tb_count tb_latch f_ra f_rA f_rc f_rk f_po f_co f_wc f_wo f_ky))) (va_Qi (fun (r : Int32) (u : Unit) => r = fX0_peekMemory p1 bu_port f_ra f_rA f_rc f_rk) (fun (u : Unit) (t : State) => va_P (dC, dI) vwCl (wwX0 q_bu q_ra q_rA q_rc q_rk q_pi q_po q_co q_wc q_wo q_ic q_ky q_ta q_tb k_ra k_rA k_rc k_rk k_po k_co k_wc k_wo k_ky bu_port bu_latest pi_line pi_cycle pi_control pi_compareLine pi_ground pi_border pi_base pi_flag pi_enabled pi_idle pi_bad pi_glyphLine pi_rowToFetch ic_rows ic_keysSeen ic_flags ic_enabled ta_controlBits ta_control ta_count ta_latch tb_controlBits tb_control tb_count tb_latch f_ra f_rA f_rc f_rk f_po f_co f_wc f_wo f_ky) t.heap ∧ va_K (dC, dI) vwCl [(k_ra, .int), (k_rA, .int), (k_rc, .int), (k_rk, .int), (k_po, .int), (k_co, .int), (k_wc, .int), (k_wo, .int), (k_ky, .int)] t ∧ va_D (va_A (wwX0 q_bu q_ra q_rA q_rc q_rk q_pi q_po q_co q_wc q_wo q_ic q_ky q_ta q_tb k_ra k_rA k_rc k_rk k_po k_co k_wc k_wo k_ky bu_port bu_latest pi_line pi_cycle pi_control pi_compareLine pi_ground pi_border pi_base pi_flag pi_enabled pi_idle pi_bad pi_glyphLine pi_rowToFetch ic_rows ic_keysSeen ic_flags ic_enabled ta_controlBits ta_control ta_count ta_latch tb_controlBits tb_control tb_count tb_latch f_ra f_rA f_rc f_rk f_po f_co f_wc f_wo f_ky) sz) (wwX0 q_bu q_ra q_rA q_rc q_rk q_pi q_po q_co q_wc q_wo q_ic q_ky q_ta q_tb k_ra k_rA k_rc k_rk k_po k_co k_wc k_wo k_ky bu_port bu_latest pi_line pi_cycle pi_control pi_compareLine pi_ground pi_border pi_base pi_flag pi_enabled pi_idle pi_bad pi_glyphLine pi_rowToFetch ic_rows ic_keysSeen ic_flags ic_enabled ta_controlBits ta_control ta_count ta_latch tb_controlBits tb_control tb_count tb_latch f_ra f_rA f_rc f_rk f_po f_co f_wc f_wo f_ky)) (va_A (wwX0 q_bu q_ra q_rA q_rc q_rk q_pi q_po q_co q_wc q_wo q_ic q_ky q_ta q_tb k_ra k_rA k_rc k_rk k_po k_co k_wc k_wo k_ky bu_port bu_latest pi_line pi_cycle pi_control pi_compareLine pi_ground pi_border pi_base pi_flag pi_enabled pi_idle pi_bad pi_glyphLine pi_rowToFetch ic_rows ic_keysSeen ic_flags ic_enabled ta_controlBits ta_control ta_count ta_latch tb_controlBits tb_control tb_count tb_latch f_ra f_rA f_rc f_rk f_po f_co f_wc f_wo f_ky) sz)) 0 0 (va_A (wwX0 q_bu q_ra q_rA q_rc q_rk q_pi q_po q_co q_wc q_wo q_ic q_ky q_ta q_tb k_ra k_rA k_rc k_rk k_po k_co k_wc k_wo k_ky bu_port bu_latest pi_line pi_cycle pi_control pi_compareLine pi_ground pi_border pi_base pi_flag pi_enabled pi_idle pi_bad pi_glyphLine pi_rowToFetch ic_rows ic_keysSeen ic_flags ic_enabled ta_controlBits ta_control ta_count ta_latch tb_controlBits tb_control tb_count tb_latch f_ra f_rA f_rc f_rk f_po f_co f_wc f_wo f_ky) sz) := by
  refine Met.ofW (cc := cX0_peekMemory) (maxL := 4) (ret := (some .int)) (by decide) rfl ?_
  intro p e s m args below meth c s₁ B hml hv
  obtain ⟨rfl, hsz, hP, hK, hD0⟩ := hv
  have hx := B.exec
  have hb := B.bytes
  have hr := B.returns
  have hts : ∀ w ∈ ub, w.before _ s = true := fun w h => atoms_spec (ws := uX0_peekMemory) B.pre w (List.mem_cons_of_mem _ h)
  have hown : s.vm.findClass RX0 = some m.cls := findClass_of_methodNamed B.named
  have hlocks := B.notSynchronized
  subst hsz
  have hD := hD0.self (sz := s.heap.size)
  generalize hAe : va_A (wwX0 q_bu q_ra q_rA q_rc q_rk q_pi q_po q_co q_wc q_wo q_ic q_ky q_ta q_tb k_ra k_rA k_rc k_rk k_po k_co k_wc k_wo k_ky bu_port bu_latest pi_line pi_cycle pi_control pi_compareLine pi_ground pi_border pi_base pi_flag pi_enabled pi_idle pi_bad pi_glyphLine pi_rowToFetch ic_rows ic_keysSeen ic_flags ic_enabled ta_controlBits ta_control ta_count ta_latch tb_controlBits tb_control tb_count tb_latch f_ra f_rA f_rc f_rk f_po f_co f_wc f_wo f_ky) s.heap.size = A at hD ⊢
  have hA : ∀ q : Nat, s.heap.size ≤ q → A q := fun q h => by rw [← hAe]; exact Or.inr h
  have hS : va_S A s.heap s.heap [] := va_S.rf
  have hl := lv_entry ([.ref q_bu, .int p1]) (n := 4) (Nat.le_of_ble_eq_true rfl)
  rw [lg_entry_eq]
  generalize (lg_sl ([.ref q_bu, .int p1]) ++ List.replicate (4 - (lg_sl ([.ref q_bu, .int p1])).length) Slot.unset).toArray = ls at hl ⊢
  have hl : lv_has ls 4 [(0, .ref q_bu), (1, .int p1)] := hl
  have hF := fX0_peekMemory.eq_1 p1 bu_port f_ra f_rA f_rc f_rk
  refine lv_iload_n hx hb dX0_peekMemory_0 rfl (lv_at hl 1 rfl) ?_
  refine lv_sipush (v := 8191) hx hb dX0_peekMemory_1 (by decide) ?_
  refine lv_iand hx hb dX0_peekMemory_4 ?_
  refine lv_istore_n (lv' := [(2, .int (p1 &&& (8191:Int32))), (0, .ref q_bu), (1, .int p1)]) hx hb dX0_peekMemory_5 rfl hl (by decide) rfl (fun ls hl => ?_)
  refine lv_iload_n hx hb dX0_peekMemory_6 rfl (lv_at hl 0 rfl) ?_
  refine lv_iconst (v := 1) hx hb dX0_peekMemory_7 (by decide) ?_
  refine lv_icmp_ne (tgt := 16) hx hb dX0_peekMemory_8 (by decide) (fun c_8 => ?_) (fun c_8 => ?_)
  · have hF := hF.trans (if_neg c_8)
    refine lv_iload_n hx hb dX0_peekMemory_16 rfl (lv_at hl 0 rfl) ?_
    refine lv_sipush (v := 5120) hx hb dX0_peekMemory_17 (by decide) ?_
    refine lv_isub hx hb dX0_peekMemory_20 ?_
    refine lv_istore_n (lv' := [(3, .int ((p1 &&& (8191:Int32)) - (5120:Int32))), (2, .int (p1 &&& (8191:Int32))), (0, .ref q_bu), (1, .int p1)]) hx hb dX0_peekMemory_21 rfl hl (by decide) rfl (fun ls hl => ?_)
    refine lv_iload_n hx hb dX0_peekMemory_22 rfl (lv_at hl 0 rfl) ?_
    refine lv_if_lt (tgt := 58) hx hb dX0_peekMemory_23 (by decide) (fun c_23 => ?_) (fun c_23 => ?_)
    · have hF := hF.trans (if_pos c_23)
      refine lv_iload_n hx hb dX0_peekMemory_58 rfl (lv_at hl 1 rfl) ?_
      refine lv_sipush (v := 7168) hx hb dX0_peekMemory_59 (by decide) ?_
      refine lv_icmp_lt (tgt := 94) hx hb dX0_peekMemory_62 (by decide) (fun c_62 => ?_) (fun c_62 => ?_)
      · have hF := hF.trans (if_pos c_62)
        refine lv_iload_n hx hb dX0_peekMemory_94 rfl (lv_at hl 1 rfl) ?_
        refine lv_sipush (v := 6656) hx hb dX0_peekMemory_95 (by decide) ?_
        refine lv_icmp_lt (tgt := 121) hx hb dX0_peekMemory_98 (by decide) (fun c_98 => ?_) (fun c_98 => ?_)
        · have hF := hF.trans (if_pos c_98)
          refine lv_aload_n hx hb dX0_peekMemory_121 rfl (lv_at hl 2 rfl) ?_
          refine va_get (D := (dC, dI)) (ci := 0) (v := .ref q_ra) (C := RX0) (T := TX0) (N := 8) hx hb hts hiX0 hown hK hP 0 rfl rfl 0 (by decide) (hts _ kFX0_18) (fun _ h9 => h9) rfl dX0_peekMemory_122 ?_
          refine lv_iload_n hx hb dX0_peekMemory_125 rfl (lv_at hl 1 rfl) ?_
          refine va_iald hx hb hK hP 1 0 rfl rfl (rg_and p1) dX0_peekMemory_126 ?_
          exact W.iret (v := (f_ra (p1 &&& (8191:Int32)).toNatClampNeg)) hx hb hr (fun t ht hW => ⟨⟨(f_ra (p1 &&& (8191:Int32)).toNatClampNeg), (), rfl, hF.symm, by rw [ht]; exact hP, va_K.moved hW.alike hK, hD⟩, hS.F ht⟩) hS.2.2 dX0_peekMemory_127
        · have hF := hF.trans (if_neg c_98)
          refine lv_aload_n hx hb dX0_peekMemory_101 rfl (lv_at hl 2 rfl) ?_
          refine va_get (D := (dC, dI)) (ci := 0) (v := .int bu_port) (C := RX0) (T := TX0) (N := 8) hx hb hts hiX0 hown hK hP 0 rfl rfl 6 (by decide) (hts _ kFX0_11) (fun _ h9 => h9) rfl dX0_peekMemory_102 ?_
          refine lv_iconst (v := 3) hx hb dX0_peekMemory_105 (by decide) ?_
          refine lv_iand hx hb dX0_peekMemory_106 ?_
          refine lv_if_eq (tgt := 121) hx hb dX0_peekMemory_107 (by decide) (fun c_107 => ?_) (fun c_107 => ?_)
          · have hF := hF.trans (if_pos c_107)
            refine lv_aload_n hx hb dX0_peekMemory_121 rfl (lv_at hl 2 rfl) ?_
            refine va_get (D := (dC, dI)) (ci := 0) (v := .ref q_ra) (C := RX0) (T := TX0) (N := 8) hx hb hts hiX0 hown hK hP 0 rfl rfl 0 (by decide) (hts _ kFX0_18) (fun _ h9 => h9) rfl dX0_peekMemory_122 ?_
            refine lv_iload_n hx hb dX0_peekMemory_125 rfl (lv_at hl 1 rfl) ?_
            refine va_iald hx hb hK hP 1 0 rfl rfl (rg_and p1) dX0_peekMemory_126 ?_
            exact W.iret (v := (f_ra (p1 &&& (8191:Int32)).toNatClampNeg)) hx hb hr (fun t ht hW => ⟨⟨(f_ra (p1 &&& (8191:Int32)).toNatClampNeg), (), rfl, hF.symm, by rw [ht]; exact hP, va_K.moved hW.alike hK, hD⟩, hS.F ht⟩) hS.2.2 dX0_peekMemory_127
          · have hF := hF.trans (if_neg c_107)
            refine lv_aload_n hx hb dX0_peekMemory_110 rfl (lv_at hl 2 rfl) ?_
            refine va_get (D := (dC, dI)) (ci := 0) (v := .ref q_rc) (C := RX0) (T := TX0) (N := 8) hx hb hts hiX0 hown hK hP 0 rfl rfl 2 (by decide) (hts _ kFX0_25) (fun _ h9 => h9) rfl dX0_peekMemory_111 ?_
            refine lv_iload_n hx hb dX0_peekMemory_114 rfl (lv_at hl 1 rfl) ?_
            refine lv_sipush (v := 6656) hx hb dX0_peekMemory_115 (by decide) ?_
            refine lv_isub hx hb dX0_peekMemory_118 ?_
            refine va_iald hx hb hK hP 3 2 rfl rfl (rg_off 6656 512 c_98 c_62 (by decide)) dX0_peekMemory_119 ?_
            exact W.iret (v := (f_rc ((p1 &&& (8191:Int32)) - (6656:Int32)).toNatClampNeg)) hx hb hr (fun t ht hW => ⟨⟨(f_rc ((p1 &&& (8191:Int32)) - (6656:Int32)).toNatClampNeg), (), rfl, hF.symm, by rw [ht]; exact hP, va_K.moved hW.alike hK, hD⟩, hS.F ht⟩) hS.2.2 dX0_peekMemory_120
      · have hF := hF.trans (if_neg c_62)
        refine lv_aload_n hx hb dX0_peekMemory_65 rfl (lv_at hl 2 rfl) ?_
        refine va_get (D := (dC, dI)) (ci := 0) (v := .int bu_port) (C := RX0) (T := TX0) (N := 8) hx hb hts hiX0 hown hK hP 0 rfl rfl 6 (by decide) (hts _ kFX0_11) (fun _ h9 => h9) rfl dX0_peekMemory_66 ?_
        refine lv_iconst (v := 2) hx hb dX0_peekMemory_69 (by decide) ?_
        refine lv_iand hx hb dX0_peekMemory_70 ?_
        refine vj_join (j := 93) (rest := []) (Hyp := fun z H locs => z = (if (bu_port &&& (2:Int32)) = (0:Int32) then (f_ra (p1 &&& (8191:Int32)).toNatClampNeg) else (f_rk ((p1 &&& (8191:Int32)) - (7168:Int32)).toNatClampNeg)) ∧ va_P (dC, dI) vwCl (wwX0 q_bu q_ra q_rA q_rc q_rk q_pi q_po q_co q_wc q_wo q_ic q_ky q_ta q_tb k_ra k_rA k_rc k_rk k_po k_co k_wc k_wo k_ky bu_port bu_latest pi_line pi_cycle pi_control pi_compareLine pi_ground pi_border pi_base pi_flag pi_enabled pi_idle pi_bad pi_glyphLine pi_rowToFetch ic_rows ic_keysSeen ic_flags ic_enabled ta_controlBits ta_control ta_count ta_latch tb_controlBits tb_control tb_count tb_latch f_ra f_rA f_rc f_rk f_po f_co f_wc f_wo f_ky) H ∧ va_S A s.heap H locs) (fun z H locs hh => ?_) (fun J93 => ?_)
        · obtain ⟨hz, hP, hS⟩ := hh
          subst hz
          exact W.iret (v := (if (bu_port &&& (2:Int32)) = (0:Int32) then (f_ra (p1 &&& (8191:Int32)).toNatClampNeg) else (f_rk ((p1 &&& (8191:Int32)) - (7168:Int32)).toNatClampNeg))) hx hb hr (fun t ht hW => ⟨⟨(if (bu_port &&& (2:Int32)) = (0:Int32) then (f_ra (p1 &&& (8191:Int32)).toNatClampNeg) else (f_rk ((p1 &&& (8191:Int32)) - (7168:Int32)).toNatClampNeg)), (), rfl, hF.symm, by rw [ht]; exact hP, va_K.moved hW.alike hK, hD⟩, hS.F ht⟩) hS.2.2 dX0_peekMemory_93
        · refine lv_if_eq (tgt := 87) hx hb dX0_peekMemory_71 (by decide) (fun c_71 => ?_) (fun c_71 => ?_)
          · refine lv_aload_n hx hb dX0_peekMemory_87 rfl (lv_at hl 2 rfl) ?_
            refine va_get (D := (dC, dI)) (ci := 0) (v := .ref q_ra) (C := RX0) (T := TX0) (N := 8) hx hb hts hiX0 hown hK hP 0 rfl rfl 0 (by decide) (hts _ kFX0_18) (fun _ h9 => h9) rfl dX0_peekMemory_88 ?_
            refine lv_iload_n hx hb dX0_peekMemory_91 rfl (lv_at hl 1 rfl) ?_
            refine va_iald hx hb hK hP 1 0 rfl rfl (rg_and p1) dX0_peekMemory_92 ?_
            exact J93 _ _ _ ⟨by rw [if_pos c_71], hP, hS⟩
          · refine lv_aload_n hx hb dX0_peekMemory_74 rfl (lv_at hl 2 rfl) ?_
            refine va_get (D := (dC, dI)) (ci := 0) (v := .ref q_rk) (C := RX0) (T := TX0) (N := 8) hx hb hts hiX0 hown hK hP 0 rfl rfl 3 (by decide) (hts _ kFX0_28) (fun _ h9 => h9) rfl dX0_peekMemory_75 ?_
            refine lv_iload_n hx hb dX0_peekMemory_78 rfl (lv_at hl 1 rfl) ?_
            refine lv_sipush (v := 7168) hx hb dX0_peekMemory_79 (by decide) ?_
            refine lv_isub hx hb dX0_peekMemory_82 ?_
            refine va_iald hx hb hK hP 4 3 rfl rfl (rg_off 7168 1024 c_62 (rg_and_lt p1) (by decide)) dX0_peekMemory_83 ?_
            refine lv_goto (tgt := 93) hx hb dX0_peekMemory_84 (by decide) ?_
            exact J93 _ _ _ ⟨by rw [if_neg c_71], hP, hS⟩
    · have hF := hF.trans (if_neg c_23)
      refine lv_iload_n hx hb dX0_peekMemory_26 rfl (lv_at hl 0 rfl) ?_
      refine lv_sipush (v := 1024) hx hb dX0_peekMemory_27 (by decide) ?_
      refine lv_icmp_ge (tgt := 58) hx hb dX0_peekMemory_30 (by decide) (fun c_30 => ?_) (fun c_30 => ?_)
      · have hF := hF.trans (if_pos c_30)
        refine lv_iload_n hx hb dX0_peekMemory_58 rfl (lv_at hl 1 rfl) ?_
        refine lv_sipush (v := 7168) hx hb dX0_peekMemory_59 (by decide) ?_
        refine lv_icmp_lt (tgt := 94) hx hb dX0_peekMemory_62 (by decide) (fun c_62 => ?_) (fun c_62 => ?_)
        · have hF := hF.trans (if_pos c_62)
          refine lv_iload_n hx hb dX0_peekMemory_94 rfl (lv_at hl 1 rfl) ?_
          refine lv_sipush (v := 6656) hx hb dX0_peekMemory_95 (by decide) ?_
          refine lv_icmp_lt (tgt := 121) hx hb dX0_peekMemory_98 (by decide) (fun c_98 => ?_) (fun c_98 => ?_)
          · have hF := hF.trans (if_pos c_98)
            refine lv_aload_n hx hb dX0_peekMemory_121 rfl (lv_at hl 2 rfl) ?_
            refine va_get (D := (dC, dI)) (ci := 0) (v := .ref q_ra) (C := RX0) (T := TX0) (N := 8) hx hb hts hiX0 hown hK hP 0 rfl rfl 0 (by decide) (hts _ kFX0_18) (fun _ h9 => h9) rfl dX0_peekMemory_122 ?_
            refine lv_iload_n hx hb dX0_peekMemory_125 rfl (lv_at hl 1 rfl) ?_
            refine va_iald hx hb hK hP 1 0 rfl rfl (rg_and p1) dX0_peekMemory_126 ?_
            exact W.iret (v := (f_ra (p1 &&& (8191:Int32)).toNatClampNeg)) hx hb hr (fun t ht hW => ⟨⟨(f_ra (p1 &&& (8191:Int32)).toNatClampNeg), (), rfl, hF.symm, by rw [ht]; exact hP, va_K.moved hW.alike hK, hD⟩, hS.F ht⟩) hS.2.2 dX0_peekMemory_127
          · have hF := hF.trans (if_neg c_98)
            refine lv_aload_n hx hb dX0_peekMemory_101 rfl (lv_at hl 2 rfl) ?_
            refine va_get (D := (dC, dI)) (ci := 0) (v := .int bu_port) (C := RX0) (T := TX0) (N := 8) hx hb hts hiX0 hown hK hP 0 rfl rfl 6 (by decide) (hts _ kFX0_11) (fun _ h9 => h9) rfl dX0_peekMemory_102 ?_
            refine lv_iconst (v := 3) hx hb dX0_peekMemory_105 (by decide) ?_
            refine lv_iand hx hb dX0_peekMemory_106 ?_
            refine lv_if_eq (tgt := 121) hx hb dX0_peekMemory_107 (by decide) (fun c_107 => ?_) (fun c_107 => ?_)
            · have hF := hF.trans (if_pos c_107)
              refine lv_aload_n hx hb dX0_peekMemory_121 rfl (lv_at hl 2 rfl) ?_
              refine va_get (D := (dC, dI)) (ci := 0) (v := .ref q_ra) (C := RX0) (T := TX0) (N := 8) hx hb hts hiX0 hown hK hP 0 rfl rfl 0 (by decide) (hts _ kFX0_18) (fun _ h9 => h9) rfl dX0_peekMemory_122 ?_
              refine lv_iload_n hx hb dX0_peekMemory_125 rfl (lv_at hl 1 rfl) ?_
              refine va_iald hx hb hK hP 1 0 rfl rfl (rg_and p1) dX0_peekMemory_126 ?_
              exact W.iret (v := (f_ra (p1 &&& (8191:Int32)).toNatClampNeg)) hx hb hr (fun t ht hW => ⟨⟨(f_ra (p1 &&& (8191:Int32)).toNatClampNeg), (), rfl, hF.symm, by rw [ht]; exact hP, va_K.moved hW.alike hK, hD⟩, hS.F ht⟩) hS.2.2 dX0_peekMemory_127
            · have hF := hF.trans (if_neg c_107)
              refine lv_aload_n hx hb dX0_peekMemory_110 rfl (lv_at hl 2 rfl) ?_
              refine va_get (D := (dC, dI)) (ci := 0) (v := .ref q_rc) (C := RX0) (T := TX0) (N := 8) hx hb hts hiX0 hown hK hP 0 rfl rfl 2 (by decide) (hts _ kFX0_25) (fun _ h9 => h9) rfl dX0_peekMemory_111 ?_
              refine lv_iload_n hx hb dX0_peekMemory_114 rfl (lv_at hl 1 rfl) ?_
              refine lv_sipush (v := 6656) hx hb dX0_peekMemory_115 (by decide) ?_
              refine lv_isub hx hb dX0_peekMemory_118 ?_
              refine va_iald hx hb hK hP 3 2 rfl rfl (rg_off 6656 512 c_98 c_62 (by decide)) dX0_peekMemory_119 ?_
              exact W.iret (v := (f_rc ((p1 &&& (8191:Int32)) - (6656:Int32)).toNatClampNeg)) hx hb hr (fun t ht hW => ⟨⟨(f_rc ((p1 &&& (8191:Int32)) - (6656:Int32)).toNatClampNeg), (), rfl, hF.symm, by rw [ht]; exact hP, va_K.moved hW.alike hK, hD⟩, hS.F ht⟩) hS.2.2 dX0_peekMemory_120
        · have hF := hF.trans (if_neg c_62)
          refine lv_aload_n hx hb dX0_peekMemory_65 rfl (lv_at hl 2 rfl) ?_
          refine va_get (D := (dC, dI)) (ci := 0) (v := .int bu_port) (C := RX0) (T := TX0) (N := 8) hx hb hts hiX0 hown hK hP 0 rfl rfl 6 (by decide) (hts _ kFX0_11) (fun _ h9 => h9) rfl dX0_peekMemory_66 ?_
          refine lv_iconst (v := 2) hx hb dX0_peekMemory_69 (by decide) ?_
          refine lv_iand hx hb dX0_peekMemory_70 ?_
          refine vj_join (j := 93) (rest := []) (Hyp := fun z H locs => z = (if (bu_port &&& (2:Int32)) = (0:Int32) then (f_ra (p1 &&& (8191:Int32)).toNatClampNeg) else (f_rk ((p1 &&& (8191:Int32)) - (7168:Int32)).toNatClampNeg)) ∧ va_P (dC, dI) vwCl (wwX0 q_bu q_ra q_rA q_rc q_rk q_pi q_po q_co q_wc q_wo q_ic q_ky q_ta q_tb k_ra k_rA k_rc k_rk k_po k_co k_wc k_wo k_ky bu_port bu_latest pi_line pi_cycle pi_control pi_compareLine pi_ground pi_border pi_base pi_flag pi_enabled pi_idle pi_bad pi_glyphLine pi_rowToFetch ic_rows ic_keysSeen ic_flags ic_enabled ta_controlBits ta_control ta_count ta_latch tb_controlBits tb_control tb_count tb_latch f_ra f_rA f_rc f_rk f_po f_co f_wc f_wo f_ky) H ∧ va_S A s.heap H locs) (fun z H locs hh => ?_) (fun J93 => ?_)
          · obtain ⟨hz, hP, hS⟩ := hh
            subst hz
            exact W.iret (v := (if (bu_port &&& (2:Int32)) = (0:Int32) then (f_ra (p1 &&& (8191:Int32)).toNatClampNeg) else (f_rk ((p1 &&& (8191:Int32)) - (7168:Int32)).toNatClampNeg))) hx hb hr (fun t ht hW => ⟨⟨(if (bu_port &&& (2:Int32)) = (0:Int32) then (f_ra (p1 &&& (8191:Int32)).toNatClampNeg) else (f_rk ((p1 &&& (8191:Int32)) - (7168:Int32)).toNatClampNeg)), (), rfl, hF.symm, by rw [ht]; exact hP, va_K.moved hW.alike hK, hD⟩, hS.F ht⟩) hS.2.2 dX0_peekMemory_93
          · refine lv_if_eq (tgt := 87) hx hb dX0_peekMemory_71 (by decide) (fun c_71 => ?_) (fun c_71 => ?_)
            · refine lv_aload_n hx hb dX0_peekMemory_87 rfl (lv_at hl 2 rfl) ?_
              refine va_get (D := (dC, dI)) (ci := 0) (v := .ref q_ra) (C := RX0) (T := TX0) (N := 8) hx hb hts hiX0 hown hK hP 0 rfl rfl 0 (by decide) (hts _ kFX0_18) (fun _ h9 => h9) rfl dX0_peekMemory_88 ?_
              refine lv_iload_n hx hb dX0_peekMemory_91 rfl (lv_at hl 1 rfl) ?_
              refine va_iald hx hb hK hP 1 0 rfl rfl (rg_and p1) dX0_peekMemory_92 ?_
              exact J93 _ _ _ ⟨by rw [if_pos c_71], hP, hS⟩
            · refine lv_aload_n hx hb dX0_peekMemory_74 rfl (lv_at hl 2 rfl) ?_
              refine va_get (D := (dC, dI)) (ci := 0) (v := .ref q_rk) (C := RX0) (T := TX0) (N := 8) hx hb hts hiX0 hown hK hP 0 rfl rfl 3 (by decide) (hts _ kFX0_28) (fun _ h9 => h9) rfl dX0_peekMemory_75 ?_
              refine lv_iload_n hx hb dX0_peekMemory_78 rfl (lv_at hl 1 rfl) ?_
              refine lv_sipush (v := 7168) hx hb dX0_peekMemory_79 (by decide) ?_
              refine lv_isub hx hb dX0_peekMemory_82 ?_
              refine va_iald hx hb hK hP 4 3 rfl rfl (rg_off 7168 1024 c_62 (rg_and_lt p1) (by decide)) dX0_peekMemory_83 ?_
              refine lv_goto (tgt := 93) hx hb dX0_peekMemory_84 (by decide) ?_
              exact J93 _ _ _ ⟨by rw [if_neg c_71], hP, hS⟩
      · have hF := hF.trans (if_neg c_30)
        refine lv_aload_n hx hb dX0_peekMemory_33 rfl (lv_at hl 2 rfl) ?_
        refine va_get (D := (dC, dI)) (ci := 0) (v := .int bu_port) (C := RX0) (T := TX0) (N := 8) hx hb hts hiX0 hown hK hP 0 rfl rfl 6 (by decide) (hts _ kFX0_11) (fun _ h9 => h9) rfl dX0_peekMemory_34 ?_
        refine lv_iconst (v := 1) hx hb dX0_peekMemory_37 (by decide) ?_
        refine lv_iand hx hb dX0_peekMemory_38 ?_
        refine lv_if_eq (tgt := 58) hx hb dX0_peekMemory_39 (by decide) (fun c_39 => ?_) (fun c_39 => ?_)
        · have hF := hF.trans (if_pos c_39)
          refine lv_iload_n hx hb dX0_peekMemory_58 rfl (lv_at hl 1 rfl) ?_
          refine lv_sipush (v := 7168) hx hb dX0_peekMemory_59 (by decide) ?_
          refine lv_icmp_lt (tgt := 94) hx hb dX0_peekMemory_62 (by decide) (fun c_62 => ?_) (fun c_62 => ?_)
          · have hF := hF.trans (if_pos c_62)
            refine lv_iload_n hx hb dX0_peekMemory_94 rfl (lv_at hl 1 rfl) ?_
            refine lv_sipush (v := 6656) hx hb dX0_peekMemory_95 (by decide) ?_
            refine lv_icmp_lt (tgt := 121) hx hb dX0_peekMemory_98 (by decide) (fun c_98 => ?_) (fun c_98 => ?_)
            · have hF := hF.trans (if_pos c_98)
              refine lv_aload_n hx hb dX0_peekMemory_121 rfl (lv_at hl 2 rfl) ?_
              refine va_get (D := (dC, dI)) (ci := 0) (v := .ref q_ra) (C := RX0) (T := TX0) (N := 8) hx hb hts hiX0 hown hK hP 0 rfl rfl 0 (by decide) (hts _ kFX0_18) (fun _ h9 => h9) rfl dX0_peekMemory_122 ?_
              refine lv_iload_n hx hb dX0_peekMemory_125 rfl (lv_at hl 1 rfl) ?_
              refine va_iald hx hb hK hP 1 0 rfl rfl (rg_and p1) dX0_peekMemory_126 ?_
              exact W.iret (v := (f_ra (p1 &&& (8191:Int32)).toNatClampNeg)) hx hb hr (fun t ht hW => ⟨⟨(f_ra (p1 &&& (8191:Int32)).toNatClampNeg), (), rfl, hF.symm, by rw [ht]; exact hP, va_K.moved hW.alike hK, hD⟩, hS.F ht⟩) hS.2.2 dX0_peekMemory_127
            · have hF := hF.trans (if_neg c_98)
              refine lv_aload_n hx hb dX0_peekMemory_101 rfl (lv_at hl 2 rfl) ?_
              refine va_get (D := (dC, dI)) (ci := 0) (v := .int bu_port) (C := RX0) (T := TX0) (N := 8) hx hb hts hiX0 hown hK hP 0 rfl rfl 6 (by decide) (hts _ kFX0_11) (fun _ h9 => h9) rfl dX0_peekMemory_102 ?_
              refine lv_iconst (v := 3) hx hb dX0_peekMemory_105 (by decide) ?_
              refine lv_iand hx hb dX0_peekMemory_106 ?_
              refine lv_if_eq (tgt := 121) hx hb dX0_peekMemory_107 (by decide) (fun c_107 => ?_) (fun c_107 => ?_)
              · have hF := hF.trans (if_pos c_107)
                refine lv_aload_n hx hb dX0_peekMemory_121 rfl (lv_at hl 2 rfl) ?_
                refine va_get (D := (dC, dI)) (ci := 0) (v := .ref q_ra) (C := RX0) (T := TX0) (N := 8) hx hb hts hiX0 hown hK hP 0 rfl rfl 0 (by decide) (hts _ kFX0_18) (fun _ h9 => h9) rfl dX0_peekMemory_122 ?_
                refine lv_iload_n hx hb dX0_peekMemory_125 rfl (lv_at hl 1 rfl) ?_
                refine va_iald hx hb hK hP 1 0 rfl rfl (rg_and p1) dX0_peekMemory_126 ?_
                exact W.iret (v := (f_ra (p1 &&& (8191:Int32)).toNatClampNeg)) hx hb hr (fun t ht hW => ⟨⟨(f_ra (p1 &&& (8191:Int32)).toNatClampNeg), (), rfl, hF.symm, by rw [ht]; exact hP, va_K.moved hW.alike hK, hD⟩, hS.F ht⟩) hS.2.2 dX0_peekMemory_127
              · have hF := hF.trans (if_neg c_107)
                refine lv_aload_n hx hb dX0_peekMemory_110 rfl (lv_at hl 2 rfl) ?_
                refine va_get (D := (dC, dI)) (ci := 0) (v := .ref q_rc) (C := RX0) (T := TX0) (N := 8) hx hb hts hiX0 hown hK hP 0 rfl rfl 2 (by decide) (hts _ kFX0_25) (fun _ h9 => h9) rfl dX0_peekMemory_111 ?_
                refine lv_iload_n hx hb dX0_peekMemory_114 rfl (lv_at hl 1 rfl) ?_
                refine lv_sipush (v := 6656) hx hb dX0_peekMemory_115 (by decide) ?_
                refine lv_isub hx hb dX0_peekMemory_118 ?_
                refine va_iald hx hb hK hP 3 2 rfl rfl (rg_off 6656 512 c_98 c_62 (by decide)) dX0_peekMemory_119 ?_
                exact W.iret (v := (f_rc ((p1 &&& (8191:Int32)) - (6656:Int32)).toNatClampNeg)) hx hb hr (fun t ht hW => ⟨⟨(f_rc ((p1 &&& (8191:Int32)) - (6656:Int32)).toNatClampNeg), (), rfl, hF.symm, by rw [ht]; exact hP, va_K.moved hW.alike hK, hD⟩, hS.F ht⟩) hS.2.2 dX0_peekMemory_120
          · have hF := hF.trans (if_neg c_62)
            refine lv_aload_n hx hb dX0_peekMemory_65 rfl (lv_at hl 2 rfl) ?_
            refine va_get (D := (dC, dI)) (ci := 0) (v := .int bu_port) (C := RX0) (T := TX0) (N := 8) hx hb hts hiX0 hown hK hP 0 rfl rfl 6 (by decide) (hts _ kFX0_11) (fun _ h9 => h9) rfl dX0_peekMemory_66 ?_
            refine lv_iconst (v := 2) hx hb dX0_peekMemory_69 (by decide) ?_
            refine lv_iand hx hb dX0_peekMemory_70 ?_
            refine vj_join (j := 93) (rest := []) (Hyp := fun z H locs => z = (if (bu_port &&& (2:Int32)) = (0:Int32) then (f_ra (p1 &&& (8191:Int32)).toNatClampNeg) else (f_rk ((p1 &&& (8191:Int32)) - (7168:Int32)).toNatClampNeg)) ∧ va_P (dC, dI) vwCl (wwX0 q_bu q_ra q_rA q_rc q_rk q_pi q_po q_co q_wc q_wo q_ic q_ky q_ta q_tb k_ra k_rA k_rc k_rk k_po k_co k_wc k_wo k_ky bu_port bu_latest pi_line pi_cycle pi_control pi_compareLine pi_ground pi_border pi_base pi_flag pi_enabled pi_idle pi_bad pi_glyphLine pi_rowToFetch ic_rows ic_keysSeen ic_flags ic_enabled ta_controlBits ta_control ta_count ta_latch tb_controlBits tb_control tb_count tb_latch f_ra f_rA f_rc f_rk f_po f_co f_wc f_wo f_ky) H ∧ va_S A s.heap H locs) (fun z H locs hh => ?_) (fun J93 => ?_)
            · obtain ⟨hz, hP, hS⟩ := hh
              subst hz
              exact W.iret (v := (if (bu_port &&& (2:Int32)) = (0:Int32) then (f_ra (p1 &&& (8191:Int32)).toNatClampNeg) else (f_rk ((p1 &&& (8191:Int32)) - (7168:Int32)).toNatClampNeg))) hx hb hr (fun t ht hW => ⟨⟨(if (bu_port &&& (2:Int32)) = (0:Int32) then (f_ra (p1 &&& (8191:Int32)).toNatClampNeg) else (f_rk ((p1 &&& (8191:Int32)) - (7168:Int32)).toNatClampNeg)), (), rfl, hF.symm, by rw [ht]; exact hP, va_K.moved hW.alike hK, hD⟩, hS.F ht⟩) hS.2.2 dX0_peekMemory_93
            · refine lv_if_eq (tgt := 87) hx hb dX0_peekMemory_71 (by decide) (fun c_71 => ?_) (fun c_71 => ?_)
              · refine lv_aload_n hx hb dX0_peekMemory_87 rfl (lv_at hl 2 rfl) ?_
                refine va_get (D := (dC, dI)) (ci := 0) (v := .ref q_ra) (C := RX0) (T := TX0) (N := 8) hx hb hts hiX0 hown hK hP 0 rfl rfl 0 (by decide) (hts _ kFX0_18) (fun _ h9 => h9) rfl dX0_peekMemory_88 ?_
                refine lv_iload_n hx hb dX0_peekMemory_91 rfl (lv_at hl 1 rfl) ?_
                refine va_iald hx hb hK hP 1 0 rfl rfl (rg_and p1) dX0_peekMemory_92 ?_
                exact J93 _ _ _ ⟨by rw [if_pos c_71], hP, hS⟩
              · refine lv_aload_n hx hb dX0_peekMemory_74 rfl (lv_at hl 2 rfl) ?_
                refine va_get (D := (dC, dI)) (ci := 0) (v := .ref q_rk) (C := RX0) (T := TX0) (N := 8) hx hb hts hiX0 hown hK hP 0 rfl rfl 3 (by decide) (hts _ kFX0_28) (fun _ h9 => h9) rfl dX0_peekMemory_75 ?_
                refine lv_iload_n hx hb dX0_peekMemory_78 rfl (lv_at hl 1 rfl) ?_
                refine lv_sipush (v := 7168) hx hb dX0_peekMemory_79 (by decide) ?_
                refine lv_isub hx hb dX0_peekMemory_82 ?_
                refine va_iald hx hb hK hP 4 3 rfl rfl (rg_off 7168 1024 c_62 (rg_and_lt p1) (by decide)) dX0_peekMemory_83 ?_
                refine lv_goto (tgt := 93) hx hb dX0_peekMemory_84 (by decide) ?_
                exact J93 _ _ _ ⟨by rw [if_neg c_71], hP, hS⟩
        · have hF := hF.trans (if_neg c_39)
          refine lv_aload_n hx hb dX0_peekMemory_42 rfl (lv_at hl 2 rfl) ?_
          refine va_get (D := (dC, dI)) (ci := 0) (v := .int bu_port) (C := RX0) (T := TX0) (N := 8) hx hb hts hiX0 hown hK hP 0 rfl rfl 6 (by decide) (hts _ kFX0_11) (fun _ h9 => h9) rfl dX0_peekMemory_43 ?_
          refine lv_iconst (v := 2) hx hb dX0_peekMemory_46 (by decide) ?_
          refine lv_iand hx hb dX0_peekMemory_47 ?_
          refine lv_if_eq (tgt := 58) hx hb dX0_peekMemory_48 (by decide) (fun c_48 => ?_) (fun c_48 => ?_)
          · have hF := hF.trans (if_pos c_48)
            refine lv_iload_n hx hb dX0_peekMemory_58 rfl (lv_at hl 1 rfl) ?_
            refine lv_sipush (v := 7168) hx hb dX0_peekMemory_59 (by decide) ?_
            refine lv_icmp_lt (tgt := 94) hx hb dX0_peekMemory_62 (by decide) (fun c_62 => ?_) (fun c_62 => ?_)
            · have hF := hF.trans (if_pos c_62)
              refine lv_iload_n hx hb dX0_peekMemory_94 rfl (lv_at hl 1 rfl) ?_
              refine lv_sipush (v := 6656) hx hb dX0_peekMemory_95 (by decide) ?_
              refine lv_icmp_lt (tgt := 121) hx hb dX0_peekMemory_98 (by decide) (fun c_98 => ?_) (fun c_98 => ?_)
              · have hF := hF.trans (if_pos c_98)
                refine lv_aload_n hx hb dX0_peekMemory_121 rfl (lv_at hl 2 rfl) ?_
                refine va_get (D := (dC, dI)) (ci := 0) (v := .ref q_ra) (C := RX0) (T := TX0) (N := 8) hx hb hts hiX0 hown hK hP 0 rfl rfl 0 (by decide) (hts _ kFX0_18) (fun _ h9 => h9) rfl dX0_peekMemory_122 ?_
                refine lv_iload_n hx hb dX0_peekMemory_125 rfl (lv_at hl 1 rfl) ?_
                refine va_iald hx hb hK hP 1 0 rfl rfl (rg_and p1) dX0_peekMemory_126 ?_
                exact W.iret (v := (f_ra (p1 &&& (8191:Int32)).toNatClampNeg)) hx hb hr (fun t ht hW => ⟨⟨(f_ra (p1 &&& (8191:Int32)).toNatClampNeg), (), rfl, hF.symm, by rw [ht]; exact hP, va_K.moved hW.alike hK, hD⟩, hS.F ht⟩) hS.2.2 dX0_peekMemory_127
              · have hF := hF.trans (if_neg c_98)
                refine lv_aload_n hx hb dX0_peekMemory_101 rfl (lv_at hl 2 rfl) ?_
                refine va_get (D := (dC, dI)) (ci := 0) (v := .int bu_port) (C := RX0) (T := TX0) (N := 8) hx hb hts hiX0 hown hK hP 0 rfl rfl 6 (by decide) (hts _ kFX0_11) (fun _ h9 => h9) rfl dX0_peekMemory_102 ?_
                refine lv_iconst (v := 3) hx hb dX0_peekMemory_105 (by decide) ?_
                refine lv_iand hx hb dX0_peekMemory_106 ?_
                refine lv_if_eq (tgt := 121) hx hb dX0_peekMemory_107 (by decide) (fun c_107 => ?_) (fun c_107 => ?_)
                · have hF := hF.trans (if_pos c_107)
                  refine lv_aload_n hx hb dX0_peekMemory_121 rfl (lv_at hl 2 rfl) ?_
                  refine va_get (D := (dC, dI)) (ci := 0) (v := .ref q_ra) (C := RX0) (T := TX0) (N := 8) hx hb hts hiX0 hown hK hP 0 rfl rfl 0 (by decide) (hts _ kFX0_18) (fun _ h9 => h9) rfl dX0_peekMemory_122 ?_
                  refine lv_iload_n hx hb dX0_peekMemory_125 rfl (lv_at hl 1 rfl) ?_
                  refine va_iald hx hb hK hP 1 0 rfl rfl (rg_and p1) dX0_peekMemory_126 ?_
                  exact W.iret (v := (f_ra (p1 &&& (8191:Int32)).toNatClampNeg)) hx hb hr (fun t ht hW => ⟨⟨(f_ra (p1 &&& (8191:Int32)).toNatClampNeg), (), rfl, hF.symm, by rw [ht]; exact hP, va_K.moved hW.alike hK, hD⟩, hS.F ht⟩) hS.2.2 dX0_peekMemory_127
                · have hF := hF.trans (if_neg c_107)
                  refine lv_aload_n hx hb dX0_peekMemory_110 rfl (lv_at hl 2 rfl) ?_
                  refine va_get (D := (dC, dI)) (ci := 0) (v := .ref q_rc) (C := RX0) (T := TX0) (N := 8) hx hb hts hiX0 hown hK hP 0 rfl rfl 2 (by decide) (hts _ kFX0_25) (fun _ h9 => h9) rfl dX0_peekMemory_111 ?_
                  refine lv_iload_n hx hb dX0_peekMemory_114 rfl (lv_at hl 1 rfl) ?_
                  refine lv_sipush (v := 6656) hx hb dX0_peekMemory_115 (by decide) ?_
                  refine lv_isub hx hb dX0_peekMemory_118 ?_
                  refine va_iald hx hb hK hP 3 2 rfl rfl (rg_off 6656 512 c_98 c_62 (by decide)) dX0_peekMemory_119 ?_
                  exact W.iret (v := (f_rc ((p1 &&& (8191:Int32)) - (6656:Int32)).toNatClampNeg)) hx hb hr (fun t ht hW => ⟨⟨(f_rc ((p1 &&& (8191:Int32)) - (6656:Int32)).toNatClampNeg), (), rfl, hF.symm, by rw [ht]; exact hP, va_K.moved hW.alike hK, hD⟩, hS.F ht⟩) hS.2.2 dX0_peekMemory_120
            · have hF := hF.trans (if_neg c_62)
              refine lv_aload_n hx hb dX0_peekMemory_65 rfl (lv_at hl 2 rfl) ?_
              refine va_get (D := (dC, dI)) (ci := 0) (v := .int bu_port) (C := RX0) (T := TX0) (N := 8) hx hb hts hiX0 hown hK hP 0 rfl rfl 6 (by decide) (hts _ kFX0_11) (fun _ h9 => h9) rfl dX0_peekMemory_66 ?_
              refine lv_iconst (v := 2) hx hb dX0_peekMemory_69 (by decide) ?_
              refine lv_iand hx hb dX0_peekMemory_70 ?_
              refine lv_if_eq (tgt := 87) hx hb dX0_peekMemory_71 (by decide) (fun c_71 => ?_) (fun c_71 => by exact absurd c_48 c_71)
              refine lv_aload_n hx hb dX0_peekMemory_87 rfl (lv_at hl 2 rfl) ?_
              refine va_get (D := (dC, dI)) (ci := 0) (v := .ref q_ra) (C := RX0) (T := TX0) (N := 8) hx hb hts hiX0 hown hK hP 0 rfl rfl 0 (by decide) (hts _ kFX0_18) (fun _ h9 => h9) rfl dX0_peekMemory_88 ?_
              refine lv_iload_n hx hb dX0_peekMemory_91 rfl (lv_at hl 1 rfl) ?_
              refine va_iald hx hb hK hP 1 0 rfl rfl (rg_and p1) dX0_peekMemory_92 ?_
              exact W.iret (v := (f_ra (p1 &&& (8191:Int32)).toNatClampNeg)) hx hb hr (fun t ht hW => ⟨⟨(f_ra (p1 &&& (8191:Int32)).toNatClampNeg), (), rfl, hF.symm, by rw [ht]; exact hP, va_K.moved hW.alike hK, hD⟩, hS.F ht⟩) hS.2.2 dX0_peekMemory_93
          · have hF := hF.trans (if_neg c_48)
            refine lv_aload_n hx hb dX0_peekMemory_51 rfl (lv_at hl 2 rfl) ?_
            refine va_get (D := (dC, dI)) (ci := 0) (v := .ref q_rA) (C := RX0) (T := TX0) (N := 8) hx hb hts hiX0 hown hK hP 0 rfl rfl 1 (by decide) (hts _ kFX0_22) (fun _ h9 => h9) rfl dX0_peekMemory_52 ?_
            refine lv_iload_n hx hb dX0_peekMemory_55 rfl (lv_at hl 0 rfl) ?_
            refine va_iald hx hb hK hP 2 1 rfl rfl (rg_lt c_23 c_30 (by decide)) dX0_peekMemory_56 ?_
            exact W.iret (v := (f_rA ((p1 &&& (8191:Int32)) - (5120:Int32)).toNatClampNeg)) hx hb hr (fun t ht hW => ⟨⟨(f_rA ((p1 &&& (8191:Int32)) - (5120:Int32)).toNatClampNeg), (), rfl, hF.symm, by rw [ht]; exact hP, va_K.moved hW.alike hK, hD⟩, hS.F ht⟩) hS.2.2 dX0_peekMemory_57
  · have hF := hF.trans (if_pos c_8)
    refine lv_aload_n hx hb dX0_peekMemory_11 rfl (lv_at hl 1 rfl) ?_
    refine va_get (D := (dC, dI)) (ci := 0) (v := .int bu_port) (C := RX0) (T := TX0) (N := 8) hx hb hts hiX0 hown hK hP 0 rfl rfl 6 (by decide) (hts _ kFX0_11) (fun _ h9 => h9) rfl dX0_peekMemory_12 ?_
    exact W.iret (v := bu_port) hx hb hr (fun t ht hW => ⟨⟨bu_port, (), rfl, hF.symm, by rw [ht]; exact hP, va_K.moved hW.alike hK, hD⟩, hS.F ht⟩) hS.2.2 dX0_peekMemory_15
def fX2_peekRegister (p1 : Int32) (pi_line : Int32) (pi_control : Int32) (pi_ground : Int32) (pi_border : Int32) (pi_base : Int32) (pi_flag : Int32) (pi_enabled : Int32) : Int32 :=
  if p1 = (0:Int32) then
   pi_control
  else
   if p1 = (1:Int32) then
    pi_line
   else
    if p1 = (2:Int32) then
     pi_ground
    else
     if p1 = (3:Int32) then
      pi_border
     else
      if p1 = (4:Int32) then
       (if pi_flag = (0:Int32) then (0:Int32) else (if pi_enabled = (0:Int32) then (1:Int32) else (129:Int32)))
      else
       if p1 = (5:Int32) then
        (if pi_enabled = (0:Int32) then (0:Int32) else (1:Int32))
       else
        if p1 = (6:Int32) then
         pi_base
        else
         (0:Int32)
set_option maxHeartbeats 4000000 in
set_option maxRecDepth 100000 in
theorem mX2_peekRegister (l : Launch) (dC : Nat → ClassId) (dI : Nat → Nat → Nat) (q_pi q_ra q_rc q_po q_co q_wc q_wo : Nat) (k_ra k_rc k_po k_co k_wc k_wo : ClassId) (sz : Nat) (pi_line pi_cycle pi_control pi_compareLine pi_ground pi_border pi_base pi_flag pi_enabled pi_idle pi_bad pi_glyphLine pi_rowToFetch : Int32) (f_ra f_rc f_po f_co f_wc f_wo : Nat → Int32) (p1 : Int32) : Met l yX2_peekRegister uX2_peekRegister ({ frames := 0, cells := 0, slots := 0, locals := 0 }) (va_Pc [.ref q_pi, .int p1] (fun U => U.heap.size = sz ∧ va_P (dC, dI) vwCl (wwX2 q_pi q_ra q_rc q_po q_co q_wc q_wo k_ra k_rc k_po k_co k_wc k_wo pi_line pi_cycle pi_control pi_compareLine pi_ground pi_border pi_base pi_flag pi_enabled pi_idle pi_bad pi_glyphLine pi_rowToFetch f_ra f_rc f_po f_co f_wc f_wo) U.heap ∧ va_K (dC, dI) vwCl [(k_ra, .int), (k_rc, .int), (k_po, .int), (k_co, .int), (k_wc, .int), (k_wo, .int)] U ∧ va_D (fun _ => True) (wwX2 q_pi q_ra q_rc q_po q_co q_wc q_wo k_ra k_rc k_po k_co k_wc k_wo pi_line pi_cycle pi_control pi_compareLine pi_ground pi_border pi_base pi_flag pi_enabled pi_idle pi_bad pi_glyphLine pi_rowToFetch f_ra f_rc f_po f_co f_wc f_wo))) (va_Qi (fun (r : Int32) (u : Unit) => r = fX2_peekRegister p1 pi_line pi_control pi_ground pi_border pi_base pi_flag pi_enabled) (fun (u : Unit) (t : State) => va_P (dC, dI) vwCl (wwX2 q_pi q_ra q_rc q_po q_co q_wc q_wo k_ra k_rc k_po k_co k_wc k_wo pi_line pi_cycle pi_control pi_compareLine pi_ground pi_border pi_base pi_flag pi_enabled pi_idle pi_bad pi_glyphLine pi_rowToFetch f_ra f_rc f_po f_co f_wc f_wo) t.heap ∧ va_K (dC, dI) vwCl [(k_ra, .int), (k_rc, .int), (k_po, .int), (k_co, .int), (k_wc, .int), (k_wo, .int)] t ∧ va_D (va_A (wwX2 q_pi q_ra q_rc q_po q_co q_wc q_wo k_ra k_rc k_po k_co k_wc k_wo pi_line pi_cycle pi_control pi_compareLine pi_ground pi_border pi_base pi_flag pi_enabled pi_idle pi_bad pi_glyphLine pi_rowToFetch f_ra f_rc f_po f_co f_wc f_wo) sz) (wwX2 q_pi q_ra q_rc q_po q_co q_wc q_wo k_ra k_rc k_po k_co k_wc k_wo pi_line pi_cycle pi_control pi_compareLine pi_ground pi_border pi_base pi_flag pi_enabled pi_idle pi_bad pi_glyphLine pi_rowToFetch f_ra f_rc f_po f_co f_wc f_wo)) (va_A (wwX2 q_pi q_ra q_rc q_po q_co q_wc q_wo k_ra k_rc k_po k_co k_wc k_wo pi_line pi_cycle pi_control pi_compareLine pi_ground pi_border pi_base pi_flag pi_enabled pi_idle pi_bad pi_glyphLine pi_rowToFetch f_ra f_rc f_po f_co f_wc f_wo) sz)) 0 0 (va_A (wwX2 q_pi q_ra q_rc q_po q_co q_wc q_wo k_ra k_rc k_po k_co k_wc k_wo pi_line pi_cycle pi_control pi_compareLine pi_ground pi_border pi_base pi_flag pi_enabled pi_idle pi_bad pi_glyphLine pi_rowToFetch f_ra f_rc f_po f_co f_wc f_wo) sz) := by
  refine Met.ofW (cc := cX2_peekRegister) (maxL := 2) (ret := (some .int)) (by decide) rfl ?_
  intro p e s m args below meth c s₁ B hml hv
  obtain ⟨rfl, hsz, hP, hK, hD0⟩ := hv
  have hx := B.exec
  have hb := B.bytes
  have hr := B.returns
  have hts : ∀ w ∈ ub, w.before _ s = true := fun w h => atoms_spec (ws := uX2_peekRegister) B.pre w (List.mem_cons_of_mem _ h)
  have hown : s.vm.findClass RX2 = some m.cls := findClass_of_methodNamed B.named
  have hlocks := B.notSynchronized
  subst hsz
  have hD := hD0.self (sz := s.heap.size)
  generalize hAe : va_A (wwX2 q_pi q_ra q_rc q_po q_co q_wc q_wo k_ra k_rc k_po k_co k_wc k_wo pi_line pi_cycle pi_control pi_compareLine pi_ground pi_border pi_base pi_flag pi_enabled pi_idle pi_bad pi_glyphLine pi_rowToFetch f_ra f_rc f_po f_co f_wc f_wo) s.heap.size = A at hD ⊢
  have hA : ∀ q : Nat, s.heap.size ≤ q → A q := fun q h => by rw [← hAe]; exact Or.inr h
  have hS : va_S A s.heap s.heap [] := va_S.rf
  have hl := lv_entry ([.ref q_pi, .int p1]) (n := 2) (Nat.le_of_ble_eq_true rfl)
  rw [lg_entry_eq]
  generalize (lg_sl ([.ref q_pi, .int p1]) ++ List.replicate (2 - (lg_sl ([.ref q_pi, .int p1])).length) Slot.unset).toArray = ls at hl ⊢
  have hl : lv_has ls 2 [(0, .ref q_pi), (1, .int p1)] := hl
  have hF := fX2_peekRegister.eq_1 p1 pi_line pi_control pi_ground pi_border pi_base pi_flag pi_enabled
  refine lv_iload_n hx hb dX2_peekRegister_0 rfl (lv_at hl 1 rfl) ?_
  by_cases c_1_0 : p1 = (0:Int32)
  · have hF := hF.trans (if_pos c_1_0)
    refine lv_tableIn (off := 43) (tgt := 44) hx hb dX2_peekRegister_1 (by rw [c_1_0]; decide) (by rw [c_1_0]; decide) (by rw [c_1_0]; first | rfl | decide) (by decide) ?_
    refine lv_aload_n hx hb dX2_peekRegister_44 rfl (lv_at hl 0 rfl) ?_
    refine va_get (D := (dC, dI)) (ci := 2) (v := .int pi_control) (C := RX2) (T := TX2) (N := 19) hx hb hts hiX2 hown hK hP 0 rfl rfl 8 (by decide) (hts _ kFX2_74) (fun _ h9 => h9) rfl dX2_peekRegister_45 ?_
    exact W.iret (v := pi_control) hx hb hr (fun t ht hW => ⟨⟨pi_control, (), rfl, hF.symm, by rw [ht]; exact hP, va_K.moved hW.alike hK, hD⟩, hS.F ht⟩) hS.2.2 dX2_peekRegister_48
  have hF := hF.trans (if_neg c_1_0)
  by_cases c_1_1 : p1 = (1:Int32)
  · have hF := hF.trans (if_pos c_1_1)
    refine lv_tableIn (off := 48) (tgt := 49) hx hb dX2_peekRegister_1 (by rw [c_1_1]; decide) (by rw [c_1_1]; decide) (by rw [c_1_1]; first | rfl | decide) (by decide) ?_
    refine lv_aload_n hx hb dX2_peekRegister_49 rfl (lv_at hl 0 rfl) ?_
    refine va_get (D := (dC, dI)) (ci := 2) (v := .int pi_line) (C := RX2) (T := TX2) (N := 19) hx hb hts hiX2 hown hK hP 0 rfl rfl 6 (by decide) (hts _ kFX2_58) (fun _ h9 => h9) rfl dX2_peekRegister_50 ?_
    exact W.iret (v := pi_line) hx hb hr (fun t ht hW => ⟨⟨pi_line, (), rfl, hF.symm, by rw [ht]; exact hP, va_K.moved hW.alike hK, hD⟩, hS.F ht⟩) hS.2.2 dX2_peekRegister_53
  have hF := hF.trans (if_neg c_1_1)
  by_cases c_1_2 : p1 = (2:Int32)
  · have hF := hF.trans (if_pos c_1_2)
    refine lv_tableIn (off := 53) (tgt := 54) hx hb dX2_peekRegister_1 (by rw [c_1_2]; decide) (by rw [c_1_2]; decide) (by rw [c_1_2]; first | rfl | decide) (by decide) ?_
    refine lv_aload_n hx hb dX2_peekRegister_54 rfl (lv_at hl 0 rfl) ?_
    refine va_get (D := (dC, dI)) (ci := 2) (v := .int pi_ground) (C := RX2) (T := TX2) (N := 19) hx hb hts hiX2 hown hK hP 0 rfl rfl 10 (by decide) (hts _ kFX2_83) (fun _ h9 => h9) rfl dX2_peekRegister_55 ?_
    exact W.iret (v := pi_ground) hx hb hr (fun t ht hW => ⟨⟨pi_ground, (), rfl, hF.symm, by rw [ht]; exact hP, va_K.moved hW.alike hK, hD⟩, hS.F ht⟩) hS.2.2 dX2_peekRegister_58
  have hF := hF.trans (if_neg c_1_2)
  by_cases c_1_3 : p1 = (3:Int32)
  · have hF := hF.trans (if_pos c_1_3)
    refine lv_tableIn (off := 58) (tgt := 59) hx hb dX2_peekRegister_1 (by rw [c_1_3]; decide) (by rw [c_1_3]; decide) (by rw [c_1_3]; first | rfl | decide) (by decide) ?_
    refine lv_aload_n hx hb dX2_peekRegister_59 rfl (lv_at hl 0 rfl) ?_
    refine va_get (D := (dC, dI)) (ci := 2) (v := .int pi_border) (C := RX2) (T := TX2) (N := 19) hx hb hts hiX2 hown hK hP 0 rfl rfl 11 (by decide) (hts _ kFX2_86) (fun _ h9 => h9) rfl dX2_peekRegister_60 ?_
    exact W.iret (v := pi_border) hx hb hr (fun t ht hW => ⟨⟨pi_border, (), rfl, hF.symm, by rw [ht]; exact hP, va_K.moved hW.alike hK, hD⟩, hS.F ht⟩) hS.2.2 dX2_peekRegister_63
  have hF := hF.trans (if_neg c_1_3)
  by_cases c_1_4 : p1 = (4:Int32)
  · have hF := hF.trans (if_pos c_1_4)
    refine lv_tableIn (off := 63) (tgt := 64) hx hb dX2_peekRegister_1 (by rw [c_1_4]; decide) (by rw [c_1_4]; decide) (by rw [c_1_4]; first | rfl | decide) (by decide) ?_
    refine lv_aload_n hx hb dX2_peekRegister_64 rfl (lv_at hl 0 rfl) ?_
    refine va_get (D := (dC, dI)) (ci := 2) (v := .int pi_flag) (C := RX2) (T := TX2) (N := 19) hx hb hts hiX2 hown hK hP 0 rfl rfl 13 (by decide) (hts _ kFX2_61) (fun _ h9 => h9) rfl dX2_peekRegister_65 ?_
    refine vj_join (j := 89) (rest := []) (Hyp := fun z H locs => z = (if pi_flag = (0:Int32) then (0:Int32) else (if pi_enabled = (0:Int32) then (1:Int32) else (129:Int32))) ∧ va_P (dC, dI) vwCl (wwX2 q_pi q_ra q_rc q_po q_co q_wc q_wo k_ra k_rc k_po k_co k_wc k_wo pi_line pi_cycle pi_control pi_compareLine pi_ground pi_border pi_base pi_flag pi_enabled pi_idle pi_bad pi_glyphLine pi_rowToFetch f_ra f_rc f_po f_co f_wc f_wo) H ∧ va_S A s.heap H locs) (fun z H locs hh => ?_) (fun J89 => ?_)
    · obtain ⟨hz, hP, hS⟩ := hh
      subst hz
      exact W.iret (v := (if pi_flag = (0:Int32) then (0:Int32) else (if pi_enabled = (0:Int32) then (1:Int32) else (129:Int32)))) hx hb hr (fun t ht hW => ⟨⟨(if pi_flag = (0:Int32) then (0:Int32) else (if pi_enabled = (0:Int32) then (1:Int32) else (129:Int32))), (), rfl, hF.symm, by rw [ht]; exact hP, va_K.moved hW.alike hK, hD⟩, hS.F ht⟩) hS.2.2 dX2_peekRegister_89
    · refine lv_if_eq (tgt := 88) hx hb dX2_peekRegister_68 (by decide) (fun c_68 => ?_) (fun c_68 => ?_)
      · refine lv_iconst (v := 0) hx hb dX2_peekRegister_88 (by decide) ?_
        exact J89 _ _ _ ⟨by rw [if_pos c_68], hP, hS⟩
      · refine lv_aload_n hx hb dX2_peekRegister_71 rfl (lv_at hl 0 rfl) ?_
        refine va_get (D := (dC, dI)) (ci := 2) (v := .int pi_enabled) (C := RX2) (T := TX2) (N := 19) hx hb hts hiX2 hown hK hP 0 rfl rfl 14 (by decide) (hts _ kFX2_64) (fun _ h9 => h9) rfl dX2_peekRegister_72 ?_
        refine lv_if_eq (tgt := 84) hx hb dX2_peekRegister_75 (by decide) (fun c_75 => ?_) (fun c_75 => ?_)
        · refine lv_iconst (v := 1) hx hb dX2_peekRegister_84 (by decide) ?_
          refine lv_goto (tgt := 89) hx hb dX2_peekRegister_85 (by decide) ?_
          exact J89 _ _ _ ⟨by rw [if_neg c_68, if_pos c_75], hP, hS⟩
        · refine lv_sipush (v := 129) hx hb dX2_peekRegister_78 (by decide) ?_
          refine lv_goto (tgt := 89) hx hb dX2_peekRegister_81 (by decide) ?_
          exact J89 _ _ _ ⟨by rw [if_neg c_68, if_neg c_75], hP, hS⟩
  have hF := hF.trans (if_neg c_1_4)
  by_cases c_1_5 : p1 = (5:Int32)
  · have hF := hF.trans (if_pos c_1_5)
    refine lv_tableIn (off := 89) (tgt := 90) hx hb dX2_peekRegister_1 (by rw [c_1_5]; decide) (by rw [c_1_5]; decide) (by rw [c_1_5]; first | rfl | decide) (by decide) ?_
    refine lv_aload_n hx hb dX2_peekRegister_90 rfl (lv_at hl 0 rfl) ?_
    refine va_get (D := (dC, dI)) (ci := 2) (v := .int pi_enabled) (C := RX2) (T := TX2) (N := 19) hx hb hts hiX2 hown hK hP 0 rfl rfl 14 (by decide) (hts _ kFX2_64) (fun _ h9 => h9) rfl dX2_peekRegister_91 ?_
    refine vj_join (j := 102) (rest := []) (Hyp := fun z H locs => z = (if pi_enabled = (0:Int32) then (0:Int32) else (1:Int32)) ∧ va_P (dC, dI) vwCl (wwX2 q_pi q_ra q_rc q_po q_co q_wc q_wo k_ra k_rc k_po k_co k_wc k_wo pi_line pi_cycle pi_control pi_compareLine pi_ground pi_border pi_base pi_flag pi_enabled pi_idle pi_bad pi_glyphLine pi_rowToFetch f_ra f_rc f_po f_co f_wc f_wo) H ∧ va_S A s.heap H locs) (fun z H locs hh => ?_) (fun J102 => ?_)
    · obtain ⟨hz, hP, hS⟩ := hh
      subst hz
      exact W.iret (v := (if pi_enabled = (0:Int32) then (0:Int32) else (1:Int32))) hx hb hr (fun t ht hW => ⟨⟨(if pi_enabled = (0:Int32) then (0:Int32) else (1:Int32)), (), rfl, hF.symm, by rw [ht]; exact hP, va_K.moved hW.alike hK, hD⟩, hS.F ht⟩) hS.2.2 dX2_peekRegister_102
    · refine lv_if_eq (tgt := 101) hx hb dX2_peekRegister_94 (by decide) (fun c_94 => ?_) (fun c_94 => ?_)
      · refine lv_iconst (v := 0) hx hb dX2_peekRegister_101 (by decide) ?_
        exact J102 _ _ _ ⟨by rw [if_pos c_94], hP, hS⟩
      · refine lv_iconst (v := 1) hx hb dX2_peekRegister_97 (by decide) ?_
        refine lv_goto (tgt := 102) hx hb dX2_peekRegister_98 (by decide) ?_
        exact J102 _ _ _ ⟨by rw [if_neg c_94], hP, hS⟩
  have hF := hF.trans (if_neg c_1_5)
  by_cases c_1_6 : p1 = (6:Int32)
  · have hF := hF.trans (if_pos c_1_6)
    refine lv_tableIn (off := 102) (tgt := 103) hx hb dX2_peekRegister_1 (by rw [c_1_6]; decide) (by rw [c_1_6]; decide) (by rw [c_1_6]; first | rfl | decide) (by decide) ?_
    refine lv_aload_n hx hb dX2_peekRegister_103 rfl (lv_at hl 0 rfl) ?_
    refine va_get (D := (dC, dI)) (ci := 2) (v := .int pi_base) (C := RX2) (T := TX2) (N := 19) hx hb hts hiX2 hown hK hP 0 rfl rfl 12 (by decide) (hts _ kFX2_80) (fun _ h9 => h9) rfl dX2_peekRegister_104 ?_
    exact W.iret (v := pi_base) hx hb hr (fun t ht hW => ⟨⟨pi_base, (), rfl, hF.symm, by rw [ht]; exact hP, va_K.moved hW.alike hK, hD⟩, hS.F ht⟩) hS.2.2 dX2_peekRegister_107
  have hF := hF.trans (if_neg c_1_6)
  refine vt_dflt (tgt := 108) hx hb dX2_peekRegister_1 (fun x_ h1 h2 h3 => by have n0 := lv_neT (a := 0) c_1_0 rfl; have n1 := lv_neT (a := 1) c_1_1 rfl; have n2 := lv_neT (a := 2) c_1_2 rfl; have n3 := lv_neT (a := 3) c_1_3 rfl; have n4 := lv_neT (a := 4) c_1_4 rfl; have n5 := lv_neT (a := 5) c_1_5 rfl; have n6 := lv_neT (a := 6) c_1_6 rfl; exfalso; omega) (by decide) ?_
  refine lv_iconst (v := 0) hx hb dX2_peekRegister_108 (by decide) ?_
  exact W.iret (v := (0:Int32)) hx hb hr (fun t ht hW => ⟨⟨(0:Int32), (), rfl, hF.symm, by rw [ht]; exact hP, va_K.moved hW.alike hK, hD⟩, hS.F ht⟩) hS.2.2 dX2_peekRegister_109
def fX0_isInterfacePlace (p1 : Int32) : Int32 :=
  (if p1 < (64:Int32) then (0:Int32) else (if (128:Int32) ≤ p1 then (0:Int32) else (1:Int32)))
set_option maxHeartbeats 4000000 in
set_option maxRecDepth 100000 in
theorem mX0_isInterfacePlace (l : Launch) (dC : Nat → ClassId) (dI : Nat → Nat → Nat) (sz : Nat) (p1 : Int32) : Met l yX0_isInterfacePlace uX0_isInterfacePlace ({ frames := 0, cells := 0, slots := 0, locals := 0 }) (va_Pc [.int p1] (fun U => U.heap.size = sz ∧ va_P (dC, dI) vwCl ([] : va_W) U.heap ∧ va_K (dC, dI) vwCl [] U ∧ va_D (fun _ => True) ([] : va_W))) (va_Qi (fun (r : Int32) (u : Unit) => r = fX0_isInterfacePlace p1) (fun (u : Unit) (t : State) => va_P (dC, dI) vwCl ([] : va_W) t.heap ∧ va_K (dC, dI) vwCl [] t ∧ va_D (va_A ([] : va_W) sz) ([] : va_W)) (va_A ([] : va_W) sz)) 0 0 (va_A ([] : va_W) sz) := by
  refine Met.ofW (cc := cX0_isInterfacePlace) (maxL := 1) (ret := (some .boolean)) (by decide) rfl ?_
  intro p e s m args below meth c s₁ B hml hv
  obtain ⟨rfl, hsz, hP, hK, hD0⟩ := hv
  have hx := B.exec
  have hb := B.bytes
  have hr := B.returns
  have hts : ∀ w ∈ ub, w.before _ s = true := fun w h => atoms_spec (ws := uX0_isInterfacePlace) B.pre w (List.mem_cons_of_mem _ h)
  have hown : s.vm.findClass RX0 = some m.cls := findClass_of_methodNamed B.named
  have hlocks := B.notSynchronized
  subst hsz
  have hD := hD0.self (sz := s.heap.size)
  generalize hAe : va_A ([] : va_W) s.heap.size = A at hD ⊢
  have hA : ∀ q : Nat, s.heap.size ≤ q → A q := fun q h => by rw [← hAe]; exact Or.inr h
  have hS : va_S A s.heap s.heap [] := va_S.rf
  have hl := lv_entry ([.int p1]) (n := 1) (Nat.le_of_ble_eq_true rfl)
  rw [lg_entry_eq]
  generalize (lg_sl ([.int p1]) ++ List.replicate (1 - (lg_sl ([.int p1])).length) Slot.unset).toArray = ls at hl ⊢
  have hl : lv_has ls 1 [(0, .int p1)] := hl
  have hF := fX0_isInterfacePlace.eq_1 p1
  refine lv_iload_n hx hb dX0_isInterfacePlace_0 rfl (lv_at hl 0 rfl) ?_
  refine lv_bipush (v := 64) hx hb dX0_isInterfacePlace_1 (by decide) ?_
  refine vj_join (j := 18) (rest := []) (Hyp := fun z H locs => z = (if p1 < (64:Int32) then (0:Int32) else (if (128:Int32) ≤ p1 then (0:Int32) else (1:Int32))) ∧ va_P (dC, dI) vwCl ([] : va_W) H ∧ va_S A s.heap H locs) (fun z H locs hh => ?_) (fun J18 => ?_)
  · obtain ⟨hz, hP, hS⟩ := hh
    subst hz
    exact W.zret (v := (if p1 < (64:Int32) then (0:Int32) else (if (128:Int32) ≤ p1 then (0:Int32) else (1:Int32)))) hx hb hr (nb_if rfl (nb_if rfl rfl)) (fun t ht hW => ⟨⟨(if p1 < (64:Int32) then (0:Int32) else (if (128:Int32) ≤ p1 then (0:Int32) else (1:Int32))), (), rfl, hF.symm, by rw [ht]; exact hP, va_K.moved hW.alike hK, hD⟩, hS.F ht⟩) hS.2.2 dX0_isInterfacePlace_18
  · refine lv_icmp_lt (tgt := 17) hx hb dX0_isInterfacePlace_3 (by decide) (fun c_3 => ?_) (fun c_3 => ?_)
    · refine lv_iconst (v := 0) hx hb dX0_isInterfacePlace_17 (by decide) ?_
      exact J18 _ _ _ ⟨by rw [if_pos c_3], hP, hS⟩
    · refine lv_iload_n hx hb dX0_isInterfacePlace_6 rfl (lv_at hl 0 rfl) ?_
      refine lv_sipush (v := 128) hx hb dX0_isInterfacePlace_7 (by decide) ?_
      refine lv_icmp_ge (tgt := 17) hx hb dX0_isInterfacePlace_10 (by decide) (fun c_10 => ?_) (fun c_10 => ?_)
      · refine lv_iconst (v := 0) hx hb dX0_isInterfacePlace_17 (by decide) ?_
        exact J18 _ _ _ ⟨by rw [if_neg c_3, if_pos c_10], hP, hS⟩
      · refine lv_iconst (v := 1) hx hb dX0_isInterfacePlace_13 (by decide) ?_
        refine lv_goto (tgt := 18) hx hb dX0_isInterfacePlace_14 (by decide) ?_
        exact J18 _ _ _ ⟨by rw [if_neg c_3, if_neg c_10], hP, hS⟩
def fX1_peekRegister (p1 : Int32) (ic_rows : Int32) (ic_keysSeen : Int32) (ic_flags : Int32) (ic_enabled : Int32) (ta_control : Int32) (ta_count : Int32) (tb_control : Int32) (tb_count : Int32) : Int32 :=
  if p1 = (0:Int32) then
   ic_rows
  else
   if p1 = (1:Int32) then
    ic_keysSeen
   else
    if p1 = (4:Int32) then
     (ta_count &&& (255:Int32))
    else
     if p1 = (5:Int32) then
      (ta_count >>> ((8:Int32) &&& (31:Int32)))
     else
      if p1 = (6:Int32) then
       (tb_count &&& (255:Int32))
      else
       if p1 = (7:Int32) then
        (tb_count >>> ((8:Int32) &&& (31:Int32)))
       else
        if p1 = (13:Int32) then
         (ic_flags + (if (ic_flags &&& ic_enabled) = (0:Int32) then (0:Int32) else (128:Int32)))
        else
         if p1 = (14:Int32) then
          ta_control
         else
          if p1 = (15:Int32) then
           tb_control
          else
           (0:Int32)
set_option maxHeartbeats 4000000 in
set_option maxRecDepth 100000 in
theorem mX1_peekRegister (l : Launch) (dC : Nat → ClassId) (dI : Nat → Nat → Nat) (q_ic q_ky q_ta q_tb : Nat) (k_ky : ClassId) (sz : Nat) (ic_rows ic_keysSeen ic_flags ic_enabled ta_controlBits ta_control ta_count ta_latch tb_controlBits tb_control tb_count tb_latch : Int32) (f_ky : Nat → Int32) (p1 : Int32) : Met l yX1_peekRegister uX1_peekRegister ({ frames := 0, cells := 0, slots := 0, locals := 0 }) (va_Pc [.ref q_ic, .int p1] (fun U => U.heap.size = sz ∧ va_P (dC, dI) vwCl (wwX1 q_ic q_ky q_ta q_tb k_ky ic_rows ic_keysSeen ic_flags ic_enabled ta_controlBits ta_control ta_count ta_latch tb_controlBits tb_control tb_count tb_latch f_ky) U.heap ∧ va_K (dC, dI) vwCl [(k_ky, .int)] U ∧ va_D (fun _ => True) (wwX1 q_ic q_ky q_ta q_tb k_ky ic_rows ic_keysSeen ic_flags ic_enabled ta_controlBits ta_control ta_count ta_latch tb_controlBits tb_control tb_count tb_latch f_ky))) (va_Qi (fun (r : Int32) (u : Unit) => r = fX1_peekRegister p1 ic_rows ic_keysSeen ic_flags ic_enabled ta_control ta_count tb_control tb_count) (fun (u : Unit) (t : State) => va_P (dC, dI) vwCl (wwX1 q_ic q_ky q_ta q_tb k_ky ic_rows ic_keysSeen ic_flags ic_enabled ta_controlBits ta_control ta_count ta_latch tb_controlBits tb_control tb_count tb_latch f_ky) t.heap ∧ va_K (dC, dI) vwCl [(k_ky, .int)] t ∧ va_D (va_A (wwX1 q_ic q_ky q_ta q_tb k_ky ic_rows ic_keysSeen ic_flags ic_enabled ta_controlBits ta_control ta_count ta_latch tb_controlBits tb_control tb_count tb_latch f_ky) sz) (wwX1 q_ic q_ky q_ta q_tb k_ky ic_rows ic_keysSeen ic_flags ic_enabled ta_controlBits ta_control ta_count ta_latch tb_controlBits tb_control tb_count tb_latch f_ky)) (va_A (wwX1 q_ic q_ky q_ta q_tb k_ky ic_rows ic_keysSeen ic_flags ic_enabled ta_controlBits ta_control ta_count ta_latch tb_controlBits tb_control tb_count tb_latch f_ky) sz)) 0 0 (va_A (wwX1 q_ic q_ky q_ta q_tb k_ky ic_rows ic_keysSeen ic_flags ic_enabled ta_controlBits ta_control ta_count ta_latch tb_controlBits tb_control tb_count tb_latch f_ky) sz) := by
  refine Met.ofW (cc := cX1_peekRegister) (maxL := 2) (ret := (some .int)) (by decide) rfl ?_
  intro p e s m args below meth c s₁ B hml hv
  obtain ⟨rfl, hsz, hP, hK, hD0⟩ := hv
  have hx := B.exec
  have hb := B.bytes
  have hr := B.returns
  have hts : ∀ w ∈ ub, w.before _ s = true := fun w h => atoms_spec (ws := uX1_peekRegister) B.pre w (List.mem_cons_of_mem _ h)
  have hown : s.vm.findClass RX1 = some m.cls := findClass_of_methodNamed B.named
  have hlocks := B.notSynchronized
  subst hsz
  have hD := hD0.self (sz := s.heap.size)
  generalize hAe : va_A (wwX1 q_ic q_ky q_ta q_tb k_ky ic_rows ic_keysSeen ic_flags ic_enabled ta_controlBits ta_control ta_count ta_latch tb_controlBits tb_control tb_count tb_latch f_ky) s.heap.size = A at hD ⊢
  have hA : ∀ q : Nat, s.heap.size ≤ q → A q := fun q h => by rw [← hAe]; exact Or.inr h
  have hS : va_S A s.heap s.heap [] := va_S.rf
  have hl := lv_entry ([.ref q_ic, .int p1]) (n := 2) (Nat.le_of_ble_eq_true rfl)
  rw [lg_entry_eq]
  generalize (lg_sl ([.ref q_ic, .int p1]) ++ List.replicate (2 - (lg_sl ([.ref q_ic, .int p1])).length) Slot.unset).toArray = ls at hl ⊢
  have hl : lv_has ls 2 [(0, .ref q_ic), (1, .int p1)] := hl
  have hF := fX1_peekRegister.eq_1 p1 ic_rows ic_keysSeen ic_flags ic_enabled ta_control ta_count tb_control tb_count
  refine lv_iload_n hx hb dX1_peekRegister_0 rfl (lv_at hl 1 rfl) ?_
  by_cases c_1_0 : p1 = (0:Int32)
  · have hF := hF.trans (if_pos c_1_0)
    refine lv_tableIn (off := 79) (tgt := 80) hx hb dX1_peekRegister_1 (by rw [c_1_0]; decide) (by rw [c_1_0]; decide) (by rw [c_1_0]; first | rfl | decide) (by decide) ?_
    refine lv_aload_n hx hb dX1_peekRegister_80 rfl (lv_at hl 0 rfl) ?_
    refine va_get (D := (dC, dI)) (ci := 1) (v := .int ic_rows) (C := RX1) (T := TX1) (N := 7) hx hb hts hiX1 hown hK hP 0 rfl rfl 3 (by decide) (hts _ kFX1_32) (fun _ h9 => h9) rfl dX1_peekRegister_81 ?_
    exact W.iret (v := ic_rows) hx hb hr (fun t ht hW => ⟨⟨ic_rows, (), rfl, hF.symm, by rw [ht]; exact hP, va_K.moved hW.alike hK, hD⟩, hS.F ht⟩) hS.2.2 dX1_peekRegister_84
  have hF := hF.trans (if_neg c_1_0)
  by_cases c_1_1 : p1 = (1:Int32)
  · have hF := hF.trans (if_pos c_1_1)
    refine lv_tableIn (off := 84) (tgt := 85) hx hb dX1_peekRegister_1 (by rw [c_1_1]; decide) (by rw [c_1_1]; decide) (by rw [c_1_1]; first | rfl | decide) (by decide) ?_
    refine lv_aload_n hx hb dX1_peekRegister_85 rfl (lv_at hl 0 rfl) ?_
    refine va_get (D := (dC, dI)) (ci := 1) (v := .int ic_keysSeen) (C := RX1) (T := TX1) (N := 7) hx hb hts hiX1 hown hK hP 0 rfl rfl 4 (by decide) (hts _ kFX1_25) (fun _ h9 => h9) rfl dX1_peekRegister_86 ?_
    exact W.iret (v := ic_keysSeen) hx hb hr (fun t ht hW => ⟨⟨ic_keysSeen, (), rfl, hF.symm, by rw [ht]; exact hP, va_K.moved hW.alike hK, hD⟩, hS.F ht⟩) hS.2.2 dX1_peekRegister_89
  have hF := hF.trans (if_neg c_1_1)
  by_cases c_1_4 : p1 = (4:Int32)
  · have hF := hF.trans (if_pos c_1_4)
    refine lv_tableIn (off := 89) (tgt := 90) hx hb dX1_peekRegister_1 (by rw [c_1_4]; decide) (by rw [c_1_4]; decide) (by rw [c_1_4]; first | rfl | decide) (by decide) ?_
    refine lv_aload_n hx hb dX1_peekRegister_90 rfl (lv_at hl 0 rfl) ?_
    refine va_get (D := (dC, dI)) (ci := 1) (v := .ref q_ta) (C := RX1) (T := TX1) (N := 7) hx hb hts hiX1 hown hK hP 0 rfl rfl 1 (by decide) (hts _ kFX1_18) (fun _ h9 => h9) rfl dX1_peekRegister_91 ?_
    refine va_get (D := (dC, dI)) (ci := 5) (v := .int ta_count) (C := RX5) (T := TX5) (N := 4) hx hb hts hiX5 hown hK hP 2 rfl rfl 2 (by decide) (hts _ kFX1_51) (fun _ h9 => h9) rfl dX1_peekRegister_94 ?_
    refine lv_sipush (v := 255) hx hb dX1_peekRegister_97 (by decide) ?_
    refine lv_iand hx hb dX1_peekRegister_100 ?_
    exact W.iret (v := (ta_count &&& (255:Int32))) hx hb hr (fun t ht hW => ⟨⟨(ta_count &&& (255:Int32)), (), rfl, hF.symm, by rw [ht]; exact hP, va_K.moved hW.alike hK, hD⟩, hS.F ht⟩) hS.2.2 dX1_peekRegister_101
  have hF := hF.trans (if_neg c_1_4)
  by_cases c_1_5 : p1 = (5:Int32)
  · have hF := hF.trans (if_pos c_1_5)
    refine lv_tableIn (off := 101) (tgt := 102) hx hb dX1_peekRegister_1 (by rw [c_1_5]; decide) (by rw [c_1_5]; decide) (by rw [c_1_5]; first | rfl | decide) (by decide) ?_
    refine lv_aload_n hx hb dX1_peekRegister_102 rfl (lv_at hl 0 rfl) ?_
    refine va_get (D := (dC, dI)) (ci := 1) (v := .ref q_ta) (C := RX1) (T := TX1) (N := 7) hx hb hts hiX1 hown hK hP 0 rfl rfl 1 (by decide) (hts _ kFX1_18) (fun _ h9 => h9) rfl dX1_peekRegister_103 ?_
    refine va_get (D := (dC, dI)) (ci := 5) (v := .int ta_count) (C := RX5) (T := TX5) (N := 4) hx hb hts hiX5 hown hK hP 2 rfl rfl 2 (by decide) (hts _ kFX1_51) (fun _ h9 => h9) rfl dX1_peekRegister_106 ?_
    refine lv_bipush (v := 8) hx hb dX1_peekRegister_109 (by decide) ?_
    refine lv_ishr hx hb dX1_peekRegister_111 ?_
    exact W.iret (v := (ta_count >>> ((8:Int32) &&& (31:Int32)))) hx hb hr (fun t ht hW => ⟨⟨(ta_count >>> ((8:Int32) &&& (31:Int32))), (), rfl, hF.symm, by rw [ht]; exact hP, va_K.moved hW.alike hK, hD⟩, hS.F ht⟩) hS.2.2 dX1_peekRegister_112
  have hF := hF.trans (if_neg c_1_5)
  by_cases c_1_6 : p1 = (6:Int32)
  · have hF := hF.trans (if_pos c_1_6)
    refine lv_tableIn (off := 112) (tgt := 113) hx hb dX1_peekRegister_1 (by rw [c_1_6]; decide) (by rw [c_1_6]; decide) (by rw [c_1_6]; first | rfl | decide) (by decide) ?_
    refine lv_aload_n hx hb dX1_peekRegister_113 rfl (lv_at hl 0 rfl) ?_
    refine va_get (D := (dC, dI)) (ci := 1) (v := .ref q_tb) (C := RX1) (T := TX1) (N := 7) hx hb hts hiX1 hown hK hP 0 rfl rfl 2 (by decide) (hts _ kFX1_22) (fun _ h9 => h9) rfl dX1_peekRegister_114 ?_
    refine va_get (D := (dC, dI)) (ci := 5) (v := .int tb_count) (C := RX5) (T := TX5) (N := 4) hx hb hts hiX5 hown hK hP 3 rfl rfl 2 (by decide) (hts _ kFX1_51) (fun _ h9 => h9) rfl dX1_peekRegister_117 ?_
    refine lv_sipush (v := 255) hx hb dX1_peekRegister_120 (by decide) ?_
    refine lv_iand hx hb dX1_peekRegister_123 ?_
    exact W.iret (v := (tb_count &&& (255:Int32))) hx hb hr (fun t ht hW => ⟨⟨(tb_count &&& (255:Int32)), (), rfl, hF.symm, by rw [ht]; exact hP, va_K.moved hW.alike hK, hD⟩, hS.F ht⟩) hS.2.2 dX1_peekRegister_124
  have hF := hF.trans (if_neg c_1_6)
  by_cases c_1_7 : p1 = (7:Int32)
  · have hF := hF.trans (if_pos c_1_7)
    refine lv_tableIn (off := 124) (tgt := 125) hx hb dX1_peekRegister_1 (by rw [c_1_7]; decide) (by rw [c_1_7]; decide) (by rw [c_1_7]; first | rfl | decide) (by decide) ?_
    refine lv_aload_n hx hb dX1_peekRegister_125 rfl (lv_at hl 0 rfl) ?_
    refine va_get (D := (dC, dI)) (ci := 1) (v := .ref q_tb) (C := RX1) (T := TX1) (N := 7) hx hb hts hiX1 hown hK hP 0 rfl rfl 2 (by decide) (hts _ kFX1_22) (fun _ h9 => h9) rfl dX1_peekRegister_126 ?_
    refine va_get (D := (dC, dI)) (ci := 5) (v := .int tb_count) (C := RX5) (T := TX5) (N := 4) hx hb hts hiX5 hown hK hP 3 rfl rfl 2 (by decide) (hts _ kFX1_51) (fun _ h9 => h9) rfl dX1_peekRegister_129 ?_
    refine lv_bipush (v := 8) hx hb dX1_peekRegister_132 (by decide) ?_
    refine lv_ishr hx hb dX1_peekRegister_134 ?_
    exact W.iret (v := (tb_count >>> ((8:Int32) &&& (31:Int32)))) hx hb hr (fun t ht hW => ⟨⟨(tb_count >>> ((8:Int32) &&& (31:Int32))), (), rfl, hF.symm, by rw [ht]; exact hP, va_K.moved hW.alike hK, hD⟩, hS.F ht⟩) hS.2.2 dX1_peekRegister_135
  have hF := hF.trans (if_neg c_1_7)
  by_cases c_1_13 : p1 = (13:Int32)
  · have hF := hF.trans (if_pos c_1_13)
    refine lv_tableIn (off := 135) (tgt := 136) hx hb dX1_peekRegister_1 (by rw [c_1_13]; decide) (by rw [c_1_13]; decide) (by rw [c_1_13]; first | rfl | decide) (by decide) ?_
    refine lv_aload_n hx hb dX1_peekRegister_136 rfl (lv_at hl 0 rfl) ?_
    refine va_get (D := (dC, dI)) (ci := 1) (v := .int ic_flags) (C := RX1) (T := TX1) (N := 7) hx hb hts hiX1 hown hK hP 0 rfl rfl 5 (by decide) (hts _ kFX1_42) (fun _ h9 => h9) rfl dX1_peekRegister_137 ?_
    refine lv_aload_n hx hb dX1_peekRegister_140 rfl (lv_at hl 0 rfl) ?_
    refine va_get (D := (dC, dI)) (ci := 1) (v := .int ic_flags) (C := RX1) (T := TX1) (N := 7) hx hb hts hiX1 hown hK hP 0 rfl rfl 5 (by decide) (hts _ kFX1_42) (fun _ h9 => h9) rfl dX1_peekRegister_141 ?_
    refine lv_aload_n hx hb dX1_peekRegister_144 rfl (lv_at hl 0 rfl) ?_
    refine va_get (D := (dC, dI)) (ci := 1) (v := .int ic_enabled) (C := RX1) (T := TX1) (N := 7) hx hb hts hiX1 hown hK hP 0 rfl rfl 6 (by decide) (hts _ kFX1_48) (fun _ h9 => h9) rfl dX1_peekRegister_145 ?_
    refine lv_iand hx hb dX1_peekRegister_148 ?_
    refine vj_join (j := 159) (rest := [.int ic_flags]) (Hyp := fun z H locs => z = (if (ic_flags &&& ic_enabled) = (0:Int32) then (0:Int32) else (128:Int32)) ∧ va_P (dC, dI) vwCl (wwX1 q_ic q_ky q_ta q_tb k_ky ic_rows ic_keysSeen ic_flags ic_enabled ta_controlBits ta_control ta_count ta_latch tb_controlBits tb_control tb_count tb_latch f_ky) H ∧ va_S A s.heap H locs) (fun z H locs hh => ?_) (fun J159 => ?_)
    · obtain ⟨hz, hP, hS⟩ := hh
      subst hz
      refine lv_iadd hx hb dX1_peekRegister_159 ?_
      exact W.iret (v := (ic_flags + (if (ic_flags &&& ic_enabled) = (0:Int32) then (0:Int32) else (128:Int32)))) hx hb hr (fun t ht hW => ⟨⟨(ic_flags + (if (ic_flags &&& ic_enabled) = (0:Int32) then (0:Int32) else (128:Int32))), (), rfl, hF.symm, by rw [ht]; exact hP, va_K.moved hW.alike hK, hD⟩, hS.F ht⟩) hS.2.2 dX1_peekRegister_160
    · refine lv_if_eq (tgt := 158) hx hb dX1_peekRegister_149 (by decide) (fun c_149 => ?_) (fun c_149 => ?_)
      · refine lv_iconst (v := 0) hx hb dX1_peekRegister_158 (by decide) ?_
        exact J159 _ _ _ ⟨by rw [if_pos c_149], hP, hS⟩
      · refine lv_sipush (v := 128) hx hb dX1_peekRegister_152 (by decide) ?_
        refine lv_goto (tgt := 159) hx hb dX1_peekRegister_155 (by decide) ?_
        exact J159 _ _ _ ⟨by rw [if_neg c_149], hP, hS⟩
  have hF := hF.trans (if_neg c_1_13)
  by_cases c_1_14 : p1 = (14:Int32)
  · have hF := hF.trans (if_pos c_1_14)
    refine lv_tableIn (off := 160) (tgt := 161) hx hb dX1_peekRegister_1 (by rw [c_1_14]; decide) (by rw [c_1_14]; decide) (by rw [c_1_14]; first | rfl | decide) (by decide) ?_
    refine lv_aload_n hx hb dX1_peekRegister_161 rfl (lv_at hl 0 rfl) ?_
    refine va_get (D := (dC, dI)) (ci := 1) (v := .ref q_ta) (C := RX1) (T := TX1) (N := 7) hx hb hts hiX1 hown hK hP 0 rfl rfl 1 (by decide) (hts _ kFX1_18) (fun _ h9 => h9) rfl dX1_peekRegister_162 ?_
    refine va_get (D := (dC, dI)) (ci := 5) (v := .int ta_control) (C := RX5) (T := TX5) (N := 4) hx hb hts hiX5 hown hK hP 2 rfl rfl 1 (by decide) (hts _ kFX1_54) (fun _ h9 => h9) rfl dX1_peekRegister_165 ?_
    exact W.iret (v := ta_control) hx hb hr (fun t ht hW => ⟨⟨ta_control, (), rfl, hF.symm, by rw [ht]; exact hP, va_K.moved hW.alike hK, hD⟩, hS.F ht⟩) hS.2.2 dX1_peekRegister_168
  have hF := hF.trans (if_neg c_1_14)
  by_cases c_1_15 : p1 = (15:Int32)
  · have hF := hF.trans (if_pos c_1_15)
    refine lv_tableIn (off := 168) (tgt := 169) hx hb dX1_peekRegister_1 (by rw [c_1_15]; decide) (by rw [c_1_15]; decide) (by rw [c_1_15]; first | rfl | decide) (by decide) ?_
    refine lv_aload_n hx hb dX1_peekRegister_169 rfl (lv_at hl 0 rfl) ?_
    refine va_get (D := (dC, dI)) (ci := 1) (v := .ref q_tb) (C := RX1) (T := TX1) (N := 7) hx hb hts hiX1 hown hK hP 0 rfl rfl 2 (by decide) (hts _ kFX1_22) (fun _ h9 => h9) rfl dX1_peekRegister_170 ?_
    refine va_get (D := (dC, dI)) (ci := 5) (v := .int tb_control) (C := RX5) (T := TX5) (N := 4) hx hb hts hiX5 hown hK hP 3 rfl rfl 1 (by decide) (hts _ kFX1_54) (fun _ h9 => h9) rfl dX1_peekRegister_173 ?_
    exact W.iret (v := tb_control) hx hb hr (fun t ht hW => ⟨⟨tb_control, (), rfl, hF.symm, by rw [ht]; exact hP, va_K.moved hW.alike hK, hD⟩, hS.F ht⟩) hS.2.2 dX1_peekRegister_176
  have hF := hF.trans (if_neg c_1_15)
  refine vt_dflt (tgt := 177) hx hb dX1_peekRegister_1 (fun x_ h1 h2 h3 => by have n0 := lv_neT (a := 0) c_1_0 rfl; have n1 := lv_neT (a := 1) c_1_1 rfl; have n4 := lv_neT (a := 4) c_1_4 rfl; have n5 := lv_neT (a := 5) c_1_5 rfl; have n6 := lv_neT (a := 6) c_1_6 rfl; have n7 := lv_neT (a := 7) c_1_7 rfl; have n13 := lv_neT (a := 13) c_1_13 rfl; have n14 := lv_neT (a := 14) c_1_14 rfl; have n15 := lv_neT (a := 15) c_1_15 rfl; have h4 : x_ = 2 ∨ x_ = 3 ∨ x_ = 8 ∨ x_ = 9 ∨ x_ = 10 ∨ x_ = 11 ∨ x_ = 12 := (by omega); rcases h4 with rfl | rfl | rfl | rfl | rfl | rfl | rfl <;> rfl) (by decide) ?_
  refine lv_iconst (v := 0) hx hb dX1_peekRegister_177 (by decide) ?_
  exact W.iret (v := (0:Int32)) hx hb hr (fun t ht hW => ⟨⟨(0:Int32), (), rfl, hF.symm, by rw [ht]; exact hP, va_K.moved hW.alike hK, hD⟩, hS.F ht⟩) hS.2.2 dX1_peekRegister_178
def fX2_cellColour (p1 : Int32) (f_co : Nat → Int32) : Int32 :=
  (if p1 < (0:Int32) then (0:Int32) else (if (24:Int32) ≤ p1 then (0:Int32) else (f_co p1.toNatClampNeg)))
set_option maxHeartbeats 4000000 in
set_option maxRecDepth 100000 in
theorem mX2_cellColour (l : Launch) (dC : Nat → ClassId) (dI : Nat → Nat → Nat) (q_pi q_ra q_rc q_po q_co q_wc q_wo : Nat) (k_ra k_rc k_po k_co k_wc k_wo : ClassId) (sz : Nat) (pi_line pi_cycle pi_control pi_compareLine pi_ground pi_border pi_base pi_flag pi_enabled pi_idle pi_bad pi_glyphLine pi_rowToFetch : Int32) (f_ra f_rc f_po f_co f_wc f_wo : Nat → Int32) (p1 : Int32) : Met l yX2_cellColour uX2_cellColour ({ frames := 0, cells := 0, slots := 0, locals := 0 }) (va_Pc [.ref q_pi, .int p1] (fun U => U.heap.size = sz ∧ va_P (dC, dI) vwCl (wwX2 q_pi q_ra q_rc q_po q_co q_wc q_wo k_ra k_rc k_po k_co k_wc k_wo pi_line pi_cycle pi_control pi_compareLine pi_ground pi_border pi_base pi_flag pi_enabled pi_idle pi_bad pi_glyphLine pi_rowToFetch f_ra f_rc f_po f_co f_wc f_wo) U.heap ∧ va_K (dC, dI) vwCl [(k_ra, .int), (k_rc, .int), (k_po, .int), (k_co, .int), (k_wc, .int), (k_wo, .int)] U ∧ va_D (fun _ => True) (wwX2 q_pi q_ra q_rc q_po q_co q_wc q_wo k_ra k_rc k_po k_co k_wc k_wo pi_line pi_cycle pi_control pi_compareLine pi_ground pi_border pi_base pi_flag pi_enabled pi_idle pi_bad pi_glyphLine pi_rowToFetch f_ra f_rc f_po f_co f_wc f_wo))) (va_Qi (fun (r : Int32) (u : Unit) => r = fX2_cellColour p1 f_co) (fun (u : Unit) (t : State) => va_P (dC, dI) vwCl (wwX2 q_pi q_ra q_rc q_po q_co q_wc q_wo k_ra k_rc k_po k_co k_wc k_wo pi_line pi_cycle pi_control pi_compareLine pi_ground pi_border pi_base pi_flag pi_enabled pi_idle pi_bad pi_glyphLine pi_rowToFetch f_ra f_rc f_po f_co f_wc f_wo) t.heap ∧ va_K (dC, dI) vwCl [(k_ra, .int), (k_rc, .int), (k_po, .int), (k_co, .int), (k_wc, .int), (k_wo, .int)] t ∧ va_D (va_A (wwX2 q_pi q_ra q_rc q_po q_co q_wc q_wo k_ra k_rc k_po k_co k_wc k_wo pi_line pi_cycle pi_control pi_compareLine pi_ground pi_border pi_base pi_flag pi_enabled pi_idle pi_bad pi_glyphLine pi_rowToFetch f_ra f_rc f_po f_co f_wc f_wo) sz) (wwX2 q_pi q_ra q_rc q_po q_co q_wc q_wo k_ra k_rc k_po k_co k_wc k_wo pi_line pi_cycle pi_control pi_compareLine pi_ground pi_border pi_base pi_flag pi_enabled pi_idle pi_bad pi_glyphLine pi_rowToFetch f_ra f_rc f_po f_co f_wc f_wo)) (va_A (wwX2 q_pi q_ra q_rc q_po q_co q_wc q_wo k_ra k_rc k_po k_co k_wc k_wo pi_line pi_cycle pi_control pi_compareLine pi_ground pi_border pi_base pi_flag pi_enabled pi_idle pi_bad pi_glyphLine pi_rowToFetch f_ra f_rc f_po f_co f_wc f_wo) sz)) 0 0 (va_A (wwX2 q_pi q_ra q_rc q_po q_co q_wc q_wo k_ra k_rc k_po k_co k_wc k_wo pi_line pi_cycle pi_control pi_compareLine pi_ground pi_border pi_base pi_flag pi_enabled pi_idle pi_bad pi_glyphLine pi_rowToFetch f_ra f_rc f_po f_co f_wc f_wo) sz) := by
  refine Met.ofW (cc := cX2_cellColour) (maxL := 2) (ret := (some .int)) (by decide) rfl ?_
  intro p e s m args below meth c s₁ B hml hv
  obtain ⟨rfl, hsz, hP, hK, hD0⟩ := hv
  have hx := B.exec
  have hb := B.bytes
  have hr := B.returns
  have hts : ∀ w ∈ ub, w.before _ s = true := fun w h => atoms_spec (ws := uX2_cellColour) B.pre w (List.mem_cons_of_mem _ h)
  have hown : s.vm.findClass RX2 = some m.cls := findClass_of_methodNamed B.named
  have hlocks := B.notSynchronized
  subst hsz
  have hD := hD0.self (sz := s.heap.size)
  generalize hAe : va_A (wwX2 q_pi q_ra q_rc q_po q_co q_wc q_wo k_ra k_rc k_po k_co k_wc k_wo pi_line pi_cycle pi_control pi_compareLine pi_ground pi_border pi_base pi_flag pi_enabled pi_idle pi_bad pi_glyphLine pi_rowToFetch f_ra f_rc f_po f_co f_wc f_wo) s.heap.size = A at hD ⊢
  have hA : ∀ q : Nat, s.heap.size ≤ q → A q := fun q h => by rw [← hAe]; exact Or.inr h
  have hS : va_S A s.heap s.heap [] := va_S.rf
  have hl := lv_entry ([.ref q_pi, .int p1]) (n := 2) (Nat.le_of_ble_eq_true rfl)
  rw [lg_entry_eq]
  generalize (lg_sl ([.ref q_pi, .int p1]) ++ List.replicate (2 - (lg_sl ([.ref q_pi, .int p1])).length) Slot.unset).toArray = ls at hl ⊢
  have hl : lv_has ls 2 [(0, .ref q_pi), (1, .int p1)] := hl
  have hF := fX2_cellColour.eq_1 p1 f_co
  refine lv_iload_n hx hb dX2_cellColour_0 rfl (lv_at hl 1 rfl) ?_
  refine vj_join (j := 20) (rest := []) (Hyp := fun z H locs => z = (if p1 < (0:Int32) then (0:Int32) else (if (24:Int32) ≤ p1 then (0:Int32) else (f_co p1.toNatClampNeg))) ∧ va_P (dC, dI) vwCl (wwX2 q_pi q_ra q_rc q_po q_co q_wc q_wo k_ra k_rc k_po k_co k_wc k_wo pi_line pi_cycle pi_control pi_compareLine pi_ground pi_border pi_base pi_flag pi_enabled pi_idle pi_bad pi_glyphLine pi_rowToFetch f_ra f_rc f_po f_co f_wc f_wo) H ∧ va_S A s.heap H locs) (fun z H locs hh => ?_) (fun J20 => ?_)
  · obtain ⟨hz, hP, hS⟩ := hh
    subst hz
    exact W.iret (v := (if p1 < (0:Int32) then (0:Int32) else (if (24:Int32) ≤ p1 then (0:Int32) else (f_co p1.toNatClampNeg)))) hx hb hr (fun t ht hW => ⟨⟨(if p1 < (0:Int32) then (0:Int32) else (if (24:Int32) ≤ p1 then (0:Int32) else (f_co p1.toNatClampNeg))), (), rfl, hF.symm, by rw [ht]; exact hP, va_K.moved hW.alike hK, hD⟩, hS.F ht⟩) hS.2.2 dX2_cellColour_20
  · refine lv_if_lt (tgt := 19) hx hb dX2_cellColour_1 (by decide) (fun c_1 => ?_) (fun c_1 => ?_)
    · refine lv_iconst (v := 0) hx hb dX2_cellColour_19 (by decide) ?_
      exact J20 _ _ _ ⟨by rw [if_pos c_1], hP, hS⟩
    · refine lv_iload_n hx hb dX2_cellColour_4 rfl (lv_at hl 1 rfl) ?_
      refine lv_bipush (v := 24) hx hb dX2_cellColour_5 (by decide) ?_
      refine lv_icmp_ge (tgt := 19) hx hb dX2_cellColour_7 (by decide) (fun c_7 => ?_) (fun c_7 => ?_)
      · refine lv_iconst (v := 0) hx hb dX2_cellColour_19 (by decide) ?_
        exact J20 _ _ _ ⟨by rw [if_neg c_1, if_pos c_7], hP, hS⟩
      · refine lv_aload_n hx hb dX2_cellColour_10 rfl (lv_at hl 0 rfl) ?_
        refine va_get (D := (dC, dI)) (ci := 2) (v := .ref q_co) (C := RX2) (T := TX2) (N := 19) hx hb hts hiX2 hown hK hP 0 rfl rfl 3 (by decide) (hts _ kFX2_13) (fun _ h9 => h9) rfl dX2_cellColour_11 ?_
        refine lv_iload_n hx hb dX2_cellColour_14 rfl (lv_at hl 1 rfl) ?_
        refine va_iald hx hb hK hP 4 3 rfl rfl (rg_lt c_1 c_7 (by decide)) dX2_cellColour_15 ?_
        refine lv_goto (tgt := 20) hx hb dX2_cellColour_16 (by decide) ?_
        exact J20 _ _ _ ⟨by rw [if_neg c_1, if_neg c_7], hP, hS⟩
def fX0_peek (p1 : Int32) (bu_port : Int32) (pi_line : Int32) (pi_control : Int32) (pi_ground : Int32) (pi_border : Int32) (pi_base : Int32) (pi_flag : Int32) (pi_enabled : Int32) (ic_rows : Int32) (ic_keysSeen : Int32) (ic_flags : Int32) (ic_enabled : Int32) (ta_control : Int32) (ta_count : Int32) (tb_control : Int32) (tb_count : Int32) (f_ra : Nat → Int32) (f_rA : Nat → Int32) (f_rc : Nat → Int32) (f_rk : Nat → Int32) (f_co : Nat → Int32) : Int32 :=
  if (fX0_showsRegisters (p1 &&& (8191:Int32)) bu_port) = (0:Int32) then
   (fX0_peekMemory (p1 &&& (8191:Int32)) bu_port f_ra f_rA f_rc f_rk)
  else
   if (64:Int32) ≤ ((p1 &&& (8191:Int32)) - (6656:Int32)) then
    if (fX0_isInterfacePlace ((p1 &&& (8191:Int32)) - (6656:Int32))) = (0:Int32) then
     (fX2_cellColour (((p1 &&& (8191:Int32)) - (6656:Int32)) - (128:Int32)) f_co)
    else
     (fX1_peekRegister (((p1 &&& (8191:Int32)) - (6656:Int32)) &&& (15:Int32)) ic_rows ic_keysSeen ic_flags ic_enabled ta_control ta_count tb_control tb_count)
   else
    (fX2_peekRegister (((p1 &&& (8191:Int32)) - (6656:Int32)) &&& (15:Int32)) pi_line pi_control pi_ground pi_border pi_base pi_flag pi_enabled)
set_option maxHeartbeats 4000000 in
set_option maxRecDepth 100000 in
theorem mX0_peek (l : Launch) (dC : Nat → ClassId) (dI : Nat → Nat → Nat) (q_bu q_ra q_rA q_rc q_rk q_pi q_po q_co q_wc q_wo q_ic q_ky q_ta q_tb : Nat) (k_ra k_rA k_rc k_rk k_po k_co k_wc k_wo k_ky : ClassId) (sz : Nat) (bu_port bu_latest pi_line pi_cycle pi_control pi_compareLine pi_ground pi_border pi_base pi_flag pi_enabled pi_idle pi_bad pi_glyphLine pi_rowToFetch ic_rows ic_keysSeen ic_flags ic_enabled ta_controlBits ta_control ta_count ta_latch tb_controlBits tb_control tb_count tb_latch : Int32) (f_ra f_rA f_rc f_rk f_po f_co f_wc f_wo f_ky : Nat → Int32) (p1 : Int32) : Met l yX0_peek uX0_peek ({ frames := 1, cells := 0, slots := 0, locals := 23 }) (va_Pc [.ref q_bu, .int p1] (fun U => U.heap.size = sz ∧ va_P (dC, dI) vwCl (wwX0 q_bu q_ra q_rA q_rc q_rk q_pi q_po q_co q_wc q_wo q_ic q_ky q_ta q_tb k_ra k_rA k_rc k_rk k_po k_co k_wc k_wo k_ky bu_port bu_latest pi_line pi_cycle pi_control pi_compareLine pi_ground pi_border pi_base pi_flag pi_enabled pi_idle pi_bad pi_glyphLine pi_rowToFetch ic_rows ic_keysSeen ic_flags ic_enabled ta_controlBits ta_control ta_count ta_latch tb_controlBits tb_control tb_count tb_latch f_ra f_rA f_rc f_rk f_po f_co f_wc f_wo f_ky) U.heap ∧ va_K (dC, dI) vwCl [(k_ra, .int), (k_rA, .int), (k_rc, .int), (k_rk, .int), (k_po, .int), (k_co, .int), (k_wc, .int), (k_wo, .int), (k_ky, .int)] U ∧ va_D (fun _ => True) (wwX0 q_bu q_ra q_rA q_rc q_rk q_pi q_po q_co q_wc q_wo q_ic q_ky q_ta q_tb k_ra k_rA k_rc k_rk k_po k_co k_wc k_wo k_ky bu_port bu_latest pi_line pi_cycle pi_control pi_compareLine pi_ground pi_border pi_base pi_flag pi_enabled pi_idle pi_bad pi_glyphLine pi_rowToFetch ic_rows ic_keysSeen ic_flags ic_enabled ta_controlBits ta_control ta_count ta_latch tb_controlBits tb_control tb_count tb_latch f_ra f_rA f_rc f_rk f_po f_co f_wc f_wo f_ky))) (va_Qi (fun (r : Int32) (u : Unit) => r = fX0_peek p1 bu_port pi_line pi_control pi_ground pi_border pi_base pi_flag pi_enabled ic_rows ic_keysSeen ic_flags ic_enabled ta_control ta_count tb_control tb_count f_ra f_rA f_rc f_rk f_co) (fun (u : Unit) (t : State) => va_P (dC, dI) vwCl (wwX0 q_bu q_ra q_rA q_rc q_rk q_pi q_po q_co q_wc q_wo q_ic q_ky q_ta q_tb k_ra k_rA k_rc k_rk k_po k_co k_wc k_wo k_ky bu_port bu_latest pi_line pi_cycle pi_control pi_compareLine pi_ground pi_border pi_base pi_flag pi_enabled pi_idle pi_bad pi_glyphLine pi_rowToFetch ic_rows ic_keysSeen ic_flags ic_enabled ta_controlBits ta_control ta_count ta_latch tb_controlBits tb_control tb_count tb_latch f_ra f_rA f_rc f_rk f_po f_co f_wc f_wo f_ky) t.heap ∧ va_K (dC, dI) vwCl [(k_ra, .int), (k_rA, .int), (k_rc, .int), (k_rk, .int), (k_po, .int), (k_co, .int), (k_wc, .int), (k_wo, .int), (k_ky, .int)] t ∧ va_D (va_A (wwX0 q_bu q_ra q_rA q_rc q_rk q_pi q_po q_co q_wc q_wo q_ic q_ky q_ta q_tb k_ra k_rA k_rc k_rk k_po k_co k_wc k_wo k_ky bu_port bu_latest pi_line pi_cycle pi_control pi_compareLine pi_ground pi_border pi_base pi_flag pi_enabled pi_idle pi_bad pi_glyphLine pi_rowToFetch ic_rows ic_keysSeen ic_flags ic_enabled ta_controlBits ta_control ta_count ta_latch tb_controlBits tb_control tb_count tb_latch f_ra f_rA f_rc f_rk f_po f_co f_wc f_wo f_ky) sz) (wwX0 q_bu q_ra q_rA q_rc q_rk q_pi q_po q_co q_wc q_wo q_ic q_ky q_ta q_tb k_ra k_rA k_rc k_rk k_po k_co k_wc k_wo k_ky bu_port bu_latest pi_line pi_cycle pi_control pi_compareLine pi_ground pi_border pi_base pi_flag pi_enabled pi_idle pi_bad pi_glyphLine pi_rowToFetch ic_rows ic_keysSeen ic_flags ic_enabled ta_controlBits ta_control ta_count ta_latch tb_controlBits tb_control tb_count tb_latch f_ra f_rA f_rc f_rk f_po f_co f_wc f_wo f_ky)) (va_A (wwX0 q_bu q_ra q_rA q_rc q_rk q_pi q_po q_co q_wc q_wo q_ic q_ky q_ta q_tb k_ra k_rA k_rc k_rk k_po k_co k_wc k_wo k_ky bu_port bu_latest pi_line pi_cycle pi_control pi_compareLine pi_ground pi_border pi_base pi_flag pi_enabled pi_idle pi_bad pi_glyphLine pi_rowToFetch ic_rows ic_keysSeen ic_flags ic_enabled ta_controlBits ta_control ta_count ta_latch tb_controlBits tb_control tb_count tb_latch f_ra f_rA f_rc f_rk f_po f_co f_wc f_wo f_ky) sz)) 0 0 (va_A (wwX0 q_bu q_ra q_rA q_rc q_rk q_pi q_po q_co q_wc q_wo q_ic q_ky q_ta q_tb k_ra k_rA k_rc k_rk k_po k_co k_wc k_wo k_ky bu_port bu_latest pi_line pi_cycle pi_control pi_compareLine pi_ground pi_border pi_base pi_flag pi_enabled pi_idle pi_bad pi_glyphLine pi_rowToFetch ic_rows ic_keysSeen ic_flags ic_enabled ta_controlBits ta_control ta_count ta_latch tb_controlBits tb_control tb_count tb_latch f_ra f_rA f_rc f_rk f_po f_co f_wc f_wo f_ky) sz) := by
  refine Met.ofW (cc := cX0_peek) (maxL := 4) (ret := (some .int)) (by decide) rfl ?_
  intro p e s m args below meth c s₁ B hml hv
  obtain ⟨rfl, hsz, hP, hK, hD0⟩ := hv
  have hx := B.exec
  have hb := B.bytes
  have hr := B.returns
  have hts : ∀ w ∈ ub, w.before _ s = true := fun w h => atoms_spec (ws := uX0_peek) B.pre w (List.mem_cons_of_mem _ h)
  have hown : s.vm.findClass RX0 = some m.cls := findClass_of_methodNamed B.named
  have hlocks := B.notSynchronized
  subst hsz
  have hD := hD0.self (sz := s.heap.size)
  generalize hAe : va_A (wwX0 q_bu q_ra q_rA q_rc q_rk q_pi q_po q_co q_wc q_wo q_ic q_ky q_ta q_tb k_ra k_rA k_rc k_rk k_po k_co k_wc k_wo k_ky bu_port bu_latest pi_line pi_cycle pi_control pi_compareLine pi_ground pi_border pi_base pi_flag pi_enabled pi_idle pi_bad pi_glyphLine pi_rowToFetch ic_rows ic_keysSeen ic_flags ic_enabled ta_controlBits ta_control ta_count ta_latch tb_controlBits tb_control tb_count tb_latch f_ra f_rA f_rc f_rk f_po f_co f_wc f_wo f_ky) s.heap.size = A at hD ⊢
  have hA : ∀ q : Nat, s.heap.size ≤ q → A q := fun q h => by rw [← hAe]; exact Or.inr h
  have hS : va_S A s.heap s.heap [] := va_S.rf
  have hl := lv_entry ([.ref q_bu, .int p1]) (n := 4) (Nat.le_of_ble_eq_true rfl)
  rw [lg_entry_eq]
  generalize (lg_sl ([.ref q_bu, .int p1]) ++ List.replicate (4 - (lg_sl ([.ref q_bu, .int p1])).length) Slot.unset).toArray = ls at hl ⊢
  have hl : lv_has ls 4 [(0, .ref q_bu), (1, .int p1)] := hl
  have hF := fX0_peek.eq_1 p1 bu_port pi_line pi_control pi_ground pi_border pi_base pi_flag pi_enabled ic_rows ic_keysSeen ic_flags ic_enabled ta_control ta_count tb_control tb_count f_ra f_rA f_rc f_rk f_co
  refine lv_iload_n hx hb dX0_peek_0 rfl (lv_at hl 1 rfl) ?_
  refine lv_sipush (v := 8191) hx hb dX0_peek_1 (by decide) ?_
  refine lv_iand hx hb dX0_peek_4 ?_
  refine lv_istore_n (lv' := [(2, .int (p1 &&& (8191:Int32))), (0, .ref q_bu), (1, .int p1)]) hx hb dX0_peek_5 rfl hl (by decide) rfl (fun ls hl => ?_)
  refine lv_iload_n hx hb dX0_peek_6 rfl (lv_at hl 0 rfl) ?_
  refine lv_sipush (v := 6656) hx hb dX0_peek_7 (by decide) ?_
  refine lv_isub hx hb dX0_peek_10 ?_
  refine lv_istore_n (lv' := [(3, .int ((p1 &&& (8191:Int32)) - (6656:Int32))), (2, .int (p1 &&& (8191:Int32))), (0, .ref q_bu), (1, .int p1)]) hx hb dX0_peek_11 rfl hl (by decide) rfl (fun ls hl => ?_)
  refine lv_aload_n hx hb dX0_peek_12 rfl (lv_at hl 2 rfl) ?_
  refine lv_iload_n hx hb dX0_peek_13 rfl (lv_at hl 1 rfl) ?_
  have hPc := hP.sub (ws' := (wwX0 q_bu q_ra q_rA q_rc q_rk q_pi q_po q_co q_wc q_wo q_ic q_ky q_ta q_tb k_ra k_rA k_rc k_rk k_po k_co k_wc k_wo k_ky bu_port bu_latest pi_line pi_cycle pi_control pi_compareLine pi_ground pi_border pi_base pi_flag pi_enabled pi_idle pi_bad pi_glyphLine pi_rowToFetch ic_rows ic_keysSeen ic_flags ic_enabled ta_controlBits ta_control ta_count ta_latch tb_controlBits tb_control tb_count tb_latch f_ra f_rA f_rc f_rk f_po f_co f_wc f_wo f_ky)) [0, 1, 2, 3, 4, 5, 6, 7, 8, 9, 10, 11, 12, 13] rfl
  have hDc := hD.sub (ws' := (wwX0 q_bu q_ra q_rA q_rc q_rk q_pi q_po q_co q_wc q_wo q_ic q_ky q_ta q_tb k_ra k_rA k_rc k_rk k_po k_co k_wc k_wo k_ky bu_port bu_latest pi_line pi_cycle pi_control pi_compareLine pi_ground pi_border pi_base pi_flag pi_enabled pi_idle pi_bad pi_glyphLine pi_rowToFetch ic_rows ic_keysSeen ic_flags ic_enabled ta_controlBits ta_control ta_count ta_latch tb_controlBits tb_control tb_count tb_latch f_ra f_rA f_rc f_rk f_po f_co f_wc f_wo f_ky)) [0, 1, 2, 3, 4, 5, 6, 7, 8, 9, 10, 11, 12, 13] (by decide) rfl
  have hKc := hK.sub (tys' := [(k_ra, .int), (k_rA, .int), (k_rc, .int), (k_rk, .int), (k_po, .int), (k_co, .int), (k_wc, .int), (k_wo, .int), (k_ky, .int)]) [0, 1, 2, 3, 4, 5, 6, 7, 8] rfl
  have hFc := va_free (wc := (wwX0 q_bu q_ra q_rA q_rc q_rk q_pi q_po q_co q_wc q_wo q_ic q_ky q_ta q_tb k_ra k_rA k_rc k_rk k_po k_co k_wc k_wo k_ky bu_port bu_latest pi_line pi_cycle pi_control pi_compareLine pi_ground pi_border pi_base pi_flag pi_enabled pi_idle pi_bad pi_glyphLine pi_rowToFetch ic_rows ic_keysSeen ic_flags ic_enabled ta_controlBits ta_control ta_count ta_latch tb_controlBits tb_control tb_count tb_latch f_ra f_rA f_rc f_rk f_po f_co f_wc f_wo f_ky)) hD hS hA [0, 1, 2, 3, 4, 5, 6, 7, 8, 9, 10, 11, 12, 13] rfl
  refine va_calli (va_runV (As := [.int (p1 &&& (8191:Int32))]) (rest := []) ⟨hx, hb, hml, hown, hts⟩ (mX0_showsRegisters l dC dI q_bu q_ra q_rA q_rc q_rk q_pi q_po q_co q_wc q_wo q_ic q_ky q_ta q_tb k_ra k_rA k_rc k_rk k_po k_co k_wc k_wo k_ky s.heap.size bu_port bu_latest pi_line pi_cycle pi_control pi_compareLine pi_ground pi_border pi_base pi_flag pi_enabled pi_idle pi_bad pi_glyphLine pi_rowToFetch ic_rows ic_keysSeen ic_flags ic_enabled ta_controlBits ta_control ta_count ta_latch tb_controlBits tb_control tb_count tb_latch f_ra f_rA f_rc f_rk f_po f_co f_wc f_wo f_ky (p1 &&& (8191:Int32))) (cwV 1 hts (ub_V kMX0_43 kYX0_showsRegisters kSX0_showsRegisters kIX0 kBX0_showsRegisters) rfl rfl rfl (by decide +kernel) ⟨Nat.le_of_ble_eq_true rfl, Nat.le_of_ble_eq_true rfl⟩) ⟨fun a U g mk q => by obtain ⟨q0, q1, qP, qK, qD⟩ := q; exact ⟨q0, q1, qP, va_K.moved (u := U) (U := U.calling g mk a) (Vm.Alike.refl U.vm) qK, qD⟩, va_recv hKc hPc (ci := 0) (q0 := 0) rfl rfl, fun U hU hW => ⟨rfl, by rw [hU], by rw [hU]; exact hPc, va_K.moved hW.alike hKc, hDc.weaken (fun _ _ _ _ => trivial)⟩⟩ rfl rfl hl.1 rfl (lv_room (Nat.le_of_ble_eq_true rfl)) dX0_peek_14 ⟨(Nat.zero_le _), (Nat.zero_le _)⟩) hS (fun q _ h => hFc q h) hFc (fun r_14 u_14 t H locs ht hvm hw hB hz1 hk1 hS => ?_)
  obtain ⟨hP1, hK1, hD1⟩ := hB
  rw [ht] at hP1
  subst hw
  obtain ⟨hP, hD⟩ := vb_back (wc := (wwX0 q_bu q_ra q_rA q_rc q_rk q_pi q_po q_co q_wc q_wo q_ic q_ky q_ta q_tb k_ra k_rA k_rc k_rk k_po k_co k_wc k_wo k_ky bu_port bu_latest pi_line pi_cycle pi_control pi_compareLine pi_ground pi_border pi_base pi_flag pi_enabled pi_idle pi_bad pi_glyphLine pi_rowToFetch ic_rows ic_keysSeen ic_flags ic_enabled ta_controlBits ta_control ta_count ta_latch tb_controlBits tb_control tb_count tb_latch f_ra f_rA f_rc f_rk f_po f_co f_wc f_wo f_ky)) (ws' := (wwX0 q_bu q_ra q_rA q_rc q_rk q_pi q_po q_co q_wc q_wo q_ic q_ky q_ta q_tb k_ra k_rA k_rc k_rk k_po k_co k_wc k_wo k_ky bu_port bu_latest pi_line pi_cycle pi_control pi_compareLine pi_ground pi_border pi_base pi_flag pi_enabled pi_idle pi_bad pi_glyphLine pi_rowToFetch ic_rows ic_keysSeen ic_flags ic_enabled ta_controlBits ta_control ta_count ta_latch tb_controlBits tb_control tb_count tb_latch f_ra f_rA f_rc f_rk f_po f_co f_wc f_wo f_ky)) hP hD hD1 [0, 1, 2, 3, 4, 5, 6, 7, 8, 9, 10, 11, 12, 13] [] rfl rfl ae_n rfl rfl hk1 hP1
  refine lv_if_ne (tgt := 26) hx hb dX0_peek_17 (by decide) (fun c_17 => ?_) (fun c_17 => ?_)
  · have hF := hF.trans (if_neg c_17)
    refine lv_iload_n hx hb dX0_peek_26 rfl (lv_at hl 0 rfl) ?_
    refine lv_bipush (v := 64) hx hb dX0_peek_27 (by decide) ?_
    refine lv_icmp_ge (tgt := 44) hx hb dX0_peek_29 (by decide) (fun c_29 => ?_) (fun c_29 => ?_)
    · have hF := hF.trans (if_pos c_29)
      refine lv_iload_n hx hb dX0_peek_44 rfl (lv_at hl 0 rfl) ?_
      have hPc := hP.sub (ws' := ([] : va_W)) [] rfl
      have hDc := hD.sub (ws' := ([] : va_W)) [] (by decide) rfl
      have hKc := hK.sub (tys' := []) [] rfl
      have hFc := va_free (wc := ([] : va_W)) hD hS hA [] rfl
      refine va_calli (va_runS (As := [.int ((p1 &&& (8191:Int32)) - (6656:Int32))]) (rest := []) ⟨hx, hb, hml, hown, hts⟩ (mX0_isInterfacePlace l dC dI H.size ((p1 &&& (8191:Int32)) - (6656:Int32))) (va_cwS 1 hts (ub_S kMX0_47 kTX0_isInterfacePlace kIX0 kBX0_isInterfacePlace) rfl rfl rfl (by decide +kernel) ⟨Nat.le_of_ble_eq_true rfl, Nat.le_of_ble_eq_true rfl⟩) ⟨fun a U g mk q => by obtain ⟨q0, q1, qP, qK, qD⟩ := q; exact ⟨q0, q1, qP, va_K.moved (u := U) (U := U.calling g mk a) (Vm.Alike.refl U.vm) qK, qD⟩, fun U hU hW => ⟨rfl, by rw [hU], by rw [hU]; exact hPc, va_K.moved hW.alike hKc, hDc.weaken (fun _ _ _ _ => trivial)⟩⟩ rfl rfl hl.1 rfl (lv_room (Nat.le_of_ble_eq_true rfl)) dX0_peek_45 ⟨(Nat.zero_le _), (Nat.zero_le _)⟩) hS (fun q _ h => hFc q h) hFc (fun r_45 u_45 t H locs ht hvm hw hB hz1 hk1 hS => ?_)
      obtain ⟨hP1, hK1, hD1⟩ := hB
      rw [ht] at hP1
      subst hw
      obtain ⟨hP, hD⟩ := vb_back (wc := ([] : va_W)) (ws' := (wwX0 q_bu q_ra q_rA q_rc q_rk q_pi q_po q_co q_wc q_wo q_ic q_ky q_ta q_tb k_ra k_rA k_rc k_rk k_po k_co k_wc k_wo k_ky bu_port bu_latest pi_line pi_cycle pi_control pi_compareLine pi_ground pi_border pi_base pi_flag pi_enabled pi_idle pi_bad pi_glyphLine pi_rowToFetch ic_rows ic_keysSeen ic_flags ic_enabled ta_controlBits ta_control ta_count ta_latch tb_controlBits tb_control tb_count tb_latch f_ra f_rA f_rc f_rk f_po f_co f_wc f_wo f_ky)) hP hD hD1 [] [0, 1, 2, 3, 4, 5, 6, 7, 8, 9, 10, 11, 12, 13] rfl rfl (ae_c rfl (ae_c rfl (ae_c rfl (ae_c rfl (ae_c rfl (ae_c rfl (ae_c rfl (ae_c rfl (ae_c rfl (ae_c rfl (ae_c rfl (ae_c rfl (ae_c rfl (ae_c rfl ae_n)))))))))))))) rfl rfl hk1 hP1
      refine lv_if_eq (tgt := 63) hx hb dX0_peek_48 (by decide) (fun c_48 => ?_) (fun c_48 => ?_)
      · have hF := hF.trans (if_pos c_48)
        refine lv_aload_n hx hb dX0_peek_63 rfl (lv_at hl 2 rfl) ?_
        refine va_get (D := (dC, dI)) (ci := 0) (v := .ref q_pi) (C := RX0) (T := TX0) (N := 8) hx hb hts hiX0 hown hK hP 0 rfl rfl 4 (by decide) (hts _ kFX0_31) (fun _ h9 => h9) rfl dX0_peek_64 ?_
        refine lv_iload_n hx hb dX0_peek_67 rfl (lv_at hl 0 rfl) ?_
        refine lv_sipush (v := 128) hx hb dX0_peek_68 (by decide) ?_
        refine lv_isub hx hb dX0_peek_71 ?_
        have hPc := hP.sub (ws' := (wwX2 q_pi q_ra q_rc q_po q_co q_wc q_wo k_ra k_rc k_po k_co k_wc k_wo pi_line pi_cycle pi_control pi_compareLine pi_ground pi_border pi_base pi_flag pi_enabled pi_idle pi_bad pi_glyphLine pi_rowToFetch f_ra f_rc f_po f_co f_wc f_wo)) [5, 1, 3, 6, 7, 8, 9] rfl
        have hDc := hD.sub (ws' := (wwX2 q_pi q_ra q_rc q_po q_co q_wc q_wo k_ra k_rc k_po k_co k_wc k_wo pi_line pi_cycle pi_control pi_compareLine pi_ground pi_border pi_base pi_flag pi_enabled pi_idle pi_bad pi_glyphLine pi_rowToFetch f_ra f_rc f_po f_co f_wc f_wo)) [5, 1, 3, 6, 7, 8, 9] (by decide) rfl
        have hKc := hK.sub (tys' := [(k_ra, .int), (k_rc, .int), (k_po, .int), (k_co, .int), (k_wc, .int), (k_wo, .int)]) [0, 2, 4, 5, 6, 7] rfl
        have hFc := va_free (wc := (wwX2 q_pi q_ra q_rc q_po q_co q_wc q_wo k_ra k_rc k_po k_co k_wc k_wo pi_line pi_cycle pi_control pi_compareLine pi_ground pi_border pi_base pi_flag pi_enabled pi_idle pi_bad pi_glyphLine pi_rowToFetch f_ra f_rc f_po f_co f_wc f_wo)) hD hS hA [5, 1, 3, 6, 7, 8, 9] rfl
        refine va_calli (va_runV (As := [.int (((p1 &&& (8191:Int32)) - (6656:Int32)) - (128:Int32))]) (rest := []) ⟨hx, hb, hml, hown, hts⟩ (mX2_cellColour l dC dI q_pi q_ra q_rc q_po q_co q_wc q_wo k_ra k_rc k_po k_co k_wc k_wo H.size pi_line pi_cycle pi_control pi_compareLine pi_ground pi_border pi_base pi_flag pi_enabled pi_idle pi_bad pi_glyphLine pi_rowToFetch f_ra f_rc f_po f_co f_wc f_wo (((p1 &&& (8191:Int32)) - (6656:Int32)) - (128:Int32))) (cwV 1 hts (ub_V kMX0_73 kYX2_cellColour kSX2_cellColour kIX2 kBX2_cellColour) rfl rfl rfl (by decide +kernel) ⟨Nat.le_of_ble_eq_true rfl, Nat.le_of_ble_eq_true rfl⟩) ⟨fun a U g mk q => by obtain ⟨q0, q1, qP, qK, qD⟩ := q; exact ⟨q0, q1, qP, va_K.moved (u := U) (U := U.calling g mk a) (Vm.Alike.refl U.vm) qK, qD⟩, va_recv hKc hPc (ci := 2) (q0 := 0) rfl rfl, fun U hU hW => ⟨rfl, by rw [hU], by rw [hU]; exact hPc, va_K.moved hW.alike hKc, hDc.weaken (fun _ _ _ _ => trivial)⟩⟩ rfl rfl hl.1 rfl (lv_room (Nat.le_of_ble_eq_true rfl)) dX0_peek_72 ⟨(Nat.zero_le _), (Nat.zero_le _)⟩) hS (fun q _ h => hFc q h) hFc (fun r_72 u_72 t H locs ht hvm hw hB hz1 hk1 hS => ?_)
        obtain ⟨hP1, hK1, hD1⟩ := hB
        rw [ht] at hP1
        subst hw
        obtain ⟨hP, hD⟩ := vb_back (wc := (wwX2 q_pi q_ra q_rc q_po q_co q_wc q_wo k_ra k_rc k_po k_co k_wc k_wo pi_line pi_cycle pi_control pi_compareLine pi_ground pi_border pi_base pi_flag pi_enabled pi_idle pi_bad pi_glyphLine pi_rowToFetch f_ra f_rc f_po f_co f_wc f_wo)) (ws' := (wwX0 q_bu q_ra q_rA q_rc q_rk q_pi q_po q_co q_wc q_wo q_ic q_ky q_ta q_tb k_ra k_rA k_rc k_rk k_po k_co k_wc k_wo k_ky bu_port bu_latest pi_line pi_cycle pi_control pi_compareLine pi_ground pi_border pi_base pi_flag pi_enabled pi_idle pi_bad pi_glyphLine pi_rowToFetch ic_rows ic_keysSeen ic_flags ic_enabled ta_controlBits ta_control ta_count ta_latch tb_controlBits tb_control tb_count tb_latch f_ra f_rA f_rc f_rk f_po f_co f_wc f_wo f_ky)) hP hD hD1 [5, 1, 3, 6, 7, 8, 9] [0, 2, 4, 10, 11, 12, 13] rfl rfl (ae_c rfl (ae_c rfl (ae_c rfl (ae_c rfl (ae_c rfl (ae_c rfl (ae_c rfl ae_n))))))) rfl rfl hk1 hP1
        exact W.iret (v := (fX2_cellColour (((p1 &&& (8191:Int32)) - (6656:Int32)) - (128:Int32)) f_co)) hx hb hr (fun t ht hW => ⟨⟨(fX2_cellColour (((p1 &&& (8191:Int32)) - (6656:Int32)) - (128:Int32)) f_co), (), rfl, hF.symm, by rw [ht]; exact hP, va_K.moved hW.alike hK, hD⟩, hS.F ht⟩) hS.2.2 dX0_peek_75
      · have hF := hF.trans (if_neg c_48)
        refine lv_aload_n hx hb dX0_peek_51 rfl (lv_at hl 2 rfl) ?_
        refine va_get (D := (dC, dI)) (ci := 0) (v := .ref q_ic) (C := RX0) (T := TX0) (N := 8) hx hb hts hiX0 hown hK hP 0 rfl rfl 5 (by decide) (hts _ kFX0_35) (fun _ h9 => h9) rfl dX0_peek_52 ?_
        refine lv_iload_n hx hb dX0_peek_55 rfl (lv_at hl 0 rfl) ?_
        refine lv_bipush (v := 15) hx hb dX0_peek_56 (by decide) ?_
        refine lv_iand hx hb dX0_peek_58 ?_
        have hPc := hP.sub (ws' := (wwX1 q_ic q_ky q_ta q_tb k_ky ic_rows ic_keysSeen ic_flags ic_enabled ta_controlBits ta_control ta_count ta_latch tb_controlBits tb_control tb_count tb_latch f_ky)) [10, 11, 12, 13] rfl
        have hDc := hD.sub (ws' := (wwX1 q_ic q_ky q_ta q_tb k_ky ic_rows ic_keysSeen ic_flags ic_enabled ta_controlBits ta_control ta_count ta_latch tb_controlBits tb_control tb_count tb_latch f_ky)) [10, 11, 12, 13] (by decide) rfl
        have hKc := hK.sub (tys' := [(k_ky, .int)]) [8] rfl
        have hFc := va_free (wc := (wwX1 q_ic q_ky q_ta q_tb k_ky ic_rows ic_keysSeen ic_flags ic_enabled ta_controlBits ta_control ta_count ta_latch tb_controlBits tb_control tb_count tb_latch f_ky)) hD hS hA [10, 11, 12, 13] rfl
        refine va_calli (va_runV (As := [.int (((p1 &&& (8191:Int32)) - (6656:Int32)) &&& (15:Int32))]) (rest := []) ⟨hx, hb, hml, hown, hts⟩ (mX1_peekRegister l dC dI q_ic q_ky q_ta q_tb k_ky H.size ic_rows ic_keysSeen ic_flags ic_enabled ta_controlBits ta_control ta_count ta_latch tb_controlBits tb_control tb_count tb_latch f_ky (((p1 &&& (8191:Int32)) - (6656:Int32)) &&& (15:Int32))) (cwV 1 hts (ub_V kMX0_72 kYX1_peekRegister kSX1_peekRegister kIX1 kBX1_peekRegister) rfl rfl rfl (by decide +kernel) ⟨Nat.le_of_ble_eq_true rfl, Nat.le_of_ble_eq_true rfl⟩) ⟨fun a U g mk q => by obtain ⟨q0, q1, qP, qK, qD⟩ := q; exact ⟨q0, q1, qP, va_K.moved (u := U) (U := U.calling g mk a) (Vm.Alike.refl U.vm) qK, qD⟩, va_recv hKc hPc (ci := 1) (q0 := 0) rfl rfl, fun U hU hW => ⟨rfl, by rw [hU], by rw [hU]; exact hPc, va_K.moved hW.alike hKc, hDc.weaken (fun _ _ _ _ => trivial)⟩⟩ rfl rfl hl.1 rfl (lv_room (Nat.le_of_ble_eq_true rfl)) dX0_peek_59 ⟨(Nat.zero_le _), (Nat.zero_le _)⟩) hS (fun q _ h => hFc q h) hFc (fun r_59 u_59 t H locs ht hvm hw hB hz1 hk1 hS => ?_)
        obtain ⟨hP1, hK1, hD1⟩ := hB
        rw [ht] at hP1
        subst hw
        obtain ⟨hP, hD⟩ := vb_back (wc := (wwX1 q_ic q_ky q_ta q_tb k_ky ic_rows ic_keysSeen ic_flags ic_enabled ta_controlBits ta_control ta_count ta_latch tb_controlBits tb_control tb_count tb_latch f_ky)) (ws' := (wwX0 q_bu q_ra q_rA q_rc q_rk q_pi q_po q_co q_wc q_wo q_ic q_ky q_ta q_tb k_ra k_rA k_rc k_rk k_po k_co k_wc k_wo k_ky bu_port bu_latest pi_line pi_cycle pi_control pi_compareLine pi_ground pi_border pi_base pi_flag pi_enabled pi_idle pi_bad pi_glyphLine pi_rowToFetch ic_rows ic_keysSeen ic_flags ic_enabled ta_controlBits ta_control ta_count ta_latch tb_controlBits tb_control tb_count tb_latch f_ra f_rA f_rc f_rk f_po f_co f_wc f_wo f_ky)) hP hD hD1 [10, 11, 12, 13] [0, 1, 2, 3, 4, 5, 6, 7, 8, 9] rfl rfl (ae_c rfl (ae_c rfl (ae_c rfl (ae_c rfl (ae_c rfl (ae_c rfl (ae_c rfl (ae_c rfl (ae_c rfl (ae_c rfl ae_n)))))))))) rfl rfl hk1 hP1
        exact W.iret (v := (fX1_peekRegister (((p1 &&& (8191:Int32)) - (6656:Int32)) &&& (15:Int32)) ic_rows ic_keysSeen ic_flags ic_enabled ta_control ta_count tb_control tb_count)) hx hb hr (fun t ht hW => ⟨⟨(fX1_peekRegister (((p1 &&& (8191:Int32)) - (6656:Int32)) &&& (15:Int32)) ic_rows ic_keysSeen ic_flags ic_enabled ta_control ta_count tb_control tb_count), (), rfl, hF.symm, by rw [ht]; exact hP, va_K.moved hW.alike hK, hD⟩, hS.F ht⟩) hS.2.2 dX0_peek_62
    · have hF := hF.trans (if_neg c_29)
      refine lv_aload_n hx hb dX0_peek_32 rfl (lv_at hl 2 rfl) ?_
      refine va_get (D := (dC, dI)) (ci := 0) (v := .ref q_pi) (C := RX0) (T := TX0) (N := 8) hx hb hts hiX0 hown hK hP 0 rfl rfl 4 (by decide) (hts _ kFX0_31) (fun _ h9 => h9) rfl dX0_peek_33 ?_
      refine lv_iload_n hx hb dX0_peek_36 rfl (lv_at hl 0 rfl) ?_
      refine lv_bipush (v := 15) hx hb dX0_peek_37 (by decide) ?_
      refine lv_iand hx hb dX0_peek_39 ?_
      have hPc := hP.sub (ws' := (wwX2 q_pi q_ra q_rc q_po q_co q_wc q_wo k_ra k_rc k_po k_co k_wc k_wo pi_line pi_cycle pi_control pi_compareLine pi_ground pi_border pi_base pi_flag pi_enabled pi_idle pi_bad pi_glyphLine pi_rowToFetch f_ra f_rc f_po f_co f_wc f_wo)) [5, 1, 3, 6, 7, 8, 9] rfl
      have hDc := hD.sub (ws' := (wwX2 q_pi q_ra q_rc q_po q_co q_wc q_wo k_ra k_rc k_po k_co k_wc k_wo pi_line pi_cycle pi_control pi_compareLine pi_ground pi_border pi_base pi_flag pi_enabled pi_idle pi_bad pi_glyphLine pi_rowToFetch f_ra f_rc f_po f_co f_wc f_wo)) [5, 1, 3, 6, 7, 8, 9] (by decide) rfl
      have hKc := hK.sub (tys' := [(k_ra, .int), (k_rc, .int), (k_po, .int), (k_co, .int), (k_wc, .int), (k_wo, .int)]) [0, 2, 4, 5, 6, 7] rfl
      have hFc := va_free (wc := (wwX2 q_pi q_ra q_rc q_po q_co q_wc q_wo k_ra k_rc k_po k_co k_wc k_wo pi_line pi_cycle pi_control pi_compareLine pi_ground pi_border pi_base pi_flag pi_enabled pi_idle pi_bad pi_glyphLine pi_rowToFetch f_ra f_rc f_po f_co f_wc f_wo)) hD hS hA [5, 1, 3, 6, 7, 8, 9] rfl
      refine va_calli (va_runV (As := [.int (((p1 &&& (8191:Int32)) - (6656:Int32)) &&& (15:Int32))]) (rest := []) ⟨hx, hb, hml, hown, hts⟩ (mX2_peekRegister l dC dI q_pi q_ra q_rc q_po q_co q_wc q_wo k_ra k_rc k_po k_co k_wc k_wo H.size pi_line pi_cycle pi_control pi_compareLine pi_ground pi_border pi_base pi_flag pi_enabled pi_idle pi_bad pi_glyphLine pi_rowToFetch f_ra f_rc f_po f_co f_wc f_wo (((p1 &&& (8191:Int32)) - (6656:Int32)) &&& (15:Int32))) (cwV 1 hts (ub_V kMX0_69 kYX2_peekRegister kSX2_peekRegister kIX2 kBX2_peekRegister) rfl rfl rfl (by decide +kernel) ⟨Nat.le_of_ble_eq_true rfl, Nat.le_of_ble_eq_true rfl⟩) ⟨fun a U g mk q => by obtain ⟨q0, q1, qP, qK, qD⟩ := q; exact ⟨q0, q1, qP, va_K.moved (u := U) (U := U.calling g mk a) (Vm.Alike.refl U.vm) qK, qD⟩, va_recv hKc hPc (ci := 2) (q0 := 0) rfl rfl, fun U hU hW => ⟨rfl, by rw [hU], by rw [hU]; exact hPc, va_K.moved hW.alike hKc, hDc.weaken (fun _ _ _ _ => trivial)⟩⟩ rfl rfl hl.1 rfl (lv_room (Nat.le_of_ble_eq_true rfl)) dX0_peek_40 ⟨(Nat.zero_le _), (Nat.zero_le _)⟩) hS (fun q _ h => hFc q h) hFc (fun r_40 u_40 t H locs ht hvm hw hB hz1 hk1 hS => ?_)
      obtain ⟨hP1, hK1, hD1⟩ := hB
      rw [ht] at hP1
      subst hw
      obtain ⟨hP, hD⟩ := vb_back (wc := (wwX2 q_pi q_ra q_rc q_po q_co q_wc q_wo k_ra k_rc k_po k_co k_wc k_wo pi_line pi_cycle pi_control pi_compareLine pi_ground pi_border pi_base pi_flag pi_enabled pi_idle pi_bad pi_glyphLine pi_rowToFetch f_ra f_rc f_po f_co f_wc f_wo)) (ws' := (wwX0 q_bu q_ra q_rA q_rc q_rk q_pi q_po q_co q_wc q_wo q_ic q_ky q_ta q_tb k_ra k_rA k_rc k_rk k_po k_co k_wc k_wo k_ky bu_port bu_latest pi_line pi_cycle pi_control pi_compareLine pi_ground pi_border pi_base pi_flag pi_enabled pi_idle pi_bad pi_glyphLine pi_rowToFetch ic_rows ic_keysSeen ic_flags ic_enabled ta_controlBits ta_control ta_count ta_latch tb_controlBits tb_control tb_count tb_latch f_ra f_rA f_rc f_rk f_po f_co f_wc f_wo f_ky)) hP hD hD1 [5, 1, 3, 6, 7, 8, 9] [0, 2, 4, 10, 11, 12, 13] rfl rfl (ae_c rfl (ae_c rfl (ae_c rfl (ae_c rfl (ae_c rfl (ae_c rfl (ae_c rfl ae_n))))))) rfl rfl hk1 hP1
      exact W.iret (v := (fX2_peekRegister (((p1 &&& (8191:Int32)) - (6656:Int32)) &&& (15:Int32)) pi_line pi_control pi_ground pi_border pi_base pi_flag pi_enabled)) hx hb hr (fun t ht hW => ⟨⟨(fX2_peekRegister (((p1 &&& (8191:Int32)) - (6656:Int32)) &&& (15:Int32)) pi_line pi_control pi_ground pi_border pi_base pi_flag pi_enabled), (), rfl, hF.symm, by rw [ht]; exact hP, va_K.moved hW.alike hK, hD⟩, hS.F ht⟩) hS.2.2 dX0_peek_43
  · have hF := hF.trans (if_pos c_17)
    refine lv_aload_n hx hb dX0_peek_20 rfl (lv_at hl 2 rfl) ?_
    refine lv_iload_n hx hb dX0_peek_21 rfl (lv_at hl 1 rfl) ?_
    have hPc := hP.sub (ws' := (wwX0 q_bu q_ra q_rA q_rc q_rk q_pi q_po q_co q_wc q_wo q_ic q_ky q_ta q_tb k_ra k_rA k_rc k_rk k_po k_co k_wc k_wo k_ky bu_port bu_latest pi_line pi_cycle pi_control pi_compareLine pi_ground pi_border pi_base pi_flag pi_enabled pi_idle pi_bad pi_glyphLine pi_rowToFetch ic_rows ic_keysSeen ic_flags ic_enabled ta_controlBits ta_control ta_count ta_latch tb_controlBits tb_control tb_count tb_latch f_ra f_rA f_rc f_rk f_po f_co f_wc f_wo f_ky)) [0, 1, 2, 3, 4, 5, 6, 7, 8, 9, 10, 11, 12, 13] rfl
    have hDc := hD.sub (ws' := (wwX0 q_bu q_ra q_rA q_rc q_rk q_pi q_po q_co q_wc q_wo q_ic q_ky q_ta q_tb k_ra k_rA k_rc k_rk k_po k_co k_wc k_wo k_ky bu_port bu_latest pi_line pi_cycle pi_control pi_compareLine pi_ground pi_border pi_base pi_flag pi_enabled pi_idle pi_bad pi_glyphLine pi_rowToFetch ic_rows ic_keysSeen ic_flags ic_enabled ta_controlBits ta_control ta_count ta_latch tb_controlBits tb_control tb_count tb_latch f_ra f_rA f_rc f_rk f_po f_co f_wc f_wo f_ky)) [0, 1, 2, 3, 4, 5, 6, 7, 8, 9, 10, 11, 12, 13] (by decide) rfl
    have hKc := hK.sub (tys' := [(k_ra, .int), (k_rA, .int), (k_rc, .int), (k_rk, .int), (k_po, .int), (k_co, .int), (k_wc, .int), (k_wo, .int), (k_ky, .int)]) [0, 1, 2, 3, 4, 5, 6, 7, 8] rfl
    have hFc := va_free (wc := (wwX0 q_bu q_ra q_rA q_rc q_rk q_pi q_po q_co q_wc q_wo q_ic q_ky q_ta q_tb k_ra k_rA k_rc k_rk k_po k_co k_wc k_wo k_ky bu_port bu_latest pi_line pi_cycle pi_control pi_compareLine pi_ground pi_border pi_base pi_flag pi_enabled pi_idle pi_bad pi_glyphLine pi_rowToFetch ic_rows ic_keysSeen ic_flags ic_enabled ta_controlBits ta_control ta_count ta_latch tb_controlBits tb_control tb_count tb_latch f_ra f_rA f_rc f_rk f_po f_co f_wc f_wo f_ky)) hD hS hA [0, 1, 2, 3, 4, 5, 6, 7, 8, 9, 10, 11, 12, 13] rfl
    refine va_calli (va_runV (As := [.int (p1 &&& (8191:Int32))]) (rest := []) ⟨hx, hb, hml, hown, hts⟩ (mX0_peekMemory l dC dI q_bu q_ra q_rA q_rc q_rk q_pi q_po q_co q_wc q_wo q_ic q_ky q_ta q_tb k_ra k_rA k_rc k_rk k_po k_co k_wc k_wo k_ky H.size bu_port bu_latest pi_line pi_cycle pi_control pi_compareLine pi_ground pi_border pi_base pi_flag pi_enabled pi_idle pi_bad pi_glyphLine pi_rowToFetch ic_rows ic_keysSeen ic_flags ic_enabled ta_controlBits ta_control ta_count ta_latch tb_controlBits tb_control tb_count tb_latch f_ra f_rA f_rc f_rk f_po f_co f_wc f_wo f_ky (p1 &&& (8191:Int32))) (cwV 1 hts (ub_V kMX0_66 kYX0_peekMemory kSX0_peekMemory kIX0 kBX0_peekMemory) rfl rfl rfl (by decide +kernel) ⟨Nat.le_of_ble_eq_true rfl, Nat.le_of_ble_eq_true rfl⟩) ⟨fun a U g mk q => by obtain ⟨q0, q1, qP, qK, qD⟩ := q; exact ⟨q0, q1, qP, va_K.moved (u := U) (U := U.calling g mk a) (Vm.Alike.refl U.vm) qK, qD⟩, va_recv hKc hPc (ci := 0) (q0 := 0) rfl rfl, fun U hU hW => ⟨rfl, by rw [hU], by rw [hU]; exact hPc, va_K.moved hW.alike hKc, hDc.weaken (fun _ _ _ _ => trivial)⟩⟩ rfl rfl hl.1 rfl (lv_room (Nat.le_of_ble_eq_true rfl)) dX0_peek_22 ⟨(Nat.zero_le _), (Nat.zero_le _)⟩) hS (fun q _ h => hFc q h) hFc (fun r_22 u_22 t H locs ht hvm hw hB hz1 hk1 hS => ?_)
    obtain ⟨hP1, hK1, hD1⟩ := hB
    rw [ht] at hP1
    subst hw
    obtain ⟨hP, hD⟩ := vb_back (wc := (wwX0 q_bu q_ra q_rA q_rc q_rk q_pi q_po q_co q_wc q_wo q_ic q_ky q_ta q_tb k_ra k_rA k_rc k_rk k_po k_co k_wc k_wo k_ky bu_port bu_latest pi_line pi_cycle pi_control pi_compareLine pi_ground pi_border pi_base pi_flag pi_enabled pi_idle pi_bad pi_glyphLine pi_rowToFetch ic_rows ic_keysSeen ic_flags ic_enabled ta_controlBits ta_control ta_count ta_latch tb_controlBits tb_control tb_count tb_latch f_ra f_rA f_rc f_rk f_po f_co f_wc f_wo f_ky)) (ws' := (wwX0 q_bu q_ra q_rA q_rc q_rk q_pi q_po q_co q_wc q_wo q_ic q_ky q_ta q_tb k_ra k_rA k_rc k_rk k_po k_co k_wc k_wo k_ky bu_port bu_latest pi_line pi_cycle pi_control pi_compareLine pi_ground pi_border pi_base pi_flag pi_enabled pi_idle pi_bad pi_glyphLine pi_rowToFetch ic_rows ic_keysSeen ic_flags ic_enabled ta_controlBits ta_control ta_count ta_latch tb_controlBits tb_control tb_count tb_latch f_ra f_rA f_rc f_rk f_po f_co f_wc f_wo f_ky)) hP hD hD1 [0, 1, 2, 3, 4, 5, 6, 7, 8, 9, 10, 11, 12, 13] [] rfl rfl ae_n rfl rfl hk1 hP1
    exact W.iret (v := (fX0_peekMemory (p1 &&& (8191:Int32)) bu_port f_ra f_rA f_rc f_rk)) hx hb hr (fun t ht hW => ⟨⟨(fX0_peekMemory (p1 &&& (8191:Int32)) bu_port f_ra f_rA f_rc f_rk), (), rfl, hF.symm, by rw [ht]; exact hP, va_K.moved hW.alike hK, hD⟩, hS.F ht⟩) hS.2.2 dX0_peek_25
def fX1_clearBehindRead (p1 : Int32) (ic_flags : Int32) : Int32 :=
  if p1 = (13:Int32) then
   (0:Int32)
  else
   ic_flags
set_option maxHeartbeats 4000000 in
set_option maxRecDepth 100000 in
theorem mX1_clearBehindRead (l : Launch) (dC : Nat → ClassId) (dI : Nat → Nat → Nat) (q_ic q_ky q_ta q_tb : Nat) (k_ky : ClassId) (sz : Nat) (ic_rows ic_keysSeen ic_flags ic_enabled ta_controlBits ta_control ta_count ta_latch tb_controlBits tb_control tb_count tb_latch : Int32) (f_ky : Nat → Int32) (p1 : Int32) : Met l yX1_clearBehindRead uX1_clearBehindRead ({ frames := 0, cells := 0, slots := 0, locals := 0 }) (va_Pc [.ref q_ic, .int p1] (fun U => U.heap.size = sz ∧ va_P (dC, dI) vwCl (wwX1 q_ic q_ky q_ta q_tb k_ky ic_rows ic_keysSeen ic_flags ic_enabled ta_controlBits ta_control ta_count ta_latch tb_controlBits tb_control tb_count tb_latch f_ky) U.heap ∧ va_K (dC, dI) vwCl [(k_ky, .int)] U ∧ va_D (fun _ => True) (wwX1 q_ic q_ky q_ta q_tb k_ky ic_rows ic_keysSeen ic_flags ic_enabled ta_controlBits ta_control ta_count ta_latch tb_controlBits tb_control tb_count tb_latch f_ky))) (va_Qv (fun (u : Int32) => u = fX1_clearBehindRead p1 ic_flags) (fun (u : Int32) (t : State) => va_P (dC, dI) vwCl (wwX1 q_ic q_ky q_ta q_tb k_ky ic_rows ic_keysSeen u ic_enabled ta_controlBits ta_control ta_count ta_latch tb_controlBits tb_control tb_count tb_latch f_ky) t.heap ∧ va_K (dC, dI) vwCl [(k_ky, .int)] t ∧ va_D (va_A (wwX1 q_ic q_ky q_ta q_tb k_ky ic_rows ic_keysSeen ic_flags ic_enabled ta_controlBits ta_control ta_count ta_latch tb_controlBits tb_control tb_count tb_latch f_ky) sz) (wwX1 q_ic q_ky q_ta q_tb k_ky ic_rows ic_keysSeen u ic_enabled ta_controlBits ta_control ta_count ta_latch tb_controlBits tb_control tb_count tb_latch f_ky)) (va_A (wwX1 q_ic q_ky q_ta q_tb k_ky ic_rows ic_keysSeen ic_flags ic_enabled ta_controlBits ta_control ta_count ta_latch tb_controlBits tb_control tb_count tb_latch f_ky) sz)) 0 0 (va_A (wwX1 q_ic q_ky q_ta q_tb k_ky ic_rows ic_keysSeen ic_flags ic_enabled ta_controlBits ta_control ta_count ta_latch tb_controlBits tb_control tb_count tb_latch f_ky) sz) := by
  refine Met.ofW (cc := cX1_clearBehindRead) (maxL := 2) (ret := none) (by decide) rfl ?_
  intro p e s m args below meth c s₁ B hml hv
  obtain ⟨rfl, hsz, hP, hK, hD0⟩ := hv
  have hx := B.exec
  have hb := B.bytes
  have hr := B.returns
  have hts : ∀ w ∈ ub, w.before _ s = true := fun w h => atoms_spec (ws := uX1_clearBehindRead) B.pre w (List.mem_cons_of_mem _ h)
  have hown : s.vm.findClass RX1 = some m.cls := findClass_of_methodNamed B.named
  have hlocks := B.notSynchronized
  subst hsz
  have hD := hD0.self (sz := s.heap.size)
  generalize hAe : va_A (wwX1 q_ic q_ky q_ta q_tb k_ky ic_rows ic_keysSeen ic_flags ic_enabled ta_controlBits ta_control ta_count ta_latch tb_controlBits tb_control tb_count tb_latch f_ky) s.heap.size = A at hD ⊢
  have hA : ∀ q : Nat, s.heap.size ≤ q → A q := fun q h => by rw [← hAe]; exact Or.inr h
  have hS : va_S A s.heap s.heap [] := va_S.rf
  have hl := lv_entry ([.ref q_ic, .int p1]) (n := 2) (Nat.le_of_ble_eq_true rfl)
  rw [lg_entry_eq]
  generalize (lg_sl ([.ref q_ic, .int p1]) ++ List.replicate (2 - (lg_sl ([.ref q_ic, .int p1])).length) Slot.unset).toArray = ls at hl ⊢
  have hl : lv_has ls 2 [(0, .ref q_ic), (1, .int p1)] := hl
  have hF := fX1_clearBehindRead.eq_1 p1 ic_flags
  refine lv_iload_n hx hb dX1_clearBehindRead_0 rfl (lv_at hl 1 rfl) ?_
  refine lv_bipush (v := 13) hx hb dX1_clearBehindRead_1 (by decide) ?_
  refine lv_icmp_ne (tgt := 11) hx hb dX1_clearBehindRead_3 (by decide) (fun c_3 => ?_) (fun c_3 => ?_)
  · have hF := hF.trans (if_neg c_3)
    exact W.vret hx hb hr (fun t ht hW => ⟨⟨ic_flags, rfl, hF.symm, by rw [ht]; exact hP, va_K.moved hW.alike hK, hD⟩, hS.F ht⟩) hS.2.2 dX1_clearBehindRead_11
  · have hF := hF.trans (if_pos c_3)
    refine lv_aload_n hx hb dX1_clearBehindRead_6 rfl (lv_at hl 0 rfl) ?_
    refine lv_iconst (v := 0) hx hb dX1_clearBehindRead_7 (by decide) ?_
    refine va_put (D := (dC, dI)) (ci := 1) (v := .int (0:Int32)) (ty := .int) (C := RX1) (T := TX1) (N := 7) hx hb hts hiX1 tyX1 tyX1_ok nmX1 hown hK hP hD hS 0 rfl rfl 5 (by decide) (hts _ kFX1_42) (fun _ h9 => h9) rfl (by decide +kernel) rfl rfl (Nat.le_of_ble_eq_true rfl) dX1_clearBehindRead_8 (fun H locs hP hD hS => ?_)
    have hP : va_P (dC, dI) vwCl (wwX1 q_ic q_ky q_ta q_tb k_ky ic_rows ic_keysSeen (0:Int32) ic_enabled ta_controlBits ta_control ta_count ta_latch tb_controlBits tb_control tb_count tb_latch f_ky) H := hP
    have hD : va_D A (wwX1 q_ic q_ky q_ta q_tb k_ky ic_rows ic_keysSeen (0:Int32) ic_enabled ta_controlBits ta_control ta_count ta_latch tb_controlBits tb_control tb_count tb_latch f_ky) := hD
    exact W.vret hx hb hr (fun t ht hW => ⟨⟨(0:Int32), rfl, hF.symm, by rw [ht]; exact hP, va_K.moved hW.alike hK, hD⟩, hS.F ht⟩) hS.2.2 dX1_clearBehindRead_11
def fX0_read (p1 : Int32) (bu_port : Int32) (pi_line : Int32) (pi_control : Int32) (pi_ground : Int32) (pi_border : Int32) (pi_base : Int32) (pi_flag : Int32) (pi_enabled : Int32) (ic_rows : Int32) (ic_keysSeen : Int32) (ic_flags : Int32) (ic_enabled : Int32) (ta_control : Int32) (ta_count : Int32) (tb_control : Int32) (tb_count : Int32) (f_ra : Nat → Int32) (f_rA : Nat → Int32) (f_rc : Nat → Int32) (f_rk : Nat → Int32) (f_co : Nat → Int32) : Int32 × Int32 × Int32 :=
  if (fX0_showsRegisters (p1 &&& (8191:Int32)) bu_port) = (0:Int32) then
   ((fX0_peek (p1 &&& (8191:Int32)) bu_port pi_line pi_control pi_ground pi_border pi_base pi_flag pi_enabled ic_rows ic_keysSeen ic_flags ic_enabled ta_control ta_count tb_control tb_count f_ra f_rA f_rc f_rk f_co), (p1 &&& (8191:Int32)), ic_flags)
  else
   if (fX0_isInterfacePlace ((p1 &&& (8191:Int32)) - (6656:Int32))) = (0:Int32) then
    ((fX0_peek (p1 &&& (8191:Int32)) bu_port pi_line pi_control pi_ground pi_border pi_base pi_flag pi_enabled ic_rows ic_keysSeen ic_flags ic_enabled ta_control ta_count tb_control tb_count f_ra f_rA f_rc f_rk f_co), (p1 &&& (8191:Int32)), ic_flags)
   else
    ((fX0_peek (p1 &&& (8191:Int32)) bu_port pi_line pi_control pi_ground pi_border pi_base pi_flag pi_enabled ic_rows ic_keysSeen ic_flags ic_enabled ta_control ta_count tb_control tb_count f_ra f_rA f_rc f_rk f_co), (p1 &&& (8191:Int32)), (fX1_clearBehindRead (((p1 &&& (8191:Int32)) - (6656:Int32)) &&& (15:Int32)) ic_flags))
set_option maxHeartbeats 4000000 in
set_option maxRecDepth 100000 in
theorem mX0_read (l : Launch) (dC : Nat → ClassId) (dI : Nat → Nat → Nat) (q_bu q_ra q_rA q_rc q_rk q_pi q_po q_co q_wc q_wo q_ic q_ky q_ta q_tb : Nat) (k_ra k_rA k_rc k_rk k_po k_co k_wc k_wo k_ky : ClassId) (sz : Nat) (bu_port bu_latest pi_line pi_cycle pi_control pi_compareLine pi_ground pi_border pi_base pi_flag pi_enabled pi_idle pi_bad pi_glyphLine pi_rowToFetch ic_rows ic_keysSeen ic_flags ic_enabled ta_controlBits ta_control ta_count ta_latch tb_controlBits tb_control tb_count tb_latch : Int32) (f_ra f_rA f_rc f_rk f_po f_co f_wc f_wo f_ky : Nat → Int32) (p1 : Int32) : Met l yX0_read uX0_read ({ frames := 2, cells := 0, slots := 0, locals := 46 }) (va_Pc [.ref q_bu, .int p1] (fun U => U.heap.size = sz ∧ va_P (dC, dI) vwCl (wwX0 q_bu q_ra q_rA q_rc q_rk q_pi q_po q_co q_wc q_wo q_ic q_ky q_ta q_tb k_ra k_rA k_rc k_rk k_po k_co k_wc k_wo k_ky bu_port bu_latest pi_line pi_cycle pi_control pi_compareLine pi_ground pi_border pi_base pi_flag pi_enabled pi_idle pi_bad pi_glyphLine pi_rowToFetch ic_rows ic_keysSeen ic_flags ic_enabled ta_controlBits ta_control ta_count ta_latch tb_controlBits tb_control tb_count tb_latch f_ra f_rA f_rc f_rk f_po f_co f_wc f_wo f_ky) U.heap ∧ va_K (dC, dI) vwCl [(k_ra, .int), (k_rA, .int), (k_rc, .int), (k_rk, .int), (k_po, .int), (k_co, .int), (k_wc, .int), (k_wo, .int), (k_ky, .int)] U ∧ va_D (fun _ => True) (wwX0 q_bu q_ra q_rA q_rc q_rk q_pi q_po q_co q_wc q_wo q_ic q_ky q_ta q_tb k_ra k_rA k_rc k_rk k_po k_co k_wc k_wo k_ky bu_port bu_latest pi_line pi_cycle pi_control pi_compareLine pi_ground pi_border pi_base pi_flag pi_enabled pi_idle pi_bad pi_glyphLine pi_rowToFetch ic_rows ic_keysSeen ic_flags ic_enabled ta_controlBits ta_control ta_count ta_latch tb_controlBits tb_control tb_count tb_latch f_ra f_rA f_rc f_rk f_po f_co f_wc f_wo f_ky))) (va_Qi (fun (r : Int32) (u : Int32 × Int32) => (r, u) = fX0_read p1 bu_port pi_line pi_control pi_ground pi_border pi_base pi_flag pi_enabled ic_rows ic_keysSeen ic_flags ic_enabled ta_control ta_count tb_control tb_count f_ra f_rA f_rc f_rk f_co) (fun (u : Int32 × Int32) (t : State) => va_P (dC, dI) vwCl (wwX0 q_bu q_ra q_rA q_rc q_rk q_pi q_po q_co q_wc q_wo q_ic q_ky q_ta q_tb k_ra k_rA k_rc k_rk k_po k_co k_wc k_wo k_ky bu_port u.1 pi_line pi_cycle pi_control pi_compareLine pi_ground pi_border pi_base pi_flag pi_enabled pi_idle pi_bad pi_glyphLine pi_rowToFetch ic_rows ic_keysSeen u.2 ic_enabled ta_controlBits ta_control ta_count ta_latch tb_controlBits tb_control tb_count tb_latch f_ra f_rA f_rc f_rk f_po f_co f_wc f_wo f_ky) t.heap ∧ va_K (dC, dI) vwCl [(k_ra, .int), (k_rA, .int), (k_rc, .int), (k_rk, .int), (k_po, .int), (k_co, .int), (k_wc, .int), (k_wo, .int), (k_ky, .int)] t ∧ va_D (va_A (wwX0 q_bu q_ra q_rA q_rc q_rk q_pi q_po q_co q_wc q_wo q_ic q_ky q_ta q_tb k_ra k_rA k_rc k_rk k_po k_co k_wc k_wo k_ky bu_port bu_latest pi_line pi_cycle pi_control pi_compareLine pi_ground pi_border pi_base pi_flag pi_enabled pi_idle pi_bad pi_glyphLine pi_rowToFetch ic_rows ic_keysSeen ic_flags ic_enabled ta_controlBits ta_control ta_count ta_latch tb_controlBits tb_control tb_count tb_latch f_ra f_rA f_rc f_rk f_po f_co f_wc f_wo f_ky) sz) (wwX0 q_bu q_ra q_rA q_rc q_rk q_pi q_po q_co q_wc q_wo q_ic q_ky q_ta q_tb k_ra k_rA k_rc k_rk k_po k_co k_wc k_wo k_ky bu_port u.1 pi_line pi_cycle pi_control pi_compareLine pi_ground pi_border pi_base pi_flag pi_enabled pi_idle pi_bad pi_glyphLine pi_rowToFetch ic_rows ic_keysSeen u.2 ic_enabled ta_controlBits ta_control ta_count ta_latch tb_controlBits tb_control tb_count tb_latch f_ra f_rA f_rc f_rk f_po f_co f_wc f_wo f_ky)) (va_A (wwX0 q_bu q_ra q_rA q_rc q_rk q_pi q_po q_co q_wc q_wo q_ic q_ky q_ta q_tb k_ra k_rA k_rc k_rk k_po k_co k_wc k_wo k_ky bu_port bu_latest pi_line pi_cycle pi_control pi_compareLine pi_ground pi_border pi_base pi_flag pi_enabled pi_idle pi_bad pi_glyphLine pi_rowToFetch ic_rows ic_keysSeen ic_flags ic_enabled ta_controlBits ta_control ta_count ta_latch tb_controlBits tb_control tb_count tb_latch f_ra f_rA f_rc f_rk f_po f_co f_wc f_wo f_ky) sz)) 0 0 (va_A (wwX0 q_bu q_ra q_rA q_rc q_rk q_pi q_po q_co q_wc q_wo q_ic q_ky q_ta q_tb k_ra k_rA k_rc k_rk k_po k_co k_wc k_wo k_ky bu_port bu_latest pi_line pi_cycle pi_control pi_compareLine pi_ground pi_border pi_base pi_flag pi_enabled pi_idle pi_bad pi_glyphLine pi_rowToFetch ic_rows ic_keysSeen ic_flags ic_enabled ta_controlBits ta_control ta_count ta_latch tb_controlBits tb_control tb_count tb_latch f_ra f_rA f_rc f_rk f_po f_co f_wc f_wo f_ky) sz) := by
  refine Met.ofW (cc := cX0_read) (maxL := 5) (ret := (some .int)) (by decide) rfl ?_
  intro p e s m args below meth c s₁ B hml hv
  obtain ⟨rfl, hsz, hP, hK, hD0⟩ := hv
  have hx := B.exec
  have hb := B.bytes
  have hr := B.returns
  have hts : ∀ w ∈ ub, w.before _ s = true := fun w h => atoms_spec (ws := uX0_read) B.pre w (List.mem_cons_of_mem _ h)
  have hown : s.vm.findClass RX0 = some m.cls := findClass_of_methodNamed B.named
  have hlocks := B.notSynchronized
  subst hsz
  have hD := hD0.self (sz := s.heap.size)
  generalize hAe : va_A (wwX0 q_bu q_ra q_rA q_rc q_rk q_pi q_po q_co q_wc q_wo q_ic q_ky q_ta q_tb k_ra k_rA k_rc k_rk k_po k_co k_wc k_wo k_ky bu_port bu_latest pi_line pi_cycle pi_control pi_compareLine pi_ground pi_border pi_base pi_flag pi_enabled pi_idle pi_bad pi_glyphLine pi_rowToFetch ic_rows ic_keysSeen ic_flags ic_enabled ta_controlBits ta_control ta_count ta_latch tb_controlBits tb_control tb_count tb_latch f_ra f_rA f_rc f_rk f_po f_co f_wc f_wo f_ky) s.heap.size = A at hD ⊢
  have hA : ∀ q : Nat, s.heap.size ≤ q → A q := fun q h => by rw [← hAe]; exact Or.inr h
  have hS : va_S A s.heap s.heap [] := va_S.rf
  have hl := lv_entry ([.ref q_bu, .int p1]) (n := 5) (Nat.le_of_ble_eq_true rfl)
  rw [lg_entry_eq]
  generalize (lg_sl ([.ref q_bu, .int p1]) ++ List.replicate (5 - (lg_sl ([.ref q_bu, .int p1])).length) Slot.unset).toArray = ls at hl ⊢
  have hl : lv_has ls 5 [(0, .ref q_bu), (1, .int p1)] := hl
  have hF := fX0_read.eq_1 p1 bu_port pi_line pi_control pi_ground pi_border pi_base pi_flag pi_enabled ic_rows ic_keysSeen ic_flags ic_enabled ta_control ta_count tb_control tb_count f_ra f_rA f_rc f_rk f_co
  refine lv_iload_n hx hb dX0_read_0 rfl (lv_at hl 1 rfl) ?_
  refine lv_sipush (v := 8191) hx hb dX0_read_1 (by decide) ?_
  refine lv_iand hx hb dX0_read_4 ?_
  refine lv_istore_n (lv' := [(2, .int (p1 &&& (8191:Int32))), (0, .ref q_bu), (1, .int p1)]) hx hb dX0_read_5 rfl hl (by decide) rfl (fun ls hl => ?_)
  refine lv_aload_n hx hb dX0_read_6 rfl (lv_at hl 1 rfl) ?_
  refine lv_iload_n hx hb dX0_read_7 rfl (lv_at hl 0 rfl) ?_
  refine va_put (D := (dC, dI)) (ci := 0) (v := .int (p1 &&& (8191:Int32))) (ty := .int) (C := RX0) (T := TX0) (N := 8) hx hb hts hiX0 tyX0 tyX0_ok nmX0 hown hK hP hD hS 0 rfl rfl 7 (by decide) (hts _ kFX0_15) (fun _ h9 => h9) rfl (by decide +kernel) rfl rfl (Nat.le_of_ble_eq_true rfl) dX0_read_8 (fun H locs hP hD hS => ?_)
  have hP : va_P (dC, dI) vwCl (wwX0 q_bu q_ra q_rA q_rc q_rk q_pi q_po q_co q_wc q_wo q_ic q_ky q_ta q_tb k_ra k_rA k_rc k_rk k_po k_co k_wc k_wo k_ky bu_port (p1 &&& (8191:Int32)) pi_line pi_cycle pi_control pi_compareLine pi_ground pi_border pi_base pi_flag pi_enabled pi_idle pi_bad pi_glyphLine pi_rowToFetch ic_rows ic_keysSeen ic_flags ic_enabled ta_controlBits ta_control ta_count ta_latch tb_controlBits tb_control tb_count tb_latch f_ra f_rA f_rc f_rk f_po f_co f_wc f_wo f_ky) H := hP
  have hD : va_D A (wwX0 q_bu q_ra q_rA q_rc q_rk q_pi q_po q_co q_wc q_wo q_ic q_ky q_ta q_tb k_ra k_rA k_rc k_rk k_po k_co k_wc k_wo k_ky bu_port (p1 &&& (8191:Int32)) pi_line pi_cycle pi_control pi_compareLine pi_ground pi_border pi_base pi_flag pi_enabled pi_idle pi_bad pi_glyphLine pi_rowToFetch ic_rows ic_keysSeen ic_flags ic_enabled ta_controlBits ta_control ta_count ta_latch tb_controlBits tb_control tb_count tb_latch f_ra f_rA f_rc f_rk f_po f_co f_wc f_wo f_ky) := hD
  refine lv_aload_n hx hb dX0_read_11 rfl (lv_at hl 1 rfl) ?_
  refine lv_iload_n hx hb dX0_read_12 rfl (lv_at hl 0 rfl) ?_
  have hPc := hP.sub (ws' := (wwX0 q_bu q_ra q_rA q_rc q_rk q_pi q_po q_co q_wc q_wo q_ic q_ky q_ta q_tb k_ra k_rA k_rc k_rk k_po k_co k_wc k_wo k_ky bu_port (p1 &&& (8191:Int32)) pi_line pi_cycle pi_control pi_compareLine pi_ground pi_border pi_base pi_flag pi_enabled pi_idle pi_bad pi_glyphLine pi_rowToFetch ic_rows ic_keysSeen ic_flags ic_enabled ta_controlBits ta_control ta_count ta_latch tb_controlBits tb_control tb_count tb_latch f_ra f_rA f_rc f_rk f_po f_co f_wc f_wo f_ky)) [0, 1, 2, 3, 4, 5, 6, 7, 8, 9, 10, 11, 12, 13] rfl
  have hDc := hD.sub (ws' := (wwX0 q_bu q_ra q_rA q_rc q_rk q_pi q_po q_co q_wc q_wo q_ic q_ky q_ta q_tb k_ra k_rA k_rc k_rk k_po k_co k_wc k_wo k_ky bu_port (p1 &&& (8191:Int32)) pi_line pi_cycle pi_control pi_compareLine pi_ground pi_border pi_base pi_flag pi_enabled pi_idle pi_bad pi_glyphLine pi_rowToFetch ic_rows ic_keysSeen ic_flags ic_enabled ta_controlBits ta_control ta_count ta_latch tb_controlBits tb_control tb_count tb_latch f_ra f_rA f_rc f_rk f_po f_co f_wc f_wo f_ky)) [0, 1, 2, 3, 4, 5, 6, 7, 8, 9, 10, 11, 12, 13] (by decide) rfl
  have hKc := hK.sub (tys' := [(k_ra, .int), (k_rA, .int), (k_rc, .int), (k_rk, .int), (k_po, .int), (k_co, .int), (k_wc, .int), (k_wo, .int), (k_ky, .int)]) [0, 1, 2, 3, 4, 5, 6, 7, 8] rfl
  have hFc := va_free (wc := (wwX0 q_bu q_ra q_rA q_rc q_rk q_pi q_po q_co q_wc q_wo q_ic q_ky q_ta q_tb k_ra k_rA k_rc k_rk k_po k_co k_wc k_wo k_ky bu_port (p1 &&& (8191:Int32)) pi_line pi_cycle pi_control pi_compareLine pi_ground pi_border pi_base pi_flag pi_enabled pi_idle pi_bad pi_glyphLine pi_rowToFetch ic_rows ic_keysSeen ic_flags ic_enabled ta_controlBits ta_control ta_count ta_latch tb_controlBits tb_control tb_count tb_latch f_ra f_rA f_rc f_rk f_po f_co f_wc f_wo f_ky)) hD hS hA [0, 1, 2, 3, 4, 5, 6, 7, 8, 9, 10, 11, 12, 13] rfl
  refine va_calli (va_runV (As := [.int (p1 &&& (8191:Int32))]) (rest := []) ⟨hx, hb, hml, hown, hts⟩ (mX0_peek l dC dI q_bu q_ra q_rA q_rc q_rk q_pi q_po q_co q_wc q_wo q_ic q_ky q_ta q_tb k_ra k_rA k_rc k_rk k_po k_co k_wc k_wo k_ky H.size bu_port (p1 &&& (8191:Int32)) pi_line pi_cycle pi_control pi_compareLine pi_ground pi_border pi_base pi_flag pi_enabled pi_idle pi_bad pi_glyphLine pi_rowToFetch ic_rows ic_keysSeen ic_flags ic_enabled ta_controlBits ta_control ta_count ta_latch tb_controlBits tb_control tb_count tb_latch f_ra f_rA f_rc f_rk f_po f_co f_wc f_wo f_ky (p1 &&& (8191:Int32))) (cwV 1 hts (ub_V kMX0_39 kYX0_peek kSX0_peek kIX0 kBX0_peek) rfl rfl rfl (by decide +kernel) ⟨Nat.le_of_ble_eq_true rfl, Nat.le_of_ble_eq_true rfl⟩) ⟨fun a U g mk q => by obtain ⟨q0, q1, qP, qK, qD⟩ := q; exact ⟨q0, q1, qP, va_K.moved (u := U) (U := U.calling g mk a) (Vm.Alike.refl U.vm) qK, qD⟩, va_recv hKc hPc (ci := 0) (q0 := 0) rfl rfl, fun U hU hW => ⟨rfl, by rw [hU], by rw [hU]; exact hPc, va_K.moved hW.alike hKc, hDc.weaken (fun _ _ _ _ => trivial)⟩⟩ rfl rfl hl.1 rfl (lv_room (Nat.le_of_ble_eq_true rfl)) dX0_read_13 ⟨(Nat.zero_le _), (Nat.zero_le _)⟩) hS (fun q _ h => hFc q h) hFc (fun r_13 u_13 t H locs ht hvm hw hB hz1 hk1 hS => ?_)
  obtain ⟨hP1, hK1, hD1⟩ := hB
  rw [ht] at hP1
  subst hw
  obtain ⟨hP, hD⟩ := vb_back (wc := (wwX0 q_bu q_ra q_rA q_rc q_rk q_pi q_po q_co q_wc q_wo q_ic q_ky q_ta q_tb k_ra k_rA k_rc k_rk k_po k_co k_wc k_wo k_ky bu_port (p1 &&& (8191:Int32)) pi_line pi_cycle pi_control pi_compareLine pi_ground pi_border pi_base pi_flag pi_enabled pi_idle pi_bad pi_glyphLine pi_rowToFetch ic_rows ic_keysSeen ic_flags ic_enabled ta_controlBits ta_control ta_count ta_latch tb_controlBits tb_control tb_count tb_latch f_ra f_rA f_rc f_rk f_po f_co f_wc f_wo f_ky)) (ws' := (wwX0 q_bu q_ra q_rA q_rc q_rk q_pi q_po q_co q_wc q_wo q_ic q_ky q_ta q_tb k_ra k_rA k_rc k_rk k_po k_co k_wc k_wo k_ky bu_port (p1 &&& (8191:Int32)) pi_line pi_cycle pi_control pi_compareLine pi_ground pi_border pi_base pi_flag pi_enabled pi_idle pi_bad pi_glyphLine pi_rowToFetch ic_rows ic_keysSeen ic_flags ic_enabled ta_controlBits ta_control ta_count ta_latch tb_controlBits tb_control tb_count tb_latch f_ra f_rA f_rc f_rk f_po f_co f_wc f_wo f_ky)) hP hD hD1 [0, 1, 2, 3, 4, 5, 6, 7, 8, 9, 10, 11, 12, 13] [] rfl rfl ae_n rfl rfl hk1 hP1
  refine lv_istore_n (lv' := [(3, .int (fX0_peek (p1 &&& (8191:Int32)) bu_port pi_line pi_control pi_ground pi_border pi_base pi_flag pi_enabled ic_rows ic_keysSeen ic_flags ic_enabled ta_control ta_count tb_control tb_count f_ra f_rA f_rc f_rk f_co)), (2, .int (p1 &&& (8191:Int32))), (0, .ref q_bu), (1, .int p1)]) hx hb dX0_read_16 rfl hl (by decide) rfl (fun ls hl => ?_)
  refine lv_iload_n hx hb dX0_read_17 rfl (lv_at hl 1 rfl) ?_
  refine lv_sipush (v := 6656) hx hb dX0_read_18 (by decide) ?_
  refine lv_isub hx hb dX0_read_21 ?_
  refine lv_istore (lv' := [(4, .int ((p1 &&& (8191:Int32)) - (6656:Int32))), (3, .int (fX0_peek (p1 &&& (8191:Int32)) bu_port pi_line pi_control pi_ground pi_border pi_base pi_flag pi_enabled ic_rows ic_keysSeen ic_flags ic_enabled ta_control ta_count tb_control tb_count f_ra f_rA f_rc f_rk f_co)), (2, .int (p1 &&& (8191:Int32))), (0, .ref q_bu), (1, .int p1)]) hx hb dX0_read_22 hl (by decide) rfl (fun ls hl => ?_)
  refine lv_aload_n hx hb dX0_read_24 rfl (lv_at hl 3 rfl) ?_
  refine lv_iload_n hx hb dX0_read_25 rfl (lv_at hl 2 rfl) ?_
  have hPc := hP.sub (ws' := (wwX0 q_bu q_ra q_rA q_rc q_rk q_pi q_po q_co q_wc q_wo q_ic q_ky q_ta q_tb k_ra k_rA k_rc k_rk k_po k_co k_wc k_wo k_ky bu_port (p1 &&& (8191:Int32)) pi_line pi_cycle pi_control pi_compareLine pi_ground pi_border pi_base pi_flag pi_enabled pi_idle pi_bad pi_glyphLine pi_rowToFetch ic_rows ic_keysSeen ic_flags ic_enabled ta_controlBits ta_control ta_count ta_latch tb_controlBits tb_control tb_count tb_latch f_ra f_rA f_rc f_rk f_po f_co f_wc f_wo f_ky)) [0, 1, 2, 3, 4, 5, 6, 7, 8, 9, 10, 11, 12, 13] rfl
  have hDc := hD.sub (ws' := (wwX0 q_bu q_ra q_rA q_rc q_rk q_pi q_po q_co q_wc q_wo q_ic q_ky q_ta q_tb k_ra k_rA k_rc k_rk k_po k_co k_wc k_wo k_ky bu_port (p1 &&& (8191:Int32)) pi_line pi_cycle pi_control pi_compareLine pi_ground pi_border pi_base pi_flag pi_enabled pi_idle pi_bad pi_glyphLine pi_rowToFetch ic_rows ic_keysSeen ic_flags ic_enabled ta_controlBits ta_control ta_count ta_latch tb_controlBits tb_control tb_count tb_latch f_ra f_rA f_rc f_rk f_po f_co f_wc f_wo f_ky)) [0, 1, 2, 3, 4, 5, 6, 7, 8, 9, 10, 11, 12, 13] (by decide) rfl
  have hKc := hK.sub (tys' := [(k_ra, .int), (k_rA, .int), (k_rc, .int), (k_rk, .int), (k_po, .int), (k_co, .int), (k_wc, .int), (k_wo, .int), (k_ky, .int)]) [0, 1, 2, 3, 4, 5, 6, 7, 8] rfl
  have hFc := va_free (wc := (wwX0 q_bu q_ra q_rA q_rc q_rk q_pi q_po q_co q_wc q_wo q_ic q_ky q_ta q_tb k_ra k_rA k_rc k_rk k_po k_co k_wc k_wo k_ky bu_port (p1 &&& (8191:Int32)) pi_line pi_cycle pi_control pi_compareLine pi_ground pi_border pi_base pi_flag pi_enabled pi_idle pi_bad pi_glyphLine pi_rowToFetch ic_rows ic_keysSeen ic_flags ic_enabled ta_controlBits ta_control ta_count ta_latch tb_controlBits tb_control tb_count tb_latch f_ra f_rA f_rc f_rk f_po f_co f_wc f_wo f_ky)) hD hS hA [0, 1, 2, 3, 4, 5, 6, 7, 8, 9, 10, 11, 12, 13] rfl
  refine va_calli (va_runV (As := [.int (p1 &&& (8191:Int32))]) (rest := []) ⟨hx, hb, hml, hown, hts⟩ (mX0_showsRegisters l dC dI q_bu q_ra q_rA q_rc q_rk q_pi q_po q_co q_wc q_wo q_ic q_ky q_ta q_tb k_ra k_rA k_rc k_rk k_po k_co k_wc k_wo k_ky H.size bu_port (p1 &&& (8191:Int32)) pi_line pi_cycle pi_control pi_compareLine pi_ground pi_border pi_base pi_flag pi_enabled pi_idle pi_bad pi_glyphLine pi_rowToFetch ic_rows ic_keysSeen ic_flags ic_enabled ta_controlBits ta_control ta_count ta_latch tb_controlBits tb_control tb_count tb_latch f_ra f_rA f_rc f_rk f_po f_co f_wc f_wo f_ky (p1 &&& (8191:Int32))) (cwV 1 hts (ub_V kMX0_43 kYX0_showsRegisters kSX0_showsRegisters kIX0 kBX0_showsRegisters) rfl rfl rfl (by decide +kernel) ⟨Nat.le_of_ble_eq_true rfl, Nat.le_of_ble_eq_true rfl⟩) ⟨fun a U g mk q => by obtain ⟨q0, q1, qP, qK, qD⟩ := q; exact ⟨q0, q1, qP, va_K.moved (u := U) (U := U.calling g mk a) (Vm.Alike.refl U.vm) qK, qD⟩, va_recv hKc hPc (ci := 0) (q0 := 0) rfl rfl, fun U hU hW => ⟨rfl, by rw [hU], by rw [hU]; exact hPc, va_K.moved hW.alike hKc, hDc.weaken (fun _ _ _ _ => trivial)⟩⟩ rfl rfl hl.1 rfl (lv_room (Nat.le_of_ble_eq_true rfl)) dX0_read_26 ⟨(Nat.zero_le _), (Nat.zero_le _)⟩) hS (fun q _ h => hFc q h) hFc (fun r_26 u_26 t H locs ht hvm hw hB hz1 hk1 hS => ?_)
  obtain ⟨hP1, hK1, hD1⟩ := hB
  rw [ht] at hP1
  subst hw
  obtain ⟨hP, hD⟩ := vb_back (wc := (wwX0 q_bu q_ra q_rA q_rc q_rk q_pi q_po q_co q_wc q_wo q_ic q_ky q_ta q_tb k_ra k_rA k_rc k_rk k_po k_co k_wc k_wo k_ky bu_port (p1 &&& (8191:Int32)) pi_line pi_cycle pi_control pi_compareLine pi_ground pi_border pi_base pi_flag pi_enabled pi_idle pi_bad pi_glyphLine pi_rowToFetch ic_rows ic_keysSeen ic_flags ic_enabled ta_controlBits ta_control ta_count ta_latch tb_controlBits tb_control tb_count tb_latch f_ra f_rA f_rc f_rk f_po f_co f_wc f_wo f_ky)) (ws' := (wwX0 q_bu q_ra q_rA q_rc q_rk q_pi q_po q_co q_wc q_wo q_ic q_ky q_ta q_tb k_ra k_rA k_rc k_rk k_po k_co k_wc k_wo k_ky bu_port (p1 &&& (8191:Int32)) pi_line pi_cycle pi_control pi_compareLine pi_ground pi_border pi_base pi_flag pi_enabled pi_idle pi_bad pi_glyphLine pi_rowToFetch ic_rows ic_keysSeen ic_flags ic_enabled ta_controlBits ta_control ta_count ta_latch tb_controlBits tb_control tb_count tb_latch f_ra f_rA f_rc f_rk f_po f_co f_wc f_wo f_ky)) hP hD hD1 [0, 1, 2, 3, 4, 5, 6, 7, 8, 9, 10, 11, 12, 13] [] rfl rfl ae_n rfl rfl hk1 hP1
  refine lv_if_eq (tgt := 52) hx hb dX0_read_29 (by decide) (fun c_29 => ?_) (fun c_29 => ?_)
  · have hF := hF.trans (if_pos c_29)
    refine lv_iload_n hx hb dX0_read_52 rfl (lv_at hl 1 rfl) ?_
    exact W.iret (v := (fX0_peek (p1 &&& (8191:Int32)) bu_port pi_line pi_control pi_ground pi_border pi_base pi_flag pi_enabled ic_rows ic_keysSeen ic_flags ic_enabled ta_control ta_count tb_control tb_count f_ra f_rA f_rc f_rk f_co)) hx hb hr (fun t ht hW => ⟨⟨(fX0_peek (p1 &&& (8191:Int32)) bu_port pi_line pi_control pi_ground pi_border pi_base pi_flag pi_enabled ic_rows ic_keysSeen ic_flags ic_enabled ta_control ta_count tb_control tb_count f_ra f_rA f_rc f_rk f_co), ((p1 &&& (8191:Int32)), ic_flags), rfl, hF.symm, by rw [ht]; exact hP, va_K.moved hW.alike hK, hD⟩, hS.F ht⟩) hS.2.2 dX0_read_53
  · have hF := hF.trans (if_neg c_29)
    refine lv_iload hx hb dX0_read_32 (lv_at hl 0 rfl) ?_
    have hPc := hP.sub (ws' := ([] : va_W)) [] rfl
    have hDc := hD.sub (ws' := ([] : va_W)) [] (by decide) rfl
    have hKc := hK.sub (tys' := []) [] rfl
    have hFc := va_free (wc := ([] : va_W)) hD hS hA [] rfl
    refine va_calli (va_runS (As := [.int ((p1 &&& (8191:Int32)) - (6656:Int32))]) (rest := []) ⟨hx, hb, hml, hown, hts⟩ (mX0_isInterfacePlace l dC dI H.size ((p1 &&& (8191:Int32)) - (6656:Int32))) (va_cwS 1 hts (ub_S kMX0_47 kTX0_isInterfacePlace kIX0 kBX0_isInterfacePlace) rfl rfl rfl (by decide +kernel) ⟨Nat.le_of_ble_eq_true rfl, Nat.le_of_ble_eq_true rfl⟩) ⟨fun a U g mk q => by obtain ⟨q0, q1, qP, qK, qD⟩ := q; exact ⟨q0, q1, qP, va_K.moved (u := U) (U := U.calling g mk a) (Vm.Alike.refl U.vm) qK, qD⟩, fun U hU hW => ⟨rfl, by rw [hU], by rw [hU]; exact hPc, va_K.moved hW.alike hKc, hDc.weaken (fun _ _ _ _ => trivial)⟩⟩ rfl rfl hl.1 rfl (lv_room (Nat.le_of_ble_eq_true rfl)) dX0_read_34 ⟨(Nat.zero_le _), (Nat.zero_le _)⟩) hS (fun q _ h => hFc q h) hFc (fun r_34 u_34 t H locs ht hvm hw hB hz1 hk1 hS => ?_)
    obtain ⟨hP1, hK1, hD1⟩ := hB
    rw [ht] at hP1
    subst hw
    obtain ⟨hP, hD⟩ := vb_back (wc := ([] : va_W)) (ws' := (wwX0 q_bu q_ra q_rA q_rc q_rk q_pi q_po q_co q_wc q_wo q_ic q_ky q_ta q_tb k_ra k_rA k_rc k_rk k_po k_co k_wc k_wo k_ky bu_port (p1 &&& (8191:Int32)) pi_line pi_cycle pi_control pi_compareLine pi_ground pi_border pi_base pi_flag pi_enabled pi_idle pi_bad pi_glyphLine pi_rowToFetch ic_rows ic_keysSeen ic_flags ic_enabled ta_controlBits ta_control ta_count ta_latch tb_controlBits tb_control tb_count tb_latch f_ra f_rA f_rc f_rk f_po f_co f_wc f_wo f_ky)) hP hD hD1 [] [0, 1, 2, 3, 4, 5, 6, 7, 8, 9, 10, 11, 12, 13] rfl rfl (ae_c rfl (ae_c rfl (ae_c rfl (ae_c rfl (ae_c rfl (ae_c rfl (ae_c rfl (ae_c rfl (ae_c rfl (ae_c rfl (ae_c rfl (ae_c rfl (ae_c rfl (ae_c rfl ae_n)))))))))))))) rfl rfl hk1 hP1
    refine lv_if_eq (tgt := 52) hx hb dX0_read_37 (by decide) (fun c_37 => ?_) (fun c_37 => ?_)
    · have hF := hF.trans (if_pos c_37)
      refine lv_iload_n hx hb dX0_read_52 rfl (lv_at hl 1 rfl) ?_
      exact W.iret (v := (fX0_peek (p1 &&& (8191:Int32)) bu_port pi_line pi_control pi_ground pi_border pi_base pi_flag pi_enabled ic_rows ic_keysSeen ic_flags ic_enabled ta_control ta_count tb_control tb_count f_ra f_rA f_rc f_rk f_co)) hx hb hr (fun t ht hW => ⟨⟨(fX0_peek (p1 &&& (8191:Int32)) bu_port pi_line pi_control pi_ground pi_border pi_base pi_flag pi_enabled ic_rows ic_keysSeen ic_flags ic_enabled ta_control ta_count tb_control tb_count f_ra f_rA f_rc f_rk f_co), ((p1 &&& (8191:Int32)), ic_flags), rfl, hF.symm, by rw [ht]; exact hP, va_K.moved hW.alike hK, hD⟩, hS.F ht⟩) hS.2.2 dX0_read_53
    · have hF := hF.trans (if_neg c_37)
      refine lv_aload_n hx hb dX0_read_40 rfl (lv_at hl 3 rfl) ?_
      refine va_get (D := (dC, dI)) (ci := 0) (v := .ref q_ic) (C := RX0) (T := TX0) (N := 8) hx hb hts hiX0 hown hK hP 0 rfl rfl 5 (by decide) (hts _ kFX0_35) (fun _ h9 => h9) rfl dX0_read_41 ?_
      refine lv_iload hx hb dX0_read_44 (lv_at hl 0 rfl) ?_
      refine lv_bipush (v := 15) hx hb dX0_read_46 (by decide) ?_
      refine lv_iand hx hb dX0_read_48 ?_
      have hPc := hP.sub (ws' := (wwX1 q_ic q_ky q_ta q_tb k_ky ic_rows ic_keysSeen ic_flags ic_enabled ta_controlBits ta_control ta_count ta_latch tb_controlBits tb_control tb_count tb_latch f_ky)) [10, 11, 12, 13] rfl
      have hDc := hD.sub (ws' := (wwX1 q_ic q_ky q_ta q_tb k_ky ic_rows ic_keysSeen ic_flags ic_enabled ta_controlBits ta_control ta_count ta_latch tb_controlBits tb_control tb_count tb_latch f_ky)) [10, 11, 12, 13] (by decide) rfl
      have hKc := hK.sub (tys' := [(k_ky, .int)]) [8] rfl
      have hFc := va_free (wc := (wwX1 q_ic q_ky q_ta q_tb k_ky ic_rows ic_keysSeen ic_flags ic_enabled ta_controlBits ta_control ta_count ta_latch tb_controlBits tb_control tb_count tb_latch f_ky)) hD hS hA [10, 11, 12, 13] rfl
      refine va_callv (va_runV (As := [.int (((p1 &&& (8191:Int32)) - (6656:Int32)) &&& (15:Int32))]) (rest := []) ⟨hx, hb, hml, hown, hts⟩ (mX1_clearBehindRead l dC dI q_ic q_ky q_ta q_tb k_ky H.size ic_rows ic_keysSeen ic_flags ic_enabled ta_controlBits ta_control ta_count ta_latch tb_controlBits tb_control tb_count tb_latch f_ky (((p1 &&& (8191:Int32)) - (6656:Int32)) &&& (15:Int32))) (cwV 1 hts (ub_V kMX0_50 kYX1_clearBehindRead kSX1_clearBehindRead kIX1 kBX1_clearBehindRead) rfl rfl rfl (by decide +kernel) ⟨Nat.le_of_ble_eq_true rfl, Nat.le_of_ble_eq_true rfl⟩) ⟨fun a U g mk q => by obtain ⟨q0, q1, qP, qK, qD⟩ := q; exact ⟨q0, q1, qP, va_K.moved (u := U) (U := U.calling g mk a) (Vm.Alike.refl U.vm) qK, qD⟩, va_recv hKc hPc (ci := 1) (q0 := 0) rfl rfl, fun U hU hW => ⟨rfl, by rw [hU], by rw [hU]; exact hPc, va_K.moved hW.alike hKc, hDc.weaken (fun _ _ _ _ => trivial)⟩⟩ rfl rfl hl.1 rfl (lv_room (Nat.le_of_ble_eq_true rfl)) dX0_read_49 ⟨(Nat.zero_le _), (Nat.zero_le _)⟩) hS (fun q _ h => hFc q h) hFc (fun u_49 t H locs ht hvm hw hB hz1 hk1 hS => ?_)
      obtain ⟨hP1, hK1, hD1⟩ := hB
      rw [ht] at hP1
      subst hw
      obtain ⟨hP, hD⟩ := vb_back (wc := (wwX1 q_ic q_ky q_ta q_tb k_ky ic_rows ic_keysSeen ic_flags ic_enabled ta_controlBits ta_control ta_count ta_latch tb_controlBits tb_control tb_count tb_latch f_ky)) (ws' := (wwX0 q_bu q_ra q_rA q_rc q_rk q_pi q_po q_co q_wc q_wo q_ic q_ky q_ta q_tb k_ra k_rA k_rc k_rk k_po k_co k_wc k_wo k_ky bu_port (p1 &&& (8191:Int32)) pi_line pi_cycle pi_control pi_compareLine pi_ground pi_border pi_base pi_flag pi_enabled pi_idle pi_bad pi_glyphLine pi_rowToFetch ic_rows ic_keysSeen (fX1_clearBehindRead (((p1 &&& (8191:Int32)) - (6656:Int32)) &&& (15:Int32)) ic_flags) ic_enabled ta_controlBits ta_control ta_count ta_latch tb_controlBits tb_control tb_count tb_latch f_ra f_rA f_rc f_rk f_po f_co f_wc f_wo f_ky)) hP hD hD1 [10, 11, 12, 13] [0, 1, 2, 3, 4, 5, 6, 7, 8, 9] rfl rfl (ae_c rfl (ae_c rfl (ae_c rfl (ae_c rfl (ae_c rfl (ae_c rfl (ae_c rfl (ae_c rfl (ae_c rfl (ae_c rfl ae_n)))))))))) rfl rfl hk1 hP1
      refine lv_iload_n hx hb dX0_read_52 rfl (lv_at hl 1 rfl) ?_
      exact W.iret (v := (fX0_peek (p1 &&& (8191:Int32)) bu_port pi_line pi_control pi_ground pi_border pi_base pi_flag pi_enabled ic_rows ic_keysSeen ic_flags ic_enabled ta_control ta_count tb_control tb_count f_ra f_rA f_rc f_rk f_co)) hx hb hr (fun t ht hW => ⟨⟨(fX0_peek (p1 &&& (8191:Int32)) bu_port pi_line pi_control pi_ground pi_border pi_base pi_flag pi_enabled ic_rows ic_keysSeen ic_flags ic_enabled ta_control ta_count tb_control tb_count f_ra f_rA f_rc f_rk f_co), ((p1 &&& (8191:Int32)), (fX1_clearBehindRead (((p1 &&& (8191:Int32)) - (6656:Int32)) &&& (15:Int32)) ic_flags)), rfl, hF.symm, by rw [ht]; exact hP, va_K.moved hW.alike hK, hD⟩, hS.F ht⟩) hS.2.2 dX0_read_53
def fX2_writeRegister (p1 : Int32) (p2 : Int32) (pi_control : Int32) (pi_compareLine : Int32) (pi_ground : Int32) (pi_border : Int32) (pi_base : Int32) (pi_flag : Int32) (pi_enabled : Int32) : Int32 × Int32 × Int32 × Int32 × Int32 × Int32 × Int32 :=
  if p1 = (0:Int32) then
   ((p2 &&& (23:Int32)), pi_compareLine, pi_ground, pi_border, pi_base, pi_flag, pi_enabled)
  else
   if p1 = (1:Int32) then
    (pi_control, p2, pi_ground, pi_border, pi_base, pi_flag, pi_enabled)
   else
    if p1 = (2:Int32) then
     (pi_control, pi_compareLine, (p2 &&& (15:Int32)), pi_border, pi_base, pi_flag, pi_enabled)
    else
     if p1 = (3:Int32) then
      (pi_control, pi_compareLine, pi_ground, (p2 &&& (15:Int32)), pi_base, pi_flag, pi_enabled)
     else
      if p1 = (4:Int32) then
       (pi_control, pi_compareLine, pi_ground, pi_border, pi_base, (if pi_flag = (0:Int32) then (0:Int32) else (if (p2 &&& (1:Int32)) = (0:Int32) then (1:Int32) else (0:Int32))), pi_enabled)
      else
       if p1 = (5:Int32) then
        (pi_control, pi_compareLine, pi_ground, pi_border, pi_base, pi_flag, (if (p2 &&& (1:Int32)) = (0:Int32) then (0:Int32) else (1:Int32)))
       else
        if p1 = (6:Int32) then
         (pi_control, pi_compareLine, pi_ground, pi_border, (p2 &&& (15:Int32)), pi_flag, pi_enabled)
        else
         (pi_control, pi_compareLine, pi_ground, pi_border, pi_base, pi_flag, pi_enabled)
set_option maxHeartbeats 4000000 in
set_option maxRecDepth 100000 in
theorem mX2_writeRegister (l : Launch) (dC : Nat → ClassId) (dI : Nat → Nat → Nat) (q_pi q_ra q_rc q_po q_co q_wc q_wo : Nat) (k_ra k_rc k_po k_co k_wc k_wo : ClassId) (sz : Nat) (pi_line pi_cycle pi_control pi_compareLine pi_ground pi_border pi_base pi_flag pi_enabled pi_idle pi_bad pi_glyphLine pi_rowToFetch : Int32) (f_ra f_rc f_po f_co f_wc f_wo : Nat → Int32) (p1 p2 : Int32) : Met l yX2_writeRegister uX2_writeRegister ({ frames := 0, cells := 0, slots := 0, locals := 0 }) (va_Pc [.ref q_pi, .int p1, .int p2] (fun U => U.heap.size = sz ∧ va_P (dC, dI) vwCl (wwX2 q_pi q_ra q_rc q_po q_co q_wc q_wo k_ra k_rc k_po k_co k_wc k_wo pi_line pi_cycle pi_control pi_compareLine pi_ground pi_border pi_base pi_flag pi_enabled pi_idle pi_bad pi_glyphLine pi_rowToFetch f_ra f_rc f_po f_co f_wc f_wo) U.heap ∧ va_K (dC, dI) vwCl [(k_ra, .int), (k_rc, .int), (k_po, .int), (k_co, .int), (k_wc, .int), (k_wo, .int)] U ∧ va_D (fun _ => True) (wwX2 q_pi q_ra q_rc q_po q_co q_wc q_wo k_ra k_rc k_po k_co k_wc k_wo pi_line pi_cycle pi_control pi_compareLine pi_ground pi_border pi_base pi_flag pi_enabled pi_idle pi_bad pi_glyphLine pi_rowToFetch f_ra f_rc f_po f_co f_wc f_wo))) (va_Qv (fun (u : Int32 × Int32 × Int32 × Int32 × Int32 × Int32 × Int32) => u = fX2_writeRegister p1 p2 pi_control pi_compareLine pi_ground pi_border pi_base pi_flag pi_enabled) (fun (u : Int32 × Int32 × Int32 × Int32 × Int32 × Int32 × Int32) (t : State) => va_P (dC, dI) vwCl (wwX2 q_pi q_ra q_rc q_po q_co q_wc q_wo k_ra k_rc k_po k_co k_wc k_wo pi_line pi_cycle u.1 u.2.1 u.2.2.1 u.2.2.2.1 u.2.2.2.2.1 u.2.2.2.2.2.1 u.2.2.2.2.2.2 pi_idle pi_bad pi_glyphLine pi_rowToFetch f_ra f_rc f_po f_co f_wc f_wo) t.heap ∧ va_K (dC, dI) vwCl [(k_ra, .int), (k_rc, .int), (k_po, .int), (k_co, .int), (k_wc, .int), (k_wo, .int)] t ∧ va_D (va_A (wwX2 q_pi q_ra q_rc q_po q_co q_wc q_wo k_ra k_rc k_po k_co k_wc k_wo pi_line pi_cycle pi_control pi_compareLine pi_ground pi_border pi_base pi_flag pi_enabled pi_idle pi_bad pi_glyphLine pi_rowToFetch f_ra f_rc f_po f_co f_wc f_wo) sz) (wwX2 q_pi q_ra q_rc q_po q_co q_wc q_wo k_ra k_rc k_po k_co k_wc k_wo pi_line pi_cycle u.1 u.2.1 u.2.2.1 u.2.2.2.1 u.2.2.2.2.1 u.2.2.2.2.2.1 u.2.2.2.2.2.2 pi_idle pi_bad pi_glyphLine pi_rowToFetch f_ra f_rc f_po f_co f_wc f_wo)) (va_A (wwX2 q_pi q_ra q_rc q_po q_co q_wc q_wo k_ra k_rc k_po k_co k_wc k_wo pi_line pi_cycle pi_control pi_compareLine pi_ground pi_border pi_base pi_flag pi_enabled pi_idle pi_bad pi_glyphLine pi_rowToFetch f_ra f_rc f_po f_co f_wc f_wo) sz)) 0 0 (va_A (wwX2 q_pi q_ra q_rc q_po q_co q_wc q_wo k_ra k_rc k_po k_co k_wc k_wo pi_line pi_cycle pi_control pi_compareLine pi_ground pi_border pi_base pi_flag pi_enabled pi_idle pi_bad pi_glyphLine pi_rowToFetch f_ra f_rc f_po f_co f_wc f_wo) sz) := by
  refine Met.ofW (cc := cX2_writeRegister) (maxL := 3) (ret := none) (by decide) rfl ?_
  intro p e s m args below meth c s₁ B hml hv
  obtain ⟨rfl, hsz, hP, hK, hD0⟩ := hv
  have hx := B.exec
  have hb := B.bytes
  have hr := B.returns
  have hts : ∀ w ∈ ub, w.before _ s = true := fun w h => atoms_spec (ws := uX2_writeRegister) B.pre w (List.mem_cons_of_mem _ h)
  have hown : s.vm.findClass RX2 = some m.cls := findClass_of_methodNamed B.named
  have hlocks := B.notSynchronized
  subst hsz
  have hD := hD0.self (sz := s.heap.size)
  generalize hAe : va_A (wwX2 q_pi q_ra q_rc q_po q_co q_wc q_wo k_ra k_rc k_po k_co k_wc k_wo pi_line pi_cycle pi_control pi_compareLine pi_ground pi_border pi_base pi_flag pi_enabled pi_idle pi_bad pi_glyphLine pi_rowToFetch f_ra f_rc f_po f_co f_wc f_wo) s.heap.size = A at hD ⊢
  have hA : ∀ q : Nat, s.heap.size ≤ q → A q := fun q h => by rw [← hAe]; exact Or.inr h
  have hS : va_S A s.heap s.heap [] := va_S.rf
  have hl := lv_entry ([.ref q_pi, .int p1, .int p2]) (n := 3) (Nat.le_of_ble_eq_true rfl)
  rw [lg_entry_eq]
  generalize (lg_sl ([.ref q_pi, .int p1, .int p2]) ++ List.replicate (3 - (lg_sl ([.ref q_pi, .int p1, .int p2])).length) Slot.unset).toArray = ls at hl ⊢
  have hl : lv_has ls 3 [(0, .ref q_pi), (1, .int p1), (2, .int p2)] := hl
  have hF := fX2_writeRegister.eq_1 p1 p2 pi_control pi_compareLine pi_ground pi_border pi_base pi_flag pi_enabled
  refine lv_iload_n hx hb dX2_writeRegister_0 rfl (lv_at hl 1 rfl) ?_
  by_cases c_1_0 : p1 = (0:Int32)
  · have hF := hF.trans (if_pos c_1_0)
    refine lv_tableIn (off := 43) (tgt := 44) hx hb dX2_writeRegister_1 (by rw [c_1_0]; decide) (by rw [c_1_0]; decide) (by rw [c_1_0]; first | rfl | decide) (by decide) ?_
    refine lv_aload_n hx hb dX2_writeRegister_44 rfl (lv_at hl 0 rfl) ?_
    refine lv_iload_n hx hb dX2_writeRegister_45 rfl (lv_at hl 2 rfl) ?_
    refine lv_bipush (v := 23) hx hb dX2_writeRegister_46 (by decide) ?_
    refine lv_iand hx hb dX2_writeRegister_48 ?_
    refine va_put (D := (dC, dI)) (ci := 2) (v := .int (p2 &&& (23:Int32))) (ty := .int) (C := RX2) (T := TX2) (N := 19) hx hb hts hiX2 tyX2 tyX2_ok nmX2 hown hK hP hD hS 0 rfl rfl 8 (by decide) (hts _ kFX2_74) (fun _ h9 => h9) rfl (by decide +kernel) rfl rfl (Nat.le_of_ble_eq_true rfl) dX2_writeRegister_49 (fun H locs hP hD hS => ?_)
    have hP : va_P (dC, dI) vwCl (wwX2 q_pi q_ra q_rc q_po q_co q_wc q_wo k_ra k_rc k_po k_co k_wc k_wo pi_line pi_cycle (p2 &&& (23:Int32)) pi_compareLine pi_ground pi_border pi_base pi_flag pi_enabled pi_idle pi_bad pi_glyphLine pi_rowToFetch f_ra f_rc f_po f_co f_wc f_wo) H := hP
    have hD : va_D A (wwX2 q_pi q_ra q_rc q_po q_co q_wc q_wo k_ra k_rc k_po k_co k_wc k_wo pi_line pi_cycle (p2 &&& (23:Int32)) pi_compareLine pi_ground pi_border pi_base pi_flag pi_enabled pi_idle pi_bad pi_glyphLine pi_rowToFetch f_ra f_rc f_po f_co f_wc f_wo) := hD
    refine lv_goto (tgt := 139) hx hb dX2_writeRegister_52 (by decide) ?_
    exact W.vret hx hb hr (fun t ht hW => ⟨⟨((p2 &&& (23:Int32)), pi_compareLine, pi_ground, pi_border, pi_base, pi_flag, pi_enabled), rfl, hF.symm, by rw [ht]; exact hP, va_K.moved hW.alike hK, hD⟩, hS.F ht⟩) hS.2.2 dX2_writeRegister_139
  have hF := hF.trans (if_neg c_1_0)
  by_cases c_1_1 : p1 = (1:Int32)
  · have hF := hF.trans (if_pos c_1_1)
    refine lv_tableIn (off := 54) (tgt := 55) hx hb dX2_writeRegister_1 (by rw [c_1_1]; decide) (by rw [c_1_1]; decide) (by rw [c_1_1]; first | rfl | decide) (by decide) ?_
    refine lv_aload_n hx hb dX2_writeRegister_55 rfl (lv_at hl 0 rfl) ?_
    refine lv_iload_n hx hb dX2_writeRegister_56 rfl (lv_at hl 2 rfl) ?_
    refine va_put (D := (dC, dI)) (ci := 2) (v := .int p2) (ty := .int) (C := RX2) (T := TX2) (N := 19) hx hb hts hiX2 tyX2 tyX2_ok nmX2 hown hK hP hD hS 0 rfl rfl 9 (by decide) (hts _ kFX2_67) (fun _ h9 => h9) rfl (by decide +kernel) rfl rfl (Nat.le_of_ble_eq_true rfl) dX2_writeRegister_57 (fun H locs hP hD hS => ?_)
    have hP : va_P (dC, dI) vwCl (wwX2 q_pi q_ra q_rc q_po q_co q_wc q_wo k_ra k_rc k_po k_co k_wc k_wo pi_line pi_cycle pi_control p2 pi_ground pi_border pi_base pi_flag pi_enabled pi_idle pi_bad pi_glyphLine pi_rowToFetch f_ra f_rc f_po f_co f_wc f_wo) H := hP
    have hD : va_D A (wwX2 q_pi q_ra q_rc q_po q_co q_wc q_wo k_ra k_rc k_po k_co k_wc k_wo pi_line pi_cycle pi_control p2 pi_ground pi_border pi_base pi_flag pi_enabled pi_idle pi_bad pi_glyphLine pi_rowToFetch f_ra f_rc f_po f_co f_wc f_wo) := hD
    refine lv_goto (tgt := 139) hx hb dX2_writeRegister_60 (by decide) ?_
    exact W.vret hx hb hr (fun t ht hW => ⟨⟨(pi_control, p2, pi_ground, pi_border, pi_base, pi_flag, pi_enabled), rfl, hF.symm, by rw [ht]; exact hP, va_K.moved hW.alike hK, hD⟩, hS.F ht⟩) hS.2.2 dX2_writeRegister_139
  have hF := hF.trans (if_neg c_1_1)
  by_cases c_1_2 : p1 = (2:Int32)
  · have hF := hF.trans (if_pos c_1_2)
    refine lv_tableIn (off := 62) (tgt := 63) hx hb dX2_writeRegister_1 (by rw [c_1_2]; decide) (by rw [c_1_2]; decide) (by rw [c_1_2]; first | rfl | decide) (by decide) ?_
    refine lv_aload_n hx hb dX2_writeRegister_63 rfl (lv_at hl 0 rfl) ?_
    refine lv_iload_n hx hb dX2_writeRegister_64 rfl (lv_at hl 2 rfl) ?_
    refine lv_bipush (v := 15) hx hb dX2_writeRegister_65 (by decide) ?_
    refine lv_iand hx hb dX2_writeRegister_67 ?_
    refine va_put (D := (dC, dI)) (ci := 2) (v := .int (p2 &&& (15:Int32))) (ty := .int) (C := RX2) (T := TX2) (N := 19) hx hb hts hiX2 tyX2 tyX2_ok nmX2 hown hK hP hD hS 0 rfl rfl 10 (by decide) (hts _ kFX2_83) (fun _ h9 => h9) rfl (by decide +kernel) rfl rfl (Nat.le_of_ble_eq_true rfl) dX2_writeRegister_68 (fun H locs hP hD hS => ?_)
    have hP : va_P (dC, dI) vwCl (wwX2 q_pi q_ra q_rc q_po q_co q_wc q_wo k_ra k_rc k_po k_co k_wc k_wo pi_line pi_cycle pi_control pi_compareLine (p2 &&& (15:Int32)) pi_border pi_base pi_flag pi_enabled pi_idle pi_bad pi_glyphLine pi_rowToFetch f_ra f_rc f_po f_co f_wc f_wo) H := hP
    have hD : va_D A (wwX2 q_pi q_ra q_rc q_po q_co q_wc q_wo k_ra k_rc k_po k_co k_wc k_wo pi_line pi_cycle pi_control pi_compareLine (p2 &&& (15:Int32)) pi_border pi_base pi_flag pi_enabled pi_idle pi_bad pi_glyphLine pi_rowToFetch f_ra f_rc f_po f_co f_wc f_wo) := hD
    refine lv_goto (tgt := 139) hx hb dX2_writeRegister_71 (by decide) ?_
    exact W.vret hx hb hr (fun t ht hW => ⟨⟨(pi_control, pi_compareLine, (p2 &&& (15:Int32)), pi_border, pi_base, pi_flag, pi_enabled), rfl, hF.symm, by rw [ht]; exact hP, va_K.moved hW.alike hK, hD⟩, hS.F ht⟩) hS.2.2 dX2_writeRegister_139
  have hF := hF.trans (if_neg c_1_2)
  by_cases c_1_3 : p1 = (3:Int32)
  · have hF := hF.trans (if_pos c_1_3)
    refine lv_tableIn (off := 73) (tgt := 74) hx hb dX2_writeRegister_1 (by rw [c_1_3]; decide) (by rw [c_1_3]; decide) (by rw [c_1_3]; first | rfl | decide) (by decide) ?_
    refine lv_aload_n hx hb dX2_writeRegister_74 rfl (lv_at hl 0 rfl) ?_
    refine lv_iload_n hx hb dX2_writeRegister_75 rfl (lv_at hl 2 rfl) ?_
    refine lv_bipush (v := 15) hx hb dX2_writeRegister_76 (by decide) ?_
    refine lv_iand hx hb dX2_writeRegister_78 ?_
    refine va_put (D := (dC, dI)) (ci := 2) (v := .int (p2 &&& (15:Int32))) (ty := .int) (C := RX2) (T := TX2) (N := 19) hx hb hts hiX2 tyX2 tyX2_ok nmX2 hown hK hP hD hS 0 rfl rfl 11 (by decide) (hts _ kFX2_86) (fun _ h9 => h9) rfl (by decide +kernel) rfl rfl (Nat.le_of_ble_eq_true rfl) dX2_writeRegister_79 (fun H locs hP hD hS => ?_)
    have hP : va_P (dC, dI) vwCl (wwX2 q_pi q_ra q_rc q_po q_co q_wc q_wo k_ra k_rc k_po k_co k_wc k_wo pi_line pi_cycle pi_control pi_compareLine pi_ground (p2 &&& (15:Int32)) pi_base pi_flag pi_enabled pi_idle pi_bad pi_glyphLine pi_rowToFetch f_ra f_rc f_po f_co f_wc f_wo) H := hP
    have hD : va_D A (wwX2 q_pi q_ra q_rc q_po q_co q_wc q_wo k_ra k_rc k_po k_co k_wc k_wo pi_line pi_cycle pi_control pi_compareLine pi_ground (p2 &&& (15:Int32)) pi_base pi_flag pi_enabled pi_idle pi_bad pi_glyphLine pi_rowToFetch f_ra f_rc f_po f_co f_wc f_wo) := hD
    refine lv_goto (tgt := 139) hx hb dX2_writeRegister_82 (by decide) ?_
    exact W.vret hx hb hr (fun t ht hW => ⟨⟨(pi_control, pi_compareLine, pi_ground, (p2 &&& (15:Int32)), pi_base, pi_flag, pi_enabled), rfl, hF.symm, by rw [ht]; exact hP, va_K.moved hW.alike hK, hD⟩, hS.F ht⟩) hS.2.2 dX2_writeRegister_139
  have hF := hF.trans (if_neg c_1_3)
  by_cases c_1_4 : p1 = (4:Int32)
  · have hF := hF.trans (if_pos c_1_4)
    refine lv_tableIn (off := 84) (tgt := 85) hx hb dX2_writeRegister_1 (by rw [c_1_4]; decide) (by rw [c_1_4]; decide) (by rw [c_1_4]; first | rfl | decide) (by decide) ?_
    refine lv_aload_n hx hb dX2_writeRegister_85 rfl (lv_at hl 0 rfl) ?_
    refine lv_aload_n hx hb dX2_writeRegister_86 rfl (lv_at hl 0 rfl) ?_
    refine va_get (D := (dC, dI)) (ci := 2) (v := .int pi_flag) (C := RX2) (T := TX2) (N := 19) hx hb hts hiX2 hown hK hP 0 rfl rfl 13 (by decide) (hts _ kFX2_61) (fun _ h9 => h9) rfl dX2_writeRegister_87 ?_
    refine vj_join (j := 104) (rest := [.ref q_pi]) (Hyp := fun z H locs => z = (if pi_flag = (0:Int32) then (0:Int32) else (if (p2 &&& (1:Int32)) = (0:Int32) then (1:Int32) else (0:Int32))) ∧ va_P (dC, dI) vwCl (wwX2 q_pi q_ra q_rc q_po q_co q_wc q_wo k_ra k_rc k_po k_co k_wc k_wo pi_line pi_cycle pi_control pi_compareLine pi_ground pi_border pi_base pi_flag pi_enabled pi_idle pi_bad pi_glyphLine pi_rowToFetch f_ra f_rc f_po f_co f_wc f_wo) H ∧ va_S A s.heap H locs) (fun z H locs hh => ?_) (fun J104 => ?_)
    · obtain ⟨hz, hP, hS⟩ := hh
      subst hz
      refine va_put (D := (dC, dI)) (ci := 2) (v := .int (if pi_flag = (0:Int32) then (0:Int32) else (if (p2 &&& (1:Int32)) = (0:Int32) then (1:Int32) else (0:Int32)))) (ty := .boolean) (C := RX2) (T := TX2) (N := 19) hx hb hts hiX2 tyX2 tyX2_ok nmX2 hown hK hP hD hS 0 rfl rfl 13 (by decide) (hts _ kFX2_61) (fun _ h9 => h9) rfl (by decide +kernel) (nb_if rfl (nb_if rfl rfl)) (ft_if rfl (ft_if rfl rfl)) (Nat.le_of_ble_eq_true rfl) dX2_writeRegister_104 (fun H locs hP hD hS => ?_)
      have hP : va_P (dC, dI) vwCl (wwX2 q_pi q_ra q_rc q_po q_co q_wc q_wo k_ra k_rc k_po k_co k_wc k_wo pi_line pi_cycle pi_control pi_compareLine pi_ground pi_border pi_base (if pi_flag = (0:Int32) then (0:Int32) else (if (p2 &&& (1:Int32)) = (0:Int32) then (1:Int32) else (0:Int32))) pi_enabled pi_idle pi_bad pi_glyphLine pi_rowToFetch f_ra f_rc f_po f_co f_wc f_wo) H := hP
      have hD : va_D A (wwX2 q_pi q_ra q_rc q_po q_co q_wc q_wo k_ra k_rc k_po k_co k_wc k_wo pi_line pi_cycle pi_control pi_compareLine pi_ground pi_border pi_base (if pi_flag = (0:Int32) then (0:Int32) else (if (p2 &&& (1:Int32)) = (0:Int32) then (1:Int32) else (0:Int32))) pi_enabled pi_idle pi_bad pi_glyphLine pi_rowToFetch f_ra f_rc f_po f_co f_wc f_wo) := hD
      refine lv_goto (tgt := 139) hx hb dX2_writeRegister_107 (by decide) ?_
      exact W.vret hx hb hr (fun t ht hW => ⟨⟨(pi_control, pi_compareLine, pi_ground, pi_border, pi_base, (if pi_flag = (0:Int32) then (0:Int32) else (if (p2 &&& (1:Int32)) = (0:Int32) then (1:Int32) else (0:Int32))), pi_enabled), rfl, hF.symm, by rw [ht]; exact hP, va_K.moved hW.alike hK, hD⟩, hS.F ht⟩) hS.2.2 dX2_writeRegister_139
    · refine lv_if_eq (tgt := 103) hx hb dX2_writeRegister_90 (by decide) (fun c_90 => ?_) (fun c_90 => ?_)
      · refine lv_iconst (v := 0) hx hb dX2_writeRegister_103 (by decide) ?_
        exact J104 _ _ _ ⟨by rw [if_pos c_90], hP, hS⟩
      · refine lv_iload_n hx hb dX2_writeRegister_93 rfl (lv_at hl 2 rfl) ?_
        refine lv_iconst (v := 1) hx hb dX2_writeRegister_94 (by decide) ?_
        refine lv_iand hx hb dX2_writeRegister_95 ?_
        refine lv_if_ne (tgt := 103) hx hb dX2_writeRegister_96 (by decide) (fun c_96 => ?_) (fun c_96 => ?_)
        · refine lv_iconst (v := 0) hx hb dX2_writeRegister_103 (by decide) ?_
          exact J104 _ _ _ ⟨by rw [if_neg c_90, if_neg c_96], hP, hS⟩
        · refine lv_iconst (v := 1) hx hb dX2_writeRegister_99 (by decide) ?_
          refine lv_goto (tgt := 104) hx hb dX2_writeRegister_100 (by decide) ?_
          exact J104 _ _ _ ⟨by rw [if_neg c_90, if_pos c_96], hP, hS⟩
  have hF := hF.trans (if_neg c_1_4)
  by_cases c_1_5 : p1 = (5:Int32)
  · have hF := hF.trans (if_pos c_1_5)
    refine lv_tableIn (off := 109) (tgt := 110) hx hb dX2_writeRegister_1 (by rw [c_1_5]; decide) (by rw [c_1_5]; decide) (by rw [c_1_5]; first | rfl | decide) (by decide) ?_
    refine lv_aload_n hx hb dX2_writeRegister_110 rfl (lv_at hl 0 rfl) ?_
    refine lv_iload_n hx hb dX2_writeRegister_111 rfl (lv_at hl 2 rfl) ?_
    refine lv_iconst (v := 1) hx hb dX2_writeRegister_112 (by decide) ?_
    refine lv_iand hx hb dX2_writeRegister_113 ?_
    refine vj_join (j := 122) (rest := [.ref q_pi]) (Hyp := fun z H locs => z = (if (p2 &&& (1:Int32)) = (0:Int32) then (0:Int32) else (1:Int32)) ∧ va_P (dC, dI) vwCl (wwX2 q_pi q_ra q_rc q_po q_co q_wc q_wo k_ra k_rc k_po k_co k_wc k_wo pi_line pi_cycle pi_control pi_compareLine pi_ground pi_border pi_base pi_flag pi_enabled pi_idle pi_bad pi_glyphLine pi_rowToFetch f_ra f_rc f_po f_co f_wc f_wo) H ∧ va_S A s.heap H locs) (fun z H locs hh => ?_) (fun J122 => ?_)
    · obtain ⟨hz, hP, hS⟩ := hh
      subst hz
      refine va_put (D := (dC, dI)) (ci := 2) (v := .int (if (p2 &&& (1:Int32)) = (0:Int32) then (0:Int32) else (1:Int32))) (ty := .boolean) (C := RX2) (T := TX2) (N := 19) hx hb hts hiX2 tyX2 tyX2_ok nmX2 hown hK hP hD hS 0 rfl rfl 14 (by decide) (hts _ kFX2_64) (fun _ h9 => h9) rfl (by decide +kernel) (nb_if rfl rfl) (ft_if rfl rfl) (Nat.le_of_ble_eq_true rfl) dX2_writeRegister_122 (fun H locs hP hD hS => ?_)
      have hP : va_P (dC, dI) vwCl (wwX2 q_pi q_ra q_rc q_po q_co q_wc q_wo k_ra k_rc k_po k_co k_wc k_wo pi_line pi_cycle pi_control pi_compareLine pi_ground pi_border pi_base pi_flag (if (p2 &&& (1:Int32)) = (0:Int32) then (0:Int32) else (1:Int32)) pi_idle pi_bad pi_glyphLine pi_rowToFetch f_ra f_rc f_po f_co f_wc f_wo) H := hP
      have hD : va_D A (wwX2 q_pi q_ra q_rc q_po q_co q_wc q_wo k_ra k_rc k_po k_co k_wc k_wo pi_line pi_cycle pi_control pi_compareLine pi_ground pi_border pi_base pi_flag (if (p2 &&& (1:Int32)) = (0:Int32) then (0:Int32) else (1:Int32)) pi_idle pi_bad pi_glyphLine pi_rowToFetch f_ra f_rc f_po f_co f_wc f_wo) := hD
      refine lv_goto (tgt := 139) hx hb dX2_writeRegister_125 (by decide) ?_
      exact W.vret hx hb hr (fun t ht hW => ⟨⟨(pi_control, pi_compareLine, pi_ground, pi_border, pi_base, pi_flag, (if (p2 &&& (1:Int32)) = (0:Int32) then (0:Int32) else (1:Int32))), rfl, hF.symm, by rw [ht]; exact hP, va_K.moved hW.alike hK, hD⟩, hS.F ht⟩) hS.2.2 dX2_writeRegister_139
    · refine lv_if_eq (tgt := 121) hx hb dX2_writeRegister_114 (by decide) (fun c_114 => ?_) (fun c_114 => ?_)
      · refine lv_iconst (v := 0) hx hb dX2_writeRegister_121 (by decide) ?_
        exact J122 _ _ _ ⟨by rw [if_pos c_114], hP, hS⟩
      · refine lv_iconst (v := 1) hx hb dX2_writeRegister_117 (by decide) ?_
        refine lv_goto (tgt := 122) hx hb dX2_writeRegister_118 (by decide) ?_
        exact J122 _ _ _ ⟨by rw [if_neg c_114], hP, hS⟩
  have hF := hF.trans (if_neg c_1_5)
  by_cases c_1_6 : p1 = (6:Int32)
  · have hF := hF.trans (if_pos c_1_6)
    refine lv_tableIn (off := 127) (tgt := 128) hx hb dX2_writeRegister_1 (by rw [c_1_6]; decide) (by rw [c_1_6]; decide) (by rw [c_1_6]; first | rfl | decide) (by decide) ?_
    refine lv_aload_n hx hb dX2_writeRegister_128 rfl (lv_at hl 0 rfl) ?_
    refine lv_iload_n hx hb dX2_writeRegister_129 rfl (lv_at hl 2 rfl) ?_
    refine lv_bipush (v := 15) hx hb dX2_writeRegister_130 (by decide) ?_
    refine lv_iand hx hb dX2_writeRegister_132 ?_
    refine va_put (D := (dC, dI)) (ci := 2) (v := .int (p2 &&& (15:Int32))) (ty := .int) (C := RX2) (T := TX2) (N := 19) hx hb hts hiX2 tyX2 tyX2_ok nmX2 hown hK hP hD hS 0 rfl rfl 12 (by decide) (hts _ kFX2_80) (fun _ h9 => h9) rfl (by decide +kernel) rfl rfl (Nat.le_of_ble_eq_true rfl) dX2_writeRegister_133 (fun H locs hP hD hS => ?_)
    have hP : va_P (dC, dI) vwCl (wwX2 q_pi q_ra q_rc q_po q_co q_wc q_wo k_ra k_rc k_po k_co k_wc k_wo pi_line pi_cycle pi_control pi_compareLine pi_ground pi_border (p2 &&& (15:Int32)) pi_flag pi_enabled pi_idle pi_bad pi_glyphLine pi_rowToFetch f_ra f_rc f_po f_co f_wc f_wo) H := hP
    have hD : va_D A (wwX2 q_pi q_ra q_rc q_po q_co q_wc q_wo k_ra k_rc k_po k_co k_wc k_wo pi_line pi_cycle pi_control pi_compareLine pi_ground pi_border (p2 &&& (15:Int32)) pi_flag pi_enabled pi_idle pi_bad pi_glyphLine pi_rowToFetch f_ra f_rc f_po f_co f_wc f_wo) := hD
    refine lv_goto (tgt := 139) hx hb dX2_writeRegister_136 (by decide) ?_
    exact W.vret hx hb hr (fun t ht hW => ⟨⟨(pi_control, pi_compareLine, pi_ground, pi_border, (p2 &&& (15:Int32)), pi_flag, pi_enabled), rfl, hF.symm, by rw [ht]; exact hP, va_K.moved hW.alike hK, hD⟩, hS.F ht⟩) hS.2.2 dX2_writeRegister_139
  have hF := hF.trans (if_neg c_1_6)
  refine vt_dflt (tgt := 139) hx hb dX2_writeRegister_1 (fun x_ h1 h2 h3 => by have n0 := lv_neT (a := 0) c_1_0 rfl; have n1 := lv_neT (a := 1) c_1_1 rfl; have n2 := lv_neT (a := 2) c_1_2 rfl; have n3 := lv_neT (a := 3) c_1_3 rfl; have n4 := lv_neT (a := 4) c_1_4 rfl; have n5 := lv_neT (a := 5) c_1_5 rfl; have n6 := lv_neT (a := 6) c_1_6 rfl; exfalso; omega) (by decide) ?_
  exact W.vret hx hb hr (fun t ht hW => ⟨⟨(pi_control, pi_compareLine, pi_ground, pi_border, pi_base, pi_flag, pi_enabled), rfl, hF.symm, by rw [ht]; exact hP, va_K.moved hW.alike hK, hD⟩, hS.F ht⟩) hS.2.2 dX2_writeRegister_139
def fX1_scanKeys (ic_rows : Int32) (f_ky : Nat → Int32) : Int32 := kbv ic_rows f_ky 8
set_option maxHeartbeats 4000000 in
set_option maxRecDepth 100000 in
theorem mX1_scanKeys (l : Launch) (dC : Nat → ClassId) (dI : Nat → Nat → Nat) (q_ic q_ky q_ta q_tb : Nat) (k_ky : ClassId) (sz : Nat) (ic_rows ic_keysSeen ic_flags ic_enabled ta_controlBits ta_control ta_count ta_latch tb_controlBits tb_control tb_count tb_latch : Int32) (f_ky : Nat → Int32) : Met l yX1_scanKeys uX1_scanKeys ({ frames := 0, cells := 0, slots := 0, locals := 0 }) (va_Pc [.ref q_ic] (fun U => U.heap.size = sz ∧ va_P (dC, dI) vwCl (wwX1 q_ic q_ky q_ta q_tb k_ky ic_rows ic_keysSeen ic_flags ic_enabled ta_controlBits ta_control ta_count ta_latch tb_controlBits tb_control tb_count tb_latch f_ky) U.heap ∧ va_K (dC, dI) vwCl [(k_ky, .int)] U ∧ va_D (fun _ => True) (wwX1 q_ic q_ky q_ta q_tb k_ky ic_rows ic_keysSeen ic_flags ic_enabled ta_controlBits ta_control ta_count ta_latch tb_controlBits tb_control tb_count tb_latch f_ky))) (va_Qv (fun (u : Int32) => u = fX1_scanKeys ic_rows f_ky) (fun (u : Int32) (t : State) => va_P (dC, dI) vwCl (wwX1 q_ic q_ky q_ta q_tb k_ky ic_rows u ic_flags ic_enabled ta_controlBits ta_control ta_count ta_latch tb_controlBits tb_control tb_count tb_latch f_ky) t.heap ∧ va_K (dC, dI) vwCl [(k_ky, .int)] t ∧ va_D (va_A (wwX1 q_ic q_ky q_ta q_tb k_ky ic_rows ic_keysSeen ic_flags ic_enabled ta_controlBits ta_control ta_count ta_latch tb_controlBits tb_control tb_count tb_latch f_ky) sz) (wwX1 q_ic q_ky q_ta q_tb k_ky ic_rows u ic_flags ic_enabled ta_controlBits ta_control ta_count ta_latch tb_controlBits tb_control tb_count tb_latch f_ky)) (va_A (wwX1 q_ic q_ky q_ta q_tb k_ky ic_rows ic_keysSeen ic_flags ic_enabled ta_controlBits ta_control ta_count ta_latch tb_controlBits tb_control tb_count tb_latch f_ky) sz)) 0 0 (va_A (wwX1 q_ic q_ky q_ta q_tb k_ky ic_rows ic_keysSeen ic_flags ic_enabled ta_controlBits ta_control ta_count ta_latch tb_controlBits tb_control tb_count tb_latch f_ky) sz) := by
  refine Met.ofW (cc := cX1_scanKeys) (maxL := 2) (ret := none) (by decide) rfl ?_
  intro p e s m args below meth c s₁ B hml hv
  obtain ⟨rfl, hsz, hP, hK, hD0⟩ := hv
  have hx := B.exec
  have hb := B.bytes
  have hr := B.returns
  have hts : ∀ w ∈ ub, w.before _ s = true := fun w h => atoms_spec (ws := uX1_scanKeys) B.pre w (List.mem_cons_of_mem _ h)
  have hown : s.vm.findClass RX1 = some m.cls := findClass_of_methodNamed B.named
  have hlocks := B.notSynchronized
  subst hsz
  have hD := hD0.self (sz := s.heap.size)
  generalize hAe : va_A (wwX1 q_ic q_ky q_ta q_tb k_ky ic_rows ic_keysSeen ic_flags ic_enabled ta_controlBits ta_control ta_count ta_latch tb_controlBits tb_control tb_count tb_latch f_ky) s.heap.size = A at hD ⊢
  have hA : ∀ q : Nat, s.heap.size ≤ q → A q := fun q h => by rw [← hAe]; exact Or.inr h
  have hS : va_S A s.heap s.heap [] := va_S.rf
  have hl := lv_entry ([.ref q_ic]) (n := 2) (Nat.le_of_ble_eq_true rfl)
  rw [lg_entry_eq]
  generalize (lg_sl ([.ref q_ic]) ++ List.replicate (2 - (lg_sl ([.ref q_ic])).length) Slot.unset).toArray = ls at hl ⊢
  have hl : lv_has ls 2 [(0, .ref q_ic)] := hl
  refine vj_loop (j := 9) (Inv := fun i ls H locs => lv_has ls 2 [(1, .int (nI i)), (0, .ref q_ic)] ∧ va_P (dC, dI) vwCl (wwX1 q_ic q_ky q_ta q_tb k_ky ic_rows (kbv ic_rows f_ky i) ic_flags ic_enabled ta_controlBits ta_control ta_count ta_latch tb_controlBits tb_control tb_count tb_latch f_ky) H ∧ va_D A (wwX1 q_ic q_ky q_ta q_tb k_ky ic_rows (kbv ic_rows f_ky i) ic_flags ic_enabled ta_controlBits ta_control ta_count ta_latch tb_controlBits tb_control tb_count tb_latch f_ky) ∧ va_S A s.heap H locs) 8 (fun ls H locs hh => ?_) (fun i hi ih ls H locs hh => ?_) (fun L => ?_)
  · obtain ⟨hl, hP, hD, hS⟩ := hh
    refine lv_iload_n hx hb dX1_scanKeys_9 rfl (lv_at hl 0 rfl) ?_
    refine lv_bipush (v := 8) hx hb dX1_scanKeys_10 (by decide) ?_
    refine lv_icmp_ge (tgt := 49) hx hb dX1_scanKeys_12 (by decide) (fun c_12 => ?_) (fun c_12 => by exact absurd (by decide) c_12)
    exact W.vret hx hb hr (fun t ht hW => ⟨⟨(kbv ic_rows f_ky 8), rfl, rfl, by rw [ht]; exact hP, va_K.moved hW.alike hK, hD⟩, hS.F ht⟩) hS.2.2 dX1_scanKeys_49
  · obtain ⟨hl, hP, hD, hS⟩ := hh
    refine lv_iload_n hx hb dX1_scanKeys_9 rfl (lv_at hl 0 rfl) ?_
    refine lv_bipush (v := 8) hx hb dX1_scanKeys_10 (by decide) ?_
    refine lv_icmp_ge (tgt := 49) hx hb dX1_scanKeys_12 (by decide) (fun c_12 => by exact absurd c_12 (nI_ge (b := 8) (by omega) (by decide))) (fun c_12 => ?_)
    refine lv_aload_n hx hb dX1_scanKeys_15 rfl (lv_at hl 1 rfl) ?_
    refine va_get (D := (dC, dI)) (ci := 1) (v := .int ic_rows) (C := RX1) (T := TX1) (N := 7) hx hb hts hiX1 hown hK hP 0 rfl rfl 3 (by decide) (hts _ kFX1_32) (fun _ h9 => h9) rfl dX1_scanKeys_16 ?_
    refine lv_iload_n hx hb dX1_scanKeys_19 rfl (lv_at hl 0 rfl) ?_
    refine lv_ishr hx hb dX1_scanKeys_20 ?_
    refine lv_iconst (v := 1) hx hb dX1_scanKeys_21 (by decide) ?_
    refine lv_iand hx hb dX1_scanKeys_22 ?_
    refine lv_if_ne (tgt := 43) hx hb dX1_scanKeys_23 (by decide) (fun c_23 => ?_) (fun c_23 => ?_)
    · skip
      refine lv_iinc (v := ((nI i) + (1:Int32))) (lv' := [(1, .int ((nI i) + (1:Int32))), (0, .ref q_ic)]) hx hb dX1_scanKeys_43 hl (k := 0) rfl rfl (by decide) rfl (fun ls hl => ?_)
      refine lv_goto (tgt := 9) hx hb dX1_scanKeys_46 (by decide) ?_
      have e_ic_keysSeen : (kbv ic_rows f_ky (i + 1)) = (kbv ic_rows f_ky i) := by rw [kbv_s, if_neg c_23]
      rw [← e_ic_keysSeen] at hP hD
      have hl := lv_sub hl [0, 1] rfl
      have w_1 : (nI (i + 1)) = ((nI i) + (1:Int32)) := by exact nI_succ i
      rw [← w_1] at hl
      exact ih ls _ _ ⟨hl, hP, hD, hS⟩
    · skip
      refine lv_aload_n hx hb dX1_scanKeys_26 rfl (lv_at hl 1 rfl) ?_
      refine lv_dup hx hb dX1_scanKeys_27 rfl ?_
      refine va_get (D := (dC, dI)) (ci := 1) (v := .int (kbv ic_rows f_ky i)) (C := RX1) (T := TX1) (N := 7) hx hb hts hiX1 hown hK hP 0 rfl rfl 4 (by decide) (hts _ kFX1_25) (fun _ h9 => h9) rfl dX1_scanKeys_28 ?_
      refine lv_aload_n hx hb dX1_scanKeys_31 rfl (lv_at hl 1 rfl) ?_
      refine va_get (D := (dC, dI)) (ci := 1) (v := .ref q_ky) (C := RX1) (T := TX1) (N := 7) hx hb hts hiX1 hown hK hP 0 rfl rfl 0 (by decide) (hts _ kFX1_9) (fun _ h9 => h9) rfl dX1_scanKeys_32 ?_
      refine lv_iload_n hx hb dX1_scanKeys_35 rfl (lv_at hl 0 rfl) ?_
      refine va_iald hx hb hK hP 1 0 rfl rfl (vp_in_nI (by omega) (by decide)) dX1_scanKeys_36 ?_
      refine lv_iconst (v := -1) hx hb dX1_scanKeys_37 (by decide) ?_
      refine lv_ixor hx hb dX1_scanKeys_38 ?_
      refine lv_iand hx hb dX1_scanKeys_39 ?_
      refine va_put (D := (dC, dI)) (ci := 1) (v := .int ((kbv ic_rows f_ky i) &&& ((f_ky (nI i).toNatClampNeg) ^^^ (-1:Int32)))) (ty := .int) (C := RX1) (T := TX1) (N := 7) hx hb hts hiX1 tyX1 tyX1_ok nmX1 hown hK hP hD hS 0 rfl rfl 4 (by decide) (hts _ kFX1_25) (fun _ h9 => h9) rfl (by decide +kernel) rfl rfl (Nat.le_of_ble_eq_true rfl) dX1_scanKeys_40 (fun H locs hP hD hS => ?_)
      have hP : va_P (dC, dI) vwCl (wwX1 q_ic q_ky q_ta q_tb k_ky ic_rows ((kbv ic_rows f_ky i) &&& ((f_ky (nI i).toNatClampNeg) ^^^ (-1:Int32))) ic_flags ic_enabled ta_controlBits ta_control ta_count ta_latch tb_controlBits tb_control tb_count tb_latch f_ky) H := hP
      have hD : va_D A (wwX1 q_ic q_ky q_ta q_tb k_ky ic_rows ((kbv ic_rows f_ky i) &&& ((f_ky (nI i).toNatClampNeg) ^^^ (-1:Int32))) ic_flags ic_enabled ta_controlBits ta_control ta_count ta_latch tb_controlBits tb_control tb_count tb_latch f_ky) := hD
      refine lv_iinc (v := ((nI i) + (1:Int32))) (lv' := [(1, .int ((nI i) + (1:Int32))), (0, .ref q_ic)]) hx hb dX1_scanKeys_43 hl (k := 0) rfl rfl (by decide) rfl (fun ls hl => ?_)
      refine lv_goto (tgt := 9) hx hb dX1_scanKeys_46 (by decide) ?_
      have e_ic_keysSeen : (kbv ic_rows f_ky (i + 1)) = ((kbv ic_rows f_ky i) &&& ((f_ky (nI i).toNatClampNeg) ^^^ (-1:Int32))) := by rw [kbv_s, if_pos c_23]
      rw [← e_ic_keysSeen] at hP hD
      have hl := lv_sub hl [0, 1] rfl
      have w_1 : (nI (i + 1)) = ((nI i) + (1:Int32)) := by exact nI_succ i
      rw [← w_1] at hl
      exact ih ls _ _ ⟨hl, hP, hD, hS⟩
  · refine lv_aload_n hx hb dX1_scanKeys_0 rfl (lv_at hl 0 rfl) ?_
    refine lv_sipush (v := 255) hx hb dX1_scanKeys_1 (by decide) ?_
    refine va_put (D := (dC, dI)) (ci := 1) (v := .int (255:Int32)) (ty := .int) (C := RX1) (T := TX1) (N := 7) hx hb hts hiX1 tyX1 tyX1_ok nmX1 hown hK hP hD hS 0 rfl rfl 4 (by decide) (hts _ kFX1_25) (fun _ h9 => h9) rfl (by decide +kernel) rfl rfl (Nat.le_of_ble_eq_true rfl) dX1_scanKeys_4 (fun H locs hP hD hS => ?_)
    have hP : va_P (dC, dI) vwCl (wwX1 q_ic q_ky q_ta q_tb k_ky ic_rows (255:Int32) ic_flags ic_enabled ta_controlBits ta_control ta_count ta_latch tb_controlBits tb_control tb_count tb_latch f_ky) H := hP
    have hD : va_D A (wwX1 q_ic q_ky q_ta q_tb k_ky ic_rows (255:Int32) ic_flags ic_enabled ta_controlBits ta_control ta_count ta_latch tb_controlBits tb_control tb_count tb_latch f_ky) := hD
    refine lv_iconst (v := 0) hx hb dX1_scanKeys_7 (by decide) ?_
    refine lv_istore_n (lv' := [(1, .int (0:Int32)), (0, .ref q_ic)]) hx hb dX1_scanKeys_8 rfl hl (by decide) rfl (fun ls hl => ?_)
    exact L ls _ _ ⟨lv_sub hl [0, 1] rfl, hP, hD, hS⟩
def fX5_setLowLatch (p1 : Int32) (tm_latch : Int32) : Int32 :=
  ((tm_latch &&& (65280:Int32)) ||| p1)
set_option maxHeartbeats 4000000 in
set_option maxRecDepth 100000 in
theorem mX5_setLowLatch (l : Launch) (dC : Nat → ClassId) (dI : Nat → Nat → Nat) (q_tm : Nat) (sz : Nat) (tm_controlBits tm_control tm_count tm_latch : Int32) (p1 : Int32) : Met l yX5_setLowLatch uX5_setLowLatch ({ frames := 0, cells := 0, slots := 0, locals := 0 }) (va_Pc [.ref q_tm, .int p1] (fun U => U.heap.size = sz ∧ va_P (dC, dI) vwCl (wwX5 q_tm tm_controlBits tm_control tm_count tm_latch) U.heap ∧ va_K (dC, dI) vwCl [] U ∧ va_D (fun _ => True) (wwX5 q_tm tm_controlBits tm_control tm_count tm_latch))) (va_Qv (fun (u : Int32) => u = fX5_setLowLatch p1 tm_latch) (fun (u : Int32) (t : State) => va_P (dC, dI) vwCl (wwX5 q_tm tm_controlBits tm_control tm_count u) t.heap ∧ va_K (dC, dI) vwCl [] t ∧ va_D (va_A (wwX5 q_tm tm_controlBits tm_control tm_count tm_latch) sz) (wwX5 q_tm tm_controlBits tm_control tm_count u)) (va_A (wwX5 q_tm tm_controlBits tm_control tm_count tm_latch) sz)) 0 0 (va_A (wwX5 q_tm tm_controlBits tm_control tm_count tm_latch) sz) := by
  refine Met.ofW (cc := cX5_setLowLatch) (maxL := 2) (ret := none) (by decide) rfl ?_
  intro p e s m args below meth c s₁ B hml hv
  obtain ⟨rfl, hsz, hP, hK, hD0⟩ := hv
  have hx := B.exec
  have hb := B.bytes
  have hr := B.returns
  have hts : ∀ w ∈ ub, w.before _ s = true := fun w h => atoms_spec (ws := uX5_setLowLatch) B.pre w (List.mem_cons_of_mem _ h)
  have hown : s.vm.findClass RX5 = some m.cls := findClass_of_methodNamed B.named
  have hlocks := B.notSynchronized
  subst hsz
  have hD := hD0.self (sz := s.heap.size)
  generalize hAe : va_A (wwX5 q_tm tm_controlBits tm_control tm_count tm_latch) s.heap.size = A at hD ⊢
  have hA : ∀ q : Nat, s.heap.size ≤ q → A q := fun q h => by rw [← hAe]; exact Or.inr h
  have hS : va_S A s.heap s.heap [] := va_S.rf
  have hl := lv_entry ([.ref q_tm, .int p1]) (n := 2) (Nat.le_of_ble_eq_true rfl)
  rw [lg_entry_eq]
  generalize (lg_sl ([.ref q_tm, .int p1]) ++ List.replicate (2 - (lg_sl ([.ref q_tm, .int p1])).length) Slot.unset).toArray = ls at hl ⊢
  have hl : lv_has ls 2 [(0, .ref q_tm), (1, .int p1)] := hl
  have hF := fX5_setLowLatch.eq_1 p1 tm_latch
  refine lv_aload_n hx hb dX5_setLowLatch_0 rfl (lv_at hl 0 rfl) ?_
  refine lv_aload_n hx hb dX5_setLowLatch_1 rfl (lv_at hl 0 rfl) ?_
  refine va_get (D := (dC, dI)) (ci := 5) (v := .int tm_latch) (C := RX5) (T := TX5) (N := 4) hx hb hts hiX5 hown hK hP 0 rfl rfl 3 (by decide) (hts _ kFX5_14) (fun _ h9 => h9) rfl dX5_setLowLatch_2 ?_
  refine lv_ldc (v := 65280) hx hb hown (hts _ kKX5_23) dX5_setLowLatch_5 ?_
  refine lv_iand hx hb dX5_setLowLatch_7 ?_
  refine lv_iload_n hx hb dX5_setLowLatch_8 rfl (lv_at hl 1 rfl) ?_
  refine lv_ior hx hb dX5_setLowLatch_9 ?_
  refine va_put (D := (dC, dI)) (ci := 5) (v := .int ((tm_latch &&& (65280:Int32)) ||| p1)) (ty := .int) (C := RX5) (T := TX5) (N := 4) hx hb hts hiX5 tyX5 tyX5_ok nmX5 hown hK hP hD hS 0 rfl rfl 3 (by decide) (hts _ kFX5_14) (fun _ h9 => h9) rfl (by decide +kernel) rfl rfl (Nat.le_of_ble_eq_true rfl) dX5_setLowLatch_10 (fun H locs hP hD hS => ?_)
  have hP : va_P (dC, dI) vwCl (wwX5 q_tm tm_controlBits tm_control tm_count ((tm_latch &&& (65280:Int32)) ||| p1)) H := hP
  have hD : va_D A (wwX5 q_tm tm_controlBits tm_control tm_count ((tm_latch &&& (65280:Int32)) ||| p1)) := hD
  exact W.vret hx hb hr (fun t ht hW => ⟨⟨((tm_latch &&& (65280:Int32)) ||| p1), rfl, hF.symm, by rw [ht]; exact hP, va_K.moved hW.alike hK, hD⟩, hS.F ht⟩) hS.2.2 dX5_setLowLatch_13
def fX5_setHighLatch (p1 : Int32) (tm_control : Int32) (tm_count : Int32) (tm_latch : Int32) : Int32 × Int32 :=
  if (tm_control &&& (1:Int32)) = (0:Int32) then
   (((tm_latch &&& (255:Int32)) ||| (p1 <<< ((8:Int32) &&& (31:Int32)))), ((tm_latch &&& (255:Int32)) ||| (p1 <<< ((8:Int32) &&& (31:Int32)))))
  else
   (tm_count, ((tm_latch &&& (255:Int32)) ||| (p1 <<< ((8:Int32) &&& (31:Int32)))))
set_option maxHeartbeats 4000000 in
set_option maxRecDepth 100000 in
theorem mX5_setHighLatch (l : Launch) (dC : Nat → ClassId) (dI : Nat → Nat → Nat) (q_tm : Nat) (sz : Nat) (tm_controlBits tm_control tm_count tm_latch : Int32) (p1 : Int32) : Met l yX5_setHighLatch uX5_setHighLatch ({ frames := 0, cells := 0, slots := 0, locals := 0 }) (va_Pc [.ref q_tm, .int p1] (fun U => U.heap.size = sz ∧ va_P (dC, dI) vwCl (wwX5 q_tm tm_controlBits tm_control tm_count tm_latch) U.heap ∧ va_K (dC, dI) vwCl [] U ∧ va_D (fun _ => True) (wwX5 q_tm tm_controlBits tm_control tm_count tm_latch))) (va_Qv (fun (u : Int32 × Int32) => u = fX5_setHighLatch p1 tm_control tm_count tm_latch) (fun (u : Int32 × Int32) (t : State) => va_P (dC, dI) vwCl (wwX5 q_tm tm_controlBits tm_control u.1 u.2) t.heap ∧ va_K (dC, dI) vwCl [] t ∧ va_D (va_A (wwX5 q_tm tm_controlBits tm_control tm_count tm_latch) sz) (wwX5 q_tm tm_controlBits tm_control u.1 u.2)) (va_A (wwX5 q_tm tm_controlBits tm_control tm_count tm_latch) sz)) 0 0 (va_A (wwX5 q_tm tm_controlBits tm_control tm_count tm_latch) sz) := by
  refine Met.ofW (cc := cX5_setHighLatch) (maxL := 2) (ret := none) (by decide) rfl ?_
  intro p e s m args below meth c s₁ B hml hv
  obtain ⟨rfl, hsz, hP, hK, hD0⟩ := hv
  have hx := B.exec
  have hb := B.bytes
  have hr := B.returns
  have hts : ∀ w ∈ ub, w.before _ s = true := fun w h => atoms_spec (ws := uX5_setHighLatch) B.pre w (List.mem_cons_of_mem _ h)
  have hown : s.vm.findClass RX5 = some m.cls := findClass_of_methodNamed B.named
  have hlocks := B.notSynchronized
  subst hsz
  have hD := hD0.self (sz := s.heap.size)
  generalize hAe : va_A (wwX5 q_tm tm_controlBits tm_control tm_count tm_latch) s.heap.size = A at hD ⊢
  have hA : ∀ q : Nat, s.heap.size ≤ q → A q := fun q h => by rw [← hAe]; exact Or.inr h
  have hS : va_S A s.heap s.heap [] := va_S.rf
  have hl := lv_entry ([.ref q_tm, .int p1]) (n := 2) (Nat.le_of_ble_eq_true rfl)
  rw [lg_entry_eq]
  generalize (lg_sl ([.ref q_tm, .int p1]) ++ List.replicate (2 - (lg_sl ([.ref q_tm, .int p1])).length) Slot.unset).toArray = ls at hl ⊢
  have hl : lv_has ls 2 [(0, .ref q_tm), (1, .int p1)] := hl
  have hF := fX5_setHighLatch.eq_1 p1 tm_control tm_count tm_latch
  refine lv_aload_n hx hb dX5_setHighLatch_0 rfl (lv_at hl 0 rfl) ?_
  refine lv_aload_n hx hb dX5_setHighLatch_1 rfl (lv_at hl 0 rfl) ?_
  refine va_get (D := (dC, dI)) (ci := 5) (v := .int tm_latch) (C := RX5) (T := TX5) (N := 4) hx hb hts hiX5 hown hK hP 0 rfl rfl 3 (by decide) (hts _ kFX5_14) (fun _ h9 => h9) rfl dX5_setHighLatch_2 ?_
  refine lv_sipush (v := 255) hx hb dX5_setHighLatch_5 (by decide) ?_
  refine lv_iand hx hb dX5_setHighLatch_8 ?_
  refine lv_iload_n hx hb dX5_setHighLatch_9 rfl (lv_at hl 1 rfl) ?_
  refine lv_bipush (v := 8) hx hb dX5_setHighLatch_10 (by decide) ?_
  refine lv_ishl hx hb dX5_setHighLatch_12 ?_
  refine lv_ior hx hb dX5_setHighLatch_13 ?_
  refine va_put (D := (dC, dI)) (ci := 5) (v := .int ((tm_latch &&& (255:Int32)) ||| (p1 <<< ((8:Int32) &&& (31:Int32))))) (ty := .int) (C := RX5) (T := TX5) (N := 4) hx hb hts hiX5 tyX5 tyX5_ok nmX5 hown hK hP hD hS 0 rfl rfl 3 (by decide) (hts _ kFX5_14) (fun _ h9 => h9) rfl (by decide +kernel) rfl rfl (Nat.le_of_ble_eq_true rfl) dX5_setHighLatch_14 (fun H locs hP hD hS => ?_)
  have hP : va_P (dC, dI) vwCl (wwX5 q_tm tm_controlBits tm_control tm_count ((tm_latch &&& (255:Int32)) ||| (p1 <<< ((8:Int32) &&& (31:Int32))))) H := hP
  have hD : va_D A (wwX5 q_tm tm_controlBits tm_control tm_count ((tm_latch &&& (255:Int32)) ||| (p1 <<< ((8:Int32) &&& (31:Int32))))) := hD
  refine lv_aload_n hx hb dX5_setHighLatch_17 rfl (lv_at hl 0 rfl) ?_
  refine va_get (D := (dC, dI)) (ci := 5) (v := .int tm_control) (C := RX5) (T := TX5) (N := 4) hx hb hts hiX5 hown hK hP 0 rfl rfl 1 (by decide) (hts _ kFX5_20) (fun _ h9 => h9) rfl dX5_setHighLatch_18 ?_
  refine lv_iconst (v := 1) hx hb dX5_setHighLatch_21 (by decide) ?_
  refine lv_iand hx hb dX5_setHighLatch_22 ?_
  refine lv_if_ne (tgt := 34) hx hb dX5_setHighLatch_23 (by decide) (fun c_23 => ?_) (fun c_23 => ?_)
  · have hF := hF.trans (if_neg c_23)
    exact W.vret hx hb hr (fun t ht hW => ⟨⟨(tm_count, ((tm_latch &&& (255:Int32)) ||| (p1 <<< ((8:Int32) &&& (31:Int32))))), rfl, hF.symm, by rw [ht]; exact hP, va_K.moved hW.alike hK, hD⟩, hS.F ht⟩) hS.2.2 dX5_setHighLatch_34
  · have hF := hF.trans (if_pos c_23)
    refine lv_aload_n hx hb dX5_setHighLatch_26 rfl (lv_at hl 0 rfl) ?_
    refine lv_aload_n hx hb dX5_setHighLatch_27 rfl (lv_at hl 0 rfl) ?_
    refine va_get (D := (dC, dI)) (ci := 5) (v := .int ((tm_latch &&& (255:Int32)) ||| (p1 <<< ((8:Int32) &&& (31:Int32))))) (C := RX5) (T := TX5) (N := 4) hx hb hts hiX5 hown hK hP 0 rfl rfl 3 (by decide) (hts _ kFX5_14) (fun _ h9 => h9) rfl dX5_setHighLatch_28 ?_
    refine va_put (D := (dC, dI)) (ci := 5) (v := .int ((tm_latch &&& (255:Int32)) ||| (p1 <<< ((8:Int32) &&& (31:Int32))))) (ty := .int) (C := RX5) (T := TX5) (N := 4) hx hb hts hiX5 tyX5 tyX5_ok nmX5 hown hK hP hD hS 0 rfl rfl 2 (by decide) (hts _ kFX5_8) (fun _ h9 => h9) rfl (by decide +kernel) rfl rfl (Nat.le_of_ble_eq_true rfl) dX5_setHighLatch_31 (fun H locs hP hD hS => ?_)
    have hP : va_P (dC, dI) vwCl (wwX5 q_tm tm_controlBits tm_control ((tm_latch &&& (255:Int32)) ||| (p1 <<< ((8:Int32) &&& (31:Int32)))) ((tm_latch &&& (255:Int32)) ||| (p1 <<< ((8:Int32) &&& (31:Int32))))) H := hP
    have hD : va_D A (wwX5 q_tm tm_controlBits tm_control ((tm_latch &&& (255:Int32)) ||| (p1 <<< ((8:Int32) &&& (31:Int32)))) ((tm_latch &&& (255:Int32)) ||| (p1 <<< ((8:Int32) &&& (31:Int32))))) := hD
    exact W.vret hx hb hr (fun t ht hW => ⟨⟨(((tm_latch &&& (255:Int32)) ||| (p1 <<< ((8:Int32) &&& (31:Int32)))), ((tm_latch &&& (255:Int32)) ||| (p1 <<< ((8:Int32) &&& (31:Int32))))), rfl, hF.symm, by rw [ht]; exact hP, va_K.moved hW.alike hK, hD⟩, hS.F ht⟩) hS.2.2 dX5_setHighLatch_34
def fX1_setEnabled (p1 : Int32) (ic_enabled : Int32) : Int32 :=
  (if (p1 &&& (128:Int32)) = (0:Int32) then (ic_enabled &&& ((p1 &&& (3:Int32)) ^^^ (-1:Int32))) else (ic_enabled ||| (p1 &&& (3:Int32))))
set_option maxHeartbeats 4000000 in
set_option maxRecDepth 100000 in
theorem mX1_setEnabled (l : Launch) (dC : Nat → ClassId) (dI : Nat → Nat → Nat) (q_ic q_ky q_ta q_tb : Nat) (k_ky : ClassId) (sz : Nat) (ic_rows ic_keysSeen ic_flags ic_enabled ta_controlBits ta_control ta_count ta_latch tb_controlBits tb_control tb_count tb_latch : Int32) (f_ky : Nat → Int32) (p1 : Int32) : Met l yX1_setEnabled uX1_setEnabled ({ frames := 0, cells := 0, slots := 0, locals := 0 }) (va_Pc [.ref q_ic, .int p1] (fun U => U.heap.size = sz ∧ va_P (dC, dI) vwCl (wwX1 q_ic q_ky q_ta q_tb k_ky ic_rows ic_keysSeen ic_flags ic_enabled ta_controlBits ta_control ta_count ta_latch tb_controlBits tb_control tb_count tb_latch f_ky) U.heap ∧ va_K (dC, dI) vwCl [(k_ky, .int)] U ∧ va_D (fun _ => True) (wwX1 q_ic q_ky q_ta q_tb k_ky ic_rows ic_keysSeen ic_flags ic_enabled ta_controlBits ta_control ta_count ta_latch tb_controlBits tb_control tb_count tb_latch f_ky))) (va_Qv (fun (u : Int32) => u = fX1_setEnabled p1 ic_enabled) (fun (u : Int32) (t : State) => va_P (dC, dI) vwCl (wwX1 q_ic q_ky q_ta q_tb k_ky ic_rows ic_keysSeen ic_flags u ta_controlBits ta_control ta_count ta_latch tb_controlBits tb_control tb_count tb_latch f_ky) t.heap ∧ va_K (dC, dI) vwCl [(k_ky, .int)] t ∧ va_D (va_A (wwX1 q_ic q_ky q_ta q_tb k_ky ic_rows ic_keysSeen ic_flags ic_enabled ta_controlBits ta_control ta_count ta_latch tb_controlBits tb_control tb_count tb_latch f_ky) sz) (wwX1 q_ic q_ky q_ta q_tb k_ky ic_rows ic_keysSeen ic_flags u ta_controlBits ta_control ta_count ta_latch tb_controlBits tb_control tb_count tb_latch f_ky)) (va_A (wwX1 q_ic q_ky q_ta q_tb k_ky ic_rows ic_keysSeen ic_flags ic_enabled ta_controlBits ta_control ta_count ta_latch tb_controlBits tb_control tb_count tb_latch f_ky) sz)) 0 0 (va_A (wwX1 q_ic q_ky q_ta q_tb k_ky ic_rows ic_keysSeen ic_flags ic_enabled ta_controlBits ta_control ta_count ta_latch tb_controlBits tb_control tb_count tb_latch f_ky) sz) := by
  refine Met.ofW (cc := cX1_setEnabled) (maxL := 3) (ret := none) (by decide) rfl ?_
  intro p e s m args below meth c s₁ B hml hv
  obtain ⟨rfl, hsz, hP, hK, hD0⟩ := hv
  have hx := B.exec
  have hb := B.bytes
  have hr := B.returns
  have hts : ∀ w ∈ ub, w.before _ s = true := fun w h => atoms_spec (ws := uX1_setEnabled) B.pre w (List.mem_cons_of_mem _ h)
  have hown : s.vm.findClass RX1 = some m.cls := findClass_of_methodNamed B.named
  have hlocks := B.notSynchronized
  subst hsz
  have hD := hD0.self (sz := s.heap.size)
  generalize hAe : va_A (wwX1 q_ic q_ky q_ta q_tb k_ky ic_rows ic_keysSeen ic_flags ic_enabled ta_controlBits ta_control ta_count ta_latch tb_controlBits tb_control tb_count tb_latch f_ky) s.heap.size = A at hD ⊢
  have hA : ∀ q : Nat, s.heap.size ≤ q → A q := fun q h => by rw [← hAe]; exact Or.inr h
  have hS : va_S A s.heap s.heap [] := va_S.rf
  have hl := lv_entry ([.ref q_ic, .int p1]) (n := 3) (Nat.le_of_ble_eq_true rfl)
  rw [lg_entry_eq]
  generalize (lg_sl ([.ref q_ic, .int p1]) ++ List.replicate (3 - (lg_sl ([.ref q_ic, .int p1])).length) Slot.unset).toArray = ls at hl ⊢
  have hl : lv_has ls 3 [(0, .ref q_ic), (1, .int p1)] := hl
  have hF := fX1_setEnabled.eq_1 p1 ic_enabled
  refine lv_iload_n hx hb dX1_setEnabled_0 rfl (lv_at hl 1 rfl) ?_
  refine lv_iconst (v := 3) hx hb dX1_setEnabled_1 (by decide) ?_
  refine lv_iand hx hb dX1_setEnabled_2 ?_
  refine lv_istore_n (lv' := [(2, .int (p1 &&& (3:Int32))), (0, .ref q_ic), (1, .int p1)]) hx hb dX1_setEnabled_3 rfl hl (by decide) rfl (fun ls hl => ?_)
  refine lv_aload_n hx hb dX1_setEnabled_4 rfl (lv_at hl 1 rfl) ?_
  refine lv_iload_n hx hb dX1_setEnabled_5 rfl (lv_at hl 2 rfl) ?_
  refine lv_sipush (v := 128) hx hb dX1_setEnabled_6 (by decide) ?_
  refine lv_iand hx hb dX1_setEnabled_9 ?_
  refine vj_join (j := 30) (rest := [.ref q_ic]) (Hyp := fun z H locs => z = (if (p1 &&& (128:Int32)) = (0:Int32) then (ic_enabled &&& ((p1 &&& (3:Int32)) ^^^ (-1:Int32))) else (ic_enabled ||| (p1 &&& (3:Int32)))) ∧ va_P (dC, dI) vwCl (wwX1 q_ic q_ky q_ta q_tb k_ky ic_rows ic_keysSeen ic_flags ic_enabled ta_controlBits ta_control ta_count ta_latch tb_controlBits tb_control tb_count tb_latch f_ky) H ∧ va_S A s.heap H locs) (fun z H locs hh => ?_) (fun J30 => ?_)
  · obtain ⟨hz, hP, hS⟩ := hh
    subst hz
    refine va_put (D := (dC, dI)) (ci := 1) (v := .int (if (p1 &&& (128:Int32)) = (0:Int32) then (ic_enabled &&& ((p1 &&& (3:Int32)) ^^^ (-1:Int32))) else (ic_enabled ||| (p1 &&& (3:Int32))))) (ty := .int) (C := RX1) (T := TX1) (N := 7) hx hb hts hiX1 tyX1 tyX1_ok nmX1 hown hK hP hD hS 0 rfl rfl 6 (by decide) (hts _ kFX1_48) (fun _ h9 => h9) rfl (by decide +kernel) rfl rfl (Nat.le_of_ble_eq_true rfl) dX1_setEnabled_30 (fun H locs hP hD hS => ?_)
    have hP : va_P (dC, dI) vwCl (wwX1 q_ic q_ky q_ta q_tb k_ky ic_rows ic_keysSeen ic_flags (if (p1 &&& (128:Int32)) = (0:Int32) then (ic_enabled &&& ((p1 &&& (3:Int32)) ^^^ (-1:Int32))) else (ic_enabled ||| (p1 &&& (3:Int32)))) ta_controlBits ta_control ta_count ta_latch tb_controlBits tb_control tb_count tb_latch f_ky) H := hP
    have hD : va_D A (wwX1 q_ic q_ky q_ta q_tb k_ky ic_rows ic_keysSeen ic_flags (if (p1 &&& (128:Int32)) = (0:Int32) then (ic_enabled &&& ((p1 &&& (3:Int32)) ^^^ (-1:Int32))) else (ic_enabled ||| (p1 &&& (3:Int32)))) ta_controlBits ta_control ta_count ta_latch tb_controlBits tb_control tb_count tb_latch f_ky) := hD
    exact W.vret hx hb hr (fun t ht hW => ⟨⟨(if (p1 &&& (128:Int32)) = (0:Int32) then (ic_enabled &&& ((p1 &&& (3:Int32)) ^^^ (-1:Int32))) else (ic_enabled ||| (p1 &&& (3:Int32)))), rfl, hF.symm, by rw [ht]; exact hP, va_K.moved hW.alike hK, hD⟩, hS.F ht⟩) hS.2.2 dX1_setEnabled_33
  · refine lv_if_eq (tgt := 22) hx hb dX1_setEnabled_10 (by decide) (fun c_10 => ?_) (fun c_10 => ?_)
    · refine lv_aload_n hx hb dX1_setEnabled_22 rfl (lv_at hl 1 rfl) ?_
      refine va_get (D := (dC, dI)) (ci := 1) (v := .int ic_enabled) (C := RX1) (T := TX1) (N := 7) hx hb hts hiX1 hown hK hP 0 rfl rfl 6 (by decide) (hts _ kFX1_48) (fun _ h9 => h9) rfl dX1_setEnabled_23 ?_
      refine lv_iload_n hx hb dX1_setEnabled_26 rfl (lv_at hl 0 rfl) ?_
      refine lv_iconst (v := -1) hx hb dX1_setEnabled_27 (by decide) ?_
      refine lv_ixor hx hb dX1_setEnabled_28 ?_
      refine lv_iand hx hb dX1_setEnabled_29 ?_
      exact J30 _ _ _ ⟨by rw [if_pos c_10], hP, hS⟩
    · refine lv_aload_n hx hb dX1_setEnabled_13 rfl (lv_at hl 1 rfl) ?_
      refine va_get (D := (dC, dI)) (ci := 1) (v := .int ic_enabled) (C := RX1) (T := TX1) (N := 7) hx hb hts hiX1 hown hK hP 0 rfl rfl 6 (by decide) (hts _ kFX1_48) (fun _ h9 => h9) rfl dX1_setEnabled_14 ?_
      refine lv_iload_n hx hb dX1_setEnabled_17 rfl (lv_at hl 0 rfl) ?_
      refine lv_ior hx hb dX1_setEnabled_18 ?_
      refine lv_goto (tgt := 30) hx hb dX1_setEnabled_19 (by decide) ?_
      exact J30 _ _ _ ⟨by rw [if_neg c_10], hP, hS⟩
def fX5_setControl (p1 : Int32) (tm_controlBits : Int32) (tm_count : Int32) (tm_latch : Int32) : Int32 × Int32 :=
  if (p1 &&& (16:Int32)) = (0:Int32) then
   ((p1 &&& tm_controlBits), tm_count)
  else
   ((p1 &&& tm_controlBits), tm_latch)
set_option maxHeartbeats 4000000 in
set_option maxRecDepth 100000 in
theorem mX5_setControl (l : Launch) (dC : Nat → ClassId) (dI : Nat → Nat → Nat) (q_tm : Nat) (sz : Nat) (tm_controlBits tm_control tm_count tm_latch : Int32) (p1 : Int32) : Met l yX5_setControl uX5_setControl ({ frames := 0, cells := 0, slots := 0, locals := 0 }) (va_Pc [.ref q_tm, .int p1] (fun U => U.heap.size = sz ∧ va_P (dC, dI) vwCl (wwX5 q_tm tm_controlBits tm_control tm_count tm_latch) U.heap ∧ va_K (dC, dI) vwCl [] U ∧ va_D (fun _ => True) (wwX5 q_tm tm_controlBits tm_control tm_count tm_latch))) (va_Qv (fun (u : Int32 × Int32) => u = fX5_setControl p1 tm_controlBits tm_count tm_latch) (fun (u : Int32 × Int32) (t : State) => va_P (dC, dI) vwCl (wwX5 q_tm tm_controlBits u.1 u.2 tm_latch) t.heap ∧ va_K (dC, dI) vwCl [] t ∧ va_D (va_A (wwX5 q_tm tm_controlBits tm_control tm_count tm_latch) sz) (wwX5 q_tm tm_controlBits u.1 u.2 tm_latch)) (va_A (wwX5 q_tm tm_controlBits tm_control tm_count tm_latch) sz)) 0 0 (va_A (wwX5 q_tm tm_controlBits tm_control tm_count tm_latch) sz) := by
  refine Met.ofW (cc := cX5_setControl) (maxL := 2) (ret := none) (by decide) rfl ?_
  intro p e s m args below meth c s₁ B hml hv
  obtain ⟨rfl, hsz, hP, hK, hD0⟩ := hv
  have hx := B.exec
  have hb := B.bytes
  have hr := B.returns
  have hts : ∀ w ∈ ub, w.before _ s = true := fun w h => atoms_spec (ws := uX5_setControl) B.pre w (List.mem_cons_of_mem _ h)
  have hown : s.vm.findClass RX5 = some m.cls := findClass_of_methodNamed B.named
  have hlocks := B.notSynchronized
  subst hsz
  have hD := hD0.self (sz := s.heap.size)
  generalize hAe : va_A (wwX5 q_tm tm_controlBits tm_control tm_count tm_latch) s.heap.size = A at hD ⊢
  have hA : ∀ q : Nat, s.heap.size ≤ q → A q := fun q h => by rw [← hAe]; exact Or.inr h
  have hS : va_S A s.heap s.heap [] := va_S.rf
  have hl := lv_entry ([.ref q_tm, .int p1]) (n := 2) (Nat.le_of_ble_eq_true rfl)
  rw [lg_entry_eq]
  generalize (lg_sl ([.ref q_tm, .int p1]) ++ List.replicate (2 - (lg_sl ([.ref q_tm, .int p1])).length) Slot.unset).toArray = ls at hl ⊢
  have hl : lv_has ls 2 [(0, .ref q_tm), (1, .int p1)] := hl
  have hF := fX5_setControl.eq_1 p1 tm_controlBits tm_count tm_latch
  refine lv_aload_n hx hb dX5_setControl_0 rfl (lv_at hl 0 rfl) ?_
  refine lv_iload_n hx hb dX5_setControl_1 rfl (lv_at hl 1 rfl) ?_
  refine lv_aload_n hx hb dX5_setControl_2 rfl (lv_at hl 0 rfl) ?_
  refine va_get (D := (dC, dI)) (ci := 5) (v := .int tm_controlBits) (C := RX5) (T := TX5) (N := 4) hx hb hts hiX5 hown hK hP 0 rfl rfl 0 (by decide) (hts _ kFX5_17) (fun _ h9 => h9) rfl dX5_setControl_3 ?_
  refine lv_iand hx hb dX5_setControl_6 ?_
  refine va_put (D := (dC, dI)) (ci := 5) (v := .int (p1 &&& tm_controlBits)) (ty := .int) (C := RX5) (T := TX5) (N := 4) hx hb hts hiX5 tyX5 tyX5_ok nmX5 hown hK hP hD hS 0 rfl rfl 1 (by decide) (hts _ kFX5_20) (fun _ h9 => h9) rfl (by decide +kernel) rfl rfl (Nat.le_of_ble_eq_true rfl) dX5_setControl_7 (fun H locs hP hD hS => ?_)
  have hP : va_P (dC, dI) vwCl (wwX5 q_tm tm_controlBits (p1 &&& tm_controlBits) tm_count tm_latch) H := hP
  have hD : va_D A (wwX5 q_tm tm_controlBits (p1 &&& tm_controlBits) tm_count tm_latch) := hD
  refine lv_iload_n hx hb dX5_setControl_10 rfl (lv_at hl 1 rfl) ?_
  refine lv_bipush (v := 16) hx hb dX5_setControl_11 (by decide) ?_
  refine lv_iand hx hb dX5_setControl_13 ?_
  refine lv_if_eq (tgt := 25) hx hb dX5_setControl_14 (by decide) (fun c_14 => ?_) (fun c_14 => ?_)
  · have hF := hF.trans (if_pos c_14)
    exact W.vret hx hb hr (fun t ht hW => ⟨⟨((p1 &&& tm_controlBits), tm_count), rfl, hF.symm, by rw [ht]; exact hP, va_K.moved hW.alike hK, hD⟩, hS.F ht⟩) hS.2.2 dX5_setControl_25
  · have hF := hF.trans (if_neg c_14)
    refine lv_aload_n hx hb dX5_setControl_17 rfl (lv_at hl 0 rfl) ?_
    refine lv_aload_n hx hb dX5_setControl_18 rfl (lv_at hl 0 rfl) ?_
    refine va_get (D := (dC, dI)) (ci := 5) (v := .int tm_latch) (C := RX5) (T := TX5) (N := 4) hx hb hts hiX5 hown hK hP 0 rfl rfl 3 (by decide) (hts _ kFX5_14) (fun _ h9 => h9) rfl dX5_setControl_19 ?_
    refine va_put (D := (dC, dI)) (ci := 5) (v := .int tm_latch) (ty := .int) (C := RX5) (T := TX5) (N := 4) hx hb hts hiX5 tyX5 tyX5_ok nmX5 hown hK hP hD hS 0 rfl rfl 2 (by decide) (hts _ kFX5_8) (fun _ h9 => h9) rfl (by decide +kernel) rfl rfl (Nat.le_of_ble_eq_true rfl) dX5_setControl_22 (fun H locs hP hD hS => ?_)
    have hP : va_P (dC, dI) vwCl (wwX5 q_tm tm_controlBits (p1 &&& tm_controlBits) tm_latch tm_latch) H := hP
    have hD : va_D A (wwX5 q_tm tm_controlBits (p1 &&& tm_controlBits) tm_latch tm_latch) := hD
    exact W.vret hx hb hr (fun t ht hW => ⟨⟨((p1 &&& tm_controlBits), tm_latch), rfl, hF.symm, by rw [ht]; exact hP, va_K.moved hW.alike hK, hD⟩, hS.F ht⟩) hS.2.2 dX5_setControl_25
def fX1_writeRegister (p1 : Int32) (p2 : Int32) (ic_rows : Int32) (ic_keysSeen : Int32) (ic_enabled : Int32) (ta_controlBits : Int32) (ta_control : Int32) (ta_count : Int32) (ta_latch : Int32) (tb_controlBits : Int32) (tb_control : Int32) (tb_count : Int32) (tb_latch : Int32) (f_ky : Nat → Int32) : Int32 × Int32 × Int32 × Int32 × Int32 × Int32 × Int32 × Int32 × Int32 :=
  if p1 = (0:Int32) then
   (p2, (fX1_scanKeys p2 f_ky), ic_enabled, ta_control, ta_count, ta_latch, tb_control, tb_count, tb_latch)
  else
   if p1 = (4:Int32) then
    (ic_rows, ic_keysSeen, ic_enabled, ta_control, ta_count, (fX5_setLowLatch p2 ta_latch), tb_control, tb_count, tb_latch)
   else
    if p1 = (5:Int32) then
     match (fX5_setHighLatch p2 ta_control ta_count ta_latch) with
     | (ta_count_108, ta_latch_108) =>
      (ic_rows, ic_keysSeen, ic_enabled, ta_control, ta_count_108, ta_latch_108, tb_control, tb_count, tb_latch)
    else
     if p1 = (6:Int32) then
      (ic_rows, ic_keysSeen, ic_enabled, ta_control, ta_count, ta_latch, tb_control, tb_count, (fX5_setLowLatch p2 tb_latch))
     else
      if p1 = (7:Int32) then
       match (fX5_setHighLatch p2 tb_control tb_count tb_latch) with
       | (tb_count_130, tb_latch_130) =>
        (ic_rows, ic_keysSeen, ic_enabled, ta_control, ta_count, ta_latch, tb_control, tb_count_130, tb_latch_130)
      else
       if p1 = (13:Int32) then
        (ic_rows, ic_keysSeen, (fX1_setEnabled p2 ic_enabled), ta_control, ta_count, ta_latch, tb_control, tb_count, tb_latch)
       else
        if p1 = (14:Int32) then
         match (fX5_setControl p2 ta_controlBits ta_count ta_latch) with
         | (ta_control_149, ta_count_149) =>
          (ic_rows, ic_keysSeen, ic_enabled, ta_control_149, ta_count_149, ta_latch, tb_control, tb_count, tb_latch)
        else
         if p1 = (15:Int32) then
          match (fX5_setControl p2 tb_controlBits tb_count tb_latch) with
          | (tb_control_160, tb_count_160) =>
           (ic_rows, ic_keysSeen, ic_enabled, ta_control, ta_count, ta_latch, tb_control_160, tb_count_160, tb_latch)
         else
          (ic_rows, ic_keysSeen, ic_enabled, ta_control, ta_count, ta_latch, tb_control, tb_count, tb_latch)
set_option maxHeartbeats 4000000 in
set_option maxRecDepth 100000 in
theorem mX1_writeRegister (l : Launch) (dC : Nat → ClassId) (dI : Nat → Nat → Nat) (q_ic q_ky q_ta q_tb : Nat) (k_ky : ClassId) (sz : Nat) (ic_rows ic_keysSeen ic_flags ic_enabled ta_controlBits ta_control ta_count ta_latch tb_controlBits tb_control tb_count tb_latch : Int32) (f_ky : Nat → Int32) (p1 p2 : Int32) : Met l yX1_writeRegister uX1_writeRegister ({ frames := 1, cells := 0, slots := 0, locals := 22 }) (va_Pc [.ref q_ic, .int p1, .int p2] (fun U => U.heap.size = sz ∧ va_P (dC, dI) vwCl (wwX1 q_ic q_ky q_ta q_tb k_ky ic_rows ic_keysSeen ic_flags ic_enabled ta_controlBits ta_control ta_count ta_latch tb_controlBits tb_control tb_count tb_latch f_ky) U.heap ∧ va_K (dC, dI) vwCl [(k_ky, .int)] U ∧ va_D (fun _ => True) (wwX1 q_ic q_ky q_ta q_tb k_ky ic_rows ic_keysSeen ic_flags ic_enabled ta_controlBits ta_control ta_count ta_latch tb_controlBits tb_control tb_count tb_latch f_ky))) (va_Qv (fun (u : Int32 × Int32 × Int32 × Int32 × Int32 × Int32 × Int32 × Int32 × Int32) => u = fX1_writeRegister p1 p2 ic_rows ic_keysSeen ic_enabled ta_controlBits ta_control ta_count ta_latch tb_controlBits tb_control tb_count tb_latch f_ky) (fun (u : Int32 × Int32 × Int32 × Int32 × Int32 × Int32 × Int32 × Int32 × Int32) (t : State) => va_P (dC, dI) vwCl (wwX1 q_ic q_ky q_ta q_tb k_ky u.1 u.2.1 ic_flags u.2.2.1 ta_controlBits u.2.2.2.1 u.2.2.2.2.1 u.2.2.2.2.2.1 tb_controlBits u.2.2.2.2.2.2.1 u.2.2.2.2.2.2.2.1 u.2.2.2.2.2.2.2.2 f_ky) t.heap ∧ va_K (dC, dI) vwCl [(k_ky, .int)] t ∧ va_D (va_A (wwX1 q_ic q_ky q_ta q_tb k_ky ic_rows ic_keysSeen ic_flags ic_enabled ta_controlBits ta_control ta_count ta_latch tb_controlBits tb_control tb_count tb_latch f_ky) sz) (wwX1 q_ic q_ky q_ta q_tb k_ky u.1 u.2.1 ic_flags u.2.2.1 ta_controlBits u.2.2.2.1 u.2.2.2.2.1 u.2.2.2.2.2.1 tb_controlBits u.2.2.2.2.2.2.1 u.2.2.2.2.2.2.2.1 u.2.2.2.2.2.2.2.2 f_ky)) (va_A (wwX1 q_ic q_ky q_ta q_tb k_ky ic_rows ic_keysSeen ic_flags ic_enabled ta_controlBits ta_control ta_count ta_latch tb_controlBits tb_control tb_count tb_latch f_ky) sz)) 0 0 (va_A (wwX1 q_ic q_ky q_ta q_tb k_ky ic_rows ic_keysSeen ic_flags ic_enabled ta_controlBits ta_control ta_count ta_latch tb_controlBits tb_control tb_count tb_latch f_ky) sz) := by
  refine Met.ofW (cc := cX1_writeRegister) (maxL := 3) (ret := none) (by decide) rfl ?_
  intro p e s m args below meth c s₁ B hml hv
  obtain ⟨rfl, hsz, hP, hK, hD0⟩ := hv
  have hx := B.exec
  have hb := B.bytes
  have hr := B.returns
  have hts : ∀ w ∈ ub, w.before _ s = true := fun w h => atoms_spec (ws := uX1_writeRegister) B.pre w (List.mem_cons_of_mem _ h)
  have hown : s.vm.findClass RX1 = some m.cls := findClass_of_methodNamed B.named
  have hlocks := B.notSynchronized
  subst hsz
  have hD := hD0.self (sz := s.heap.size)
  generalize hAe : va_A (wwX1 q_ic q_ky q_ta q_tb k_ky ic_rows ic_keysSeen ic_flags ic_enabled ta_controlBits ta_control ta_count ta_latch tb_controlBits tb_control tb_count tb_latch f_ky) s.heap.size = A at hD ⊢
  have hA : ∀ q : Nat, s.heap.size ≤ q → A q := fun q h => by rw [← hAe]; exact Or.inr h
  have hS : va_S A s.heap s.heap [] := va_S.rf
  have hl := lv_entry ([.ref q_ic, .int p1, .int p2]) (n := 3) (Nat.le_of_ble_eq_true rfl)
  rw [lg_entry_eq]
  generalize (lg_sl ([.ref q_ic, .int p1, .int p2]) ++ List.replicate (3 - (lg_sl ([.ref q_ic, .int p1, .int p2])).length) Slot.unset).toArray = ls at hl ⊢
  have hl : lv_has ls 3 [(0, .ref q_ic), (1, .int p1), (2, .int p2)] := hl
  have hF := fX1_writeRegister.eq_1 p1 p2 ic_rows ic_keysSeen ic_enabled ta_controlBits ta_control ta_count ta_latch tb_controlBits tb_control tb_count tb_latch f_ky
  refine lv_iload_n hx hb dX1_writeRegister_0 rfl (lv_at hl 1 rfl) ?_
  by_cases c_1_0 : p1 = (0:Int32)
  · have hF := hF.trans (if_pos c_1_0)
    refine lv_tableIn (off := 79) (tgt := 80) hx hb dX1_writeRegister_1 (by rw [c_1_0]; decide) (by rw [c_1_0]; decide) (by rw [c_1_0]; first | rfl | decide) (by decide) ?_
    refine lv_aload_n hx hb dX1_writeRegister_80 rfl (lv_at hl 0 rfl) ?_
    refine lv_iload_n hx hb dX1_writeRegister_81 rfl (lv_at hl 2 rfl) ?_
    refine va_put (D := (dC, dI)) (ci := 1) (v := .int p2) (ty := .int) (C := RX1) (T := TX1) (N := 7) hx hb hts hiX1 tyX1 tyX1_ok nmX1 hown hK hP hD hS 0 rfl rfl 3 (by decide) (hts _ kFX1_32) (fun _ h9 => h9) rfl (by decide +kernel) rfl rfl (Nat.le_of_ble_eq_true rfl) dX1_writeRegister_82 (fun H locs hP hD hS => ?_)
    have hP : va_P (dC, dI) vwCl (wwX1 q_ic q_ky q_ta q_tb k_ky p2 ic_keysSeen ic_flags ic_enabled ta_controlBits ta_control ta_count ta_latch tb_controlBits tb_control tb_count tb_latch f_ky) H := hP
    have hD : va_D A (wwX1 q_ic q_ky q_ta q_tb k_ky p2 ic_keysSeen ic_flags ic_enabled ta_controlBits ta_control ta_count ta_latch tb_controlBits tb_control tb_count tb_latch f_ky) := hD
    refine lv_aload_n hx hb dX1_writeRegister_85 rfl (lv_at hl 0 rfl) ?_
    have hPc := hP.sub (ws' := (wwX1 q_ic q_ky q_ta q_tb k_ky p2 ic_keysSeen ic_flags ic_enabled ta_controlBits ta_control ta_count ta_latch tb_controlBits tb_control tb_count tb_latch f_ky)) [0, 1, 2, 3] rfl
    have hDc := hD.sub (ws' := (wwX1 q_ic q_ky q_ta q_tb k_ky p2 ic_keysSeen ic_flags ic_enabled ta_controlBits ta_control ta_count ta_latch tb_controlBits tb_control tb_count tb_latch f_ky)) [0, 1, 2, 3] (by decide) rfl
    have hKc := hK.sub (tys' := [(k_ky, .int)]) [0] rfl
    have hFc := va_free (wc := (wwX1 q_ic q_ky q_ta q_tb k_ky p2 ic_keysSeen ic_flags ic_enabled ta_controlBits ta_control ta_count ta_latch tb_controlBits tb_control tb_count tb_latch f_ky)) hD hS hA [0, 1, 2, 3] rfl
    refine va_callv (va_runV (As := []) (rest := []) ⟨hx, hb, hml, hown, hts⟩ (mX1_scanKeys l dC dI q_ic q_ky q_ta q_tb k_ky H.size p2 ic_keysSeen ic_flags ic_enabled ta_controlBits ta_control ta_count ta_latch tb_controlBits tb_control tb_count tb_latch f_ky) (cwV 0 hts (ub_V kMX1_29 kYX1_scanKeys kSX1_scanKeys kIX1 kBX1_scanKeys) rfl rfl rfl (by decide +kernel) ⟨Nat.le_of_ble_eq_true rfl, Nat.le_of_ble_eq_true rfl⟩) ⟨fun a U g mk q => by obtain ⟨q0, q1, qP, qK, qD⟩ := q; exact ⟨q0, q1, qP, va_K.moved (u := U) (U := U.calling g mk a) (Vm.Alike.refl U.vm) qK, qD⟩, va_recv hKc hPc (ci := 1) (q0 := 0) rfl rfl, fun U hU hW => ⟨rfl, by rw [hU], by rw [hU]; exact hPc, va_K.moved hW.alike hKc, hDc.weaken (fun _ _ _ _ => trivial)⟩⟩ rfl rfl hl.1 rfl (lv_room (Nat.le_of_ble_eq_true rfl)) dX1_writeRegister_86 ⟨(Nat.zero_le _), (Nat.zero_le _)⟩) hS (fun q _ h => hFc q h) hFc (fun u_86 t H locs ht hvm hw hB hz1 hk1 hS => ?_)
    obtain ⟨hP1, hK1, hD1⟩ := hB
    rw [ht] at hP1
    subst hw
    obtain ⟨hP, hD⟩ := vb_back (wc := (wwX1 q_ic q_ky q_ta q_tb k_ky p2 ic_keysSeen ic_flags ic_enabled ta_controlBits ta_control ta_count ta_latch tb_controlBits tb_control tb_count tb_latch f_ky)) (ws' := (wwX1 q_ic q_ky q_ta q_tb k_ky p2 (fX1_scanKeys p2 f_ky) ic_flags ic_enabled ta_controlBits ta_control ta_count ta_latch tb_controlBits tb_control tb_count tb_latch f_ky)) hP hD hD1 [0, 1, 2, 3] [] rfl rfl ae_n rfl rfl hk1 hP1
    refine lv_goto (tgt := 166) hx hb dX1_writeRegister_89 (by decide) ?_
    exact W.vret hx hb hr (fun t ht hW => ⟨⟨(p2, (fX1_scanKeys p2 f_ky), ic_enabled, ta_control, ta_count, ta_latch, tb_control, tb_count, tb_latch), rfl, hF.symm, by rw [ht]; exact hP, va_K.moved hW.alike hK, hD⟩, hS.F ht⟩) hS.2.2 dX1_writeRegister_166
  have hF := hF.trans (if_neg c_1_0)
  by_cases c_1_4 : p1 = (4:Int32)
  · have hF := hF.trans (if_pos c_1_4)
    refine lv_tableIn (off := 91) (tgt := 92) hx hb dX1_writeRegister_1 (by rw [c_1_4]; decide) (by rw [c_1_4]; decide) (by rw [c_1_4]; first | rfl | decide) (by decide) ?_
    refine lv_aload_n hx hb dX1_writeRegister_92 rfl (lv_at hl 0 rfl) ?_
    refine va_get (D := (dC, dI)) (ci := 1) (v := .ref q_ta) (C := RX1) (T := TX1) (N := 7) hx hb hts hiX1 hown hK hP 0 rfl rfl 1 (by decide) (hts _ kFX1_18) (fun _ h9 => h9) rfl dX1_writeRegister_93 ?_
    refine lv_iload_n hx hb dX1_writeRegister_96 rfl (lv_at hl 2 rfl) ?_
    have hPc := hP.sub (ws' := (wwX5 q_ta ta_controlBits ta_control ta_count ta_latch)) [2] rfl
    have hDc := hD.sub (ws' := (wwX5 q_ta ta_controlBits ta_control ta_count ta_latch)) [2] (by decide) rfl
    have hKc := hK.sub (tys' := []) [] rfl
    have hFc := va_free (wc := (wwX5 q_ta ta_controlBits ta_control ta_count ta_latch)) hD hS hA [2] rfl
    refine va_callv (va_runV (As := [.int p2]) (rest := []) ⟨hx, hb, hml, hown, hts⟩ (mX5_setLowLatch l dC dI q_ta s.heap.size ta_controlBits ta_control ta_count ta_latch p2) (cwV 1 hts (ub_V kMX1_57 kYX5_setLowLatch kSX5_setLowLatch kIX5 kBX5_setLowLatch) rfl rfl rfl (by decide +kernel) ⟨Nat.le_of_ble_eq_true rfl, Nat.le_of_ble_eq_true rfl⟩) ⟨fun a U g mk q => by obtain ⟨q0, q1, qP, qK, qD⟩ := q; exact ⟨q0, q1, qP, va_K.moved (u := U) (U := U.calling g mk a) (Vm.Alike.refl U.vm) qK, qD⟩, va_recv hKc hPc (ci := 5) (q0 := 0) rfl rfl, fun U hU hW => ⟨rfl, by rw [hU], by rw [hU]; exact hPc, va_K.moved hW.alike hKc, hDc.weaken (fun _ _ _ _ => trivial)⟩⟩ rfl rfl hl.1 rfl (lv_room (Nat.le_of_ble_eq_true rfl)) dX1_writeRegister_97 ⟨(Nat.zero_le _), (Nat.zero_le _)⟩) hS (fun q _ h => hFc q h) hFc (fun u_97 t H locs ht hvm hw hB hz1 hk1 hS => ?_)
    obtain ⟨hP1, hK1, hD1⟩ := hB
    rw [ht] at hP1
    subst hw
    obtain ⟨hP, hD⟩ := vb_back (wc := (wwX5 q_ta ta_controlBits ta_control ta_count ta_latch)) (ws' := (wwX1 q_ic q_ky q_ta q_tb k_ky ic_rows ic_keysSeen ic_flags ic_enabled ta_controlBits ta_control ta_count (fX5_setLowLatch p2 ta_latch) tb_controlBits tb_control tb_count tb_latch f_ky)) hP hD hD1 [2] [0, 1, 3] rfl rfl (ae_c rfl (ae_c rfl (ae_c rfl ae_n))) rfl rfl hk1 hP1
    refine lv_goto (tgt := 166) hx hb dX1_writeRegister_100 (by decide) ?_
    exact W.vret hx hb hr (fun t ht hW => ⟨⟨(ic_rows, ic_keysSeen, ic_enabled, ta_control, ta_count, (fX5_setLowLatch p2 ta_latch), tb_control, tb_count, tb_latch), rfl, hF.symm, by rw [ht]; exact hP, va_K.moved hW.alike hK, hD⟩, hS.F ht⟩) hS.2.2 dX1_writeRegister_166
  have hF := hF.trans (if_neg c_1_4)
  by_cases c_1_5 : p1 = (5:Int32)
  · have hF := hF.trans (if_pos c_1_5)
    refine lv_tableIn (off := 102) (tgt := 103) hx hb dX1_writeRegister_1 (by rw [c_1_5]; decide) (by rw [c_1_5]; decide) (by rw [c_1_5]; first | rfl | decide) (by decide) ?_
    refine lv_aload_n hx hb dX1_writeRegister_103 rfl (lv_at hl 0 rfl) ?_
    refine va_get (D := (dC, dI)) (ci := 1) (v := .ref q_ta) (C := RX1) (T := TX1) (N := 7) hx hb hts hiX1 hown hK hP 0 rfl rfl 1 (by decide) (hts _ kFX1_18) (fun _ h9 => h9) rfl dX1_writeRegister_104 ?_
    refine lv_iload_n hx hb dX1_writeRegister_107 rfl (lv_at hl 2 rfl) ?_
    have hPc := hP.sub (ws' := (wwX5 q_ta ta_controlBits ta_control ta_count ta_latch)) [2] rfl
    have hDc := hD.sub (ws' := (wwX5 q_ta ta_controlBits ta_control ta_count ta_latch)) [2] (by decide) rfl
    have hKc := hK.sub (tys' := []) [] rfl
    have hFc := va_free (wc := (wwX5 q_ta ta_controlBits ta_control ta_count ta_latch)) hD hS hA [2] rfl
    refine va_callv (va_runV (As := [.int p2]) (rest := []) ⟨hx, hb, hml, hown, hts⟩ (mX5_setHighLatch l dC dI q_ta s.heap.size ta_controlBits ta_control ta_count ta_latch p2) (cwV 1 hts (ub_V kMX1_60 kYX5_setHighLatch kSX5_setHighLatch kIX5 kBX5_setHighLatch) rfl rfl rfl (by decide +kernel) ⟨Nat.le_of_ble_eq_true rfl, Nat.le_of_ble_eq_true rfl⟩) ⟨fun a U g mk q => by obtain ⟨q0, q1, qP, qK, qD⟩ := q; exact ⟨q0, q1, qP, va_K.moved (u := U) (U := U.calling g mk a) (Vm.Alike.refl U.vm) qK, qD⟩, va_recv hKc hPc (ci := 5) (q0 := 0) rfl rfl, fun U hU hW => ⟨rfl, by rw [hU], by rw [hU]; exact hPc, va_K.moved hW.alike hKc, hDc.weaken (fun _ _ _ _ => trivial)⟩⟩ rfl rfl hl.1 rfl (lv_room (Nat.le_of_ble_eq_true rfl)) dX1_writeRegister_108 ⟨(Nat.zero_le _), (Nat.zero_le _)⟩) hS (fun q _ h => hFc q h) hFc (fun u_108 t H locs ht hvm hw hB hz1 hk1 hS => ?_)
    obtain ⟨ta_count_108, ta_latch_108⟩ := u_108
    obtain ⟨hP1, hK1, hD1⟩ := hB
    rw [ht] at hP1
    obtain ⟨hP, hD⟩ := vb_back (wc := (wwX5 q_ta ta_controlBits ta_control ta_count ta_latch)) (ws' := (wwX1 q_ic q_ky q_ta q_tb k_ky ic_rows ic_keysSeen ic_flags ic_enabled ta_controlBits ta_control ta_count_108 ta_latch_108 tb_controlBits tb_control tb_count tb_latch f_ky)) hP hD hD1 [2] [0, 1, 3] rfl rfl (ae_c rfl (ae_c rfl (ae_c rfl ae_n))) rfl rfl hk1 hP1
    rw [← hw] at hF
    dsimp only at hF
    refine lv_goto (tgt := 166) hx hb dX1_writeRegister_111 (by decide) ?_
    exact W.vret hx hb hr (fun t ht hW => ⟨⟨(ic_rows, ic_keysSeen, ic_enabled, ta_control, ta_count_108, ta_latch_108, tb_control, tb_count, tb_latch), rfl, hF.symm, by rw [ht]; exact hP, va_K.moved hW.alike hK, hD⟩, hS.F ht⟩) hS.2.2 dX1_writeRegister_166
  have hF := hF.trans (if_neg c_1_5)
  by_cases c_1_6 : p1 = (6:Int32)
  · have hF := hF.trans (if_pos c_1_6)
    refine lv_tableIn (off := 113) (tgt := 114) hx hb dX1_writeRegister_1 (by rw [c_1_6]; decide) (by rw [c_1_6]; decide) (by rw [c_1_6]; first | rfl | decide) (by decide) ?_
    refine lv_aload_n hx hb dX1_writeRegister_114 rfl (lv_at hl 0 rfl) ?_
    refine va_get (D := (dC, dI)) (ci := 1) (v := .ref q_tb) (C := RX1) (T := TX1) (N := 7) hx hb hts hiX1 hown hK hP 0 rfl rfl 2 (by decide) (hts _ kFX1_22) (fun _ h9 => h9) rfl dX1_writeRegister_115 ?_
    refine lv_iload_n hx hb dX1_writeRegister_118 rfl (lv_at hl 2 rfl) ?_
    have hPc := hP.sub (ws' := (wwX5 q_tb tb_controlBits tb_control tb_count tb_latch)) [3] rfl
    have hDc := hD.sub (ws' := (wwX5 q_tb tb_controlBits tb_control tb_count tb_latch)) [3] (by decide) rfl
    have hKc := hK.sub (tys' := []) [] rfl
    have hFc := va_free (wc := (wwX5 q_tb tb_controlBits tb_control tb_count tb_latch)) hD hS hA [3] rfl
    refine va_callv (va_runV (As := [.int p2]) (rest := []) ⟨hx, hb, hml, hown, hts⟩ (mX5_setLowLatch l dC dI q_tb s.heap.size tb_controlBits tb_control tb_count tb_latch p2) (cwV 1 hts (ub_V kMX1_57 kYX5_setLowLatch kSX5_setLowLatch kIX5 kBX5_setLowLatch) rfl rfl rfl (by decide +kernel) ⟨Nat.le_of_ble_eq_true rfl, Nat.le_of_ble_eq_true rfl⟩) ⟨fun a U g mk q => by obtain ⟨q0, q1, qP, qK, qD⟩ := q; exact ⟨q0, q1, qP, va_K.moved (u := U) (U := U.calling g mk a) (Vm.Alike.refl U.vm) qK, qD⟩, va_recv hKc hPc (ci := 5) (q0 := 0) rfl rfl, fun U hU hW => ⟨rfl, by rw [hU], by rw [hU]; exact hPc, va_K.moved hW.alike hKc, hDc.weaken (fun _ _ _ _ => trivial)⟩⟩ rfl rfl hl.1 rfl (lv_room (Nat.le_of_ble_eq_true rfl)) dX1_writeRegister_119 ⟨(Nat.zero_le _), (Nat.zero_le _)⟩) hS (fun q _ h => hFc q h) hFc (fun u_119 t H locs ht hvm hw hB hz1 hk1 hS => ?_)
    obtain ⟨hP1, hK1, hD1⟩ := hB
    rw [ht] at hP1
    subst hw
    obtain ⟨hP, hD⟩ := vb_back (wc := (wwX5 q_tb tb_controlBits tb_control tb_count tb_latch)) (ws' := (wwX1 q_ic q_ky q_ta q_tb k_ky ic_rows ic_keysSeen ic_flags ic_enabled ta_controlBits ta_control ta_count ta_latch tb_controlBits tb_control tb_count (fX5_setLowLatch p2 tb_latch) f_ky)) hP hD hD1 [3] [0, 1, 2] rfl rfl (ae_c rfl (ae_c rfl (ae_c rfl ae_n))) rfl rfl hk1 hP1
    refine lv_goto (tgt := 166) hx hb dX1_writeRegister_122 (by decide) ?_
    exact W.vret hx hb hr (fun t ht hW => ⟨⟨(ic_rows, ic_keysSeen, ic_enabled, ta_control, ta_count, ta_latch, tb_control, tb_count, (fX5_setLowLatch p2 tb_latch)), rfl, hF.symm, by rw [ht]; exact hP, va_K.moved hW.alike hK, hD⟩, hS.F ht⟩) hS.2.2 dX1_writeRegister_166
  have hF := hF.trans (if_neg c_1_6)
  by_cases c_1_7 : p1 = (7:Int32)
  · have hF := hF.trans (if_pos c_1_7)
    refine lv_tableIn (off := 124) (tgt := 125) hx hb dX1_writeRegister_1 (by rw [c_1_7]; decide) (by rw [c_1_7]; decide) (by rw [c_1_7]; first | rfl | decide) (by decide) ?_
    refine lv_aload_n hx hb dX1_writeRegister_125 rfl (lv_at hl 0 rfl) ?_
    refine va_get (D := (dC, dI)) (ci := 1) (v := .ref q_tb) (C := RX1) (T := TX1) (N := 7) hx hb hts hiX1 hown hK hP 0 rfl rfl 2 (by decide) (hts _ kFX1_22) (fun _ h9 => h9) rfl dX1_writeRegister_126 ?_
    refine lv_iload_n hx hb dX1_writeRegister_129 rfl (lv_at hl 2 rfl) ?_
    have hPc := hP.sub (ws' := (wwX5 q_tb tb_controlBits tb_control tb_count tb_latch)) [3] rfl
    have hDc := hD.sub (ws' := (wwX5 q_tb tb_controlBits tb_control tb_count tb_latch)) [3] (by decide) rfl
    have hKc := hK.sub (tys' := []) [] rfl
    have hFc := va_free (wc := (wwX5 q_tb tb_controlBits tb_control tb_count tb_latch)) hD hS hA [3] rfl
    refine va_callv (va_runV (As := [.int p2]) (rest := []) ⟨hx, hb, hml, hown, hts⟩ (mX5_setHighLatch l dC dI q_tb s.heap.size tb_controlBits tb_control tb_count tb_latch p2) (cwV 1 hts (ub_V kMX1_60 kYX5_setHighLatch kSX5_setHighLatch kIX5 kBX5_setHighLatch) rfl rfl rfl (by decide +kernel) ⟨Nat.le_of_ble_eq_true rfl, Nat.le_of_ble_eq_true rfl⟩) ⟨fun a U g mk q => by obtain ⟨q0, q1, qP, qK, qD⟩ := q; exact ⟨q0, q1, qP, va_K.moved (u := U) (U := U.calling g mk a) (Vm.Alike.refl U.vm) qK, qD⟩, va_recv hKc hPc (ci := 5) (q0 := 0) rfl rfl, fun U hU hW => ⟨rfl, by rw [hU], by rw [hU]; exact hPc, va_K.moved hW.alike hKc, hDc.weaken (fun _ _ _ _ => trivial)⟩⟩ rfl rfl hl.1 rfl (lv_room (Nat.le_of_ble_eq_true rfl)) dX1_writeRegister_130 ⟨(Nat.zero_le _), (Nat.zero_le _)⟩) hS (fun q _ h => hFc q h) hFc (fun u_130 t H locs ht hvm hw hB hz1 hk1 hS => ?_)
    obtain ⟨tb_count_130, tb_latch_130⟩ := u_130
    obtain ⟨hP1, hK1, hD1⟩ := hB
    rw [ht] at hP1
    obtain ⟨hP, hD⟩ := vb_back (wc := (wwX5 q_tb tb_controlBits tb_control tb_count tb_latch)) (ws' := (wwX1 q_ic q_ky q_ta q_tb k_ky ic_rows ic_keysSeen ic_flags ic_enabled ta_controlBits ta_control ta_count ta_latch tb_controlBits tb_control tb_count_130 tb_latch_130 f_ky)) hP hD hD1 [3] [0, 1, 2] rfl rfl (ae_c rfl (ae_c rfl (ae_c rfl ae_n))) rfl rfl hk1 hP1
    rw [← hw] at hF
    dsimp only at hF
    refine lv_goto (tgt := 166) hx hb dX1_writeRegister_133 (by decide) ?_
    exact W.vret hx hb hr (fun t ht hW => ⟨⟨(ic_rows, ic_keysSeen, ic_enabled, ta_control, ta_count, ta_latch, tb_control, tb_count_130, tb_latch_130), rfl, hF.symm, by rw [ht]; exact hP, va_K.moved hW.alike hK, hD⟩, hS.F ht⟩) hS.2.2 dX1_writeRegister_166
  have hF := hF.trans (if_neg c_1_7)
  by_cases c_1_13 : p1 = (13:Int32)
  · have hF := hF.trans (if_pos c_1_13)
    refine lv_tableIn (off := 135) (tgt := 136) hx hb dX1_writeRegister_1 (by rw [c_1_13]; decide) (by rw [c_1_13]; decide) (by rw [c_1_13]; first | rfl | decide) (by decide) ?_
    refine lv_aload_n hx hb dX1_writeRegister_136 rfl (lv_at hl 0 rfl) ?_
    refine lv_iload_n hx hb dX1_writeRegister_137 rfl (lv_at hl 2 rfl) ?_
    have hPc := hP.sub (ws' := (wwX1 q_ic q_ky q_ta q_tb k_ky ic_rows ic_keysSeen ic_flags ic_enabled ta_controlBits ta_control ta_count ta_latch tb_controlBits tb_control tb_count tb_latch f_ky)) [0, 1, 2, 3] rfl
    have hDc := hD.sub (ws' := (wwX1 q_ic q_ky q_ta q_tb k_ky ic_rows ic_keysSeen ic_flags ic_enabled ta_controlBits ta_control ta_count ta_latch tb_controlBits tb_control tb_count tb_latch f_ky)) [0, 1, 2, 3] (by decide) rfl
    have hKc := hK.sub (tys' := [(k_ky, .int)]) [0] rfl
    have hFc := va_free (wc := (wwX1 q_ic q_ky q_ta q_tb k_ky ic_rows ic_keysSeen ic_flags ic_enabled ta_controlBits ta_control ta_count ta_latch tb_controlBits tb_control tb_count tb_latch f_ky)) hD hS hA [0, 1, 2, 3] rfl
    refine va_callv (va_runV (As := [.int p2]) (rest := []) ⟨hx, hb, hml, hown, hts⟩ (mX1_setEnabled l dC dI q_ic q_ky q_ta q_tb k_ky s.heap.size ic_rows ic_keysSeen ic_flags ic_enabled ta_controlBits ta_control ta_count ta_latch tb_controlBits tb_control tb_count tb_latch f_ky p2) (cwV 1 hts (ub_V kMX1_63 kYX1_setEnabled kSX1_setEnabled kIX1 kBX1_setEnabled) rfl rfl rfl (by decide +kernel) ⟨Nat.le_of_ble_eq_true rfl, Nat.le_of_ble_eq_true rfl⟩) ⟨fun a U g mk q => by obtain ⟨q0, q1, qP, qK, qD⟩ := q; exact ⟨q0, q1, qP, va_K.moved (u := U) (U := U.calling g mk a) (Vm.Alike.refl U.vm) qK, qD⟩, va_recv hKc hPc (ci := 1) (q0 := 0) rfl rfl, fun U hU hW => ⟨rfl, by rw [hU], by rw [hU]; exact hPc, va_K.moved hW.alike hKc, hDc.weaken (fun _ _ _ _ => trivial)⟩⟩ rfl rfl hl.1 rfl (lv_room (Nat.le_of_ble_eq_true rfl)) dX1_writeRegister_138 ⟨(Nat.zero_le _), (Nat.zero_le _)⟩) hS (fun q _ h => hFc q h) hFc (fun u_138 t H locs ht hvm hw hB hz1 hk1 hS => ?_)
    obtain ⟨hP1, hK1, hD1⟩ := hB
    rw [ht] at hP1
    subst hw
    obtain ⟨hP, hD⟩ := vb_back (wc := (wwX1 q_ic q_ky q_ta q_tb k_ky ic_rows ic_keysSeen ic_flags ic_enabled ta_controlBits ta_control ta_count ta_latch tb_controlBits tb_control tb_count tb_latch f_ky)) (ws' := (wwX1 q_ic q_ky q_ta q_tb k_ky ic_rows ic_keysSeen ic_flags (fX1_setEnabled p2 ic_enabled) ta_controlBits ta_control ta_count ta_latch tb_controlBits tb_control tb_count tb_latch f_ky)) hP hD hD1 [0, 1, 2, 3] [] rfl rfl ae_n rfl rfl hk1 hP1
    refine lv_goto (tgt := 166) hx hb dX1_writeRegister_141 (by decide) ?_
    exact W.vret hx hb hr (fun t ht hW => ⟨⟨(ic_rows, ic_keysSeen, (fX1_setEnabled p2 ic_enabled), ta_control, ta_count, ta_latch, tb_control, tb_count, tb_latch), rfl, hF.symm, by rw [ht]; exact hP, va_K.moved hW.alike hK, hD⟩, hS.F ht⟩) hS.2.2 dX1_writeRegister_166
  have hF := hF.trans (if_neg c_1_13)
  by_cases c_1_14 : p1 = (14:Int32)
  · have hF := hF.trans (if_pos c_1_14)
    refine lv_tableIn (off := 143) (tgt := 144) hx hb dX1_writeRegister_1 (by rw [c_1_14]; decide) (by rw [c_1_14]; decide) (by rw [c_1_14]; first | rfl | decide) (by decide) ?_
    refine lv_aload_n hx hb dX1_writeRegister_144 rfl (lv_at hl 0 rfl) ?_
    refine va_get (D := (dC, dI)) (ci := 1) (v := .ref q_ta) (C := RX1) (T := TX1) (N := 7) hx hb hts hiX1 hown hK hP 0 rfl rfl 1 (by decide) (hts _ kFX1_18) (fun _ h9 => h9) rfl dX1_writeRegister_145 ?_
    refine lv_iload_n hx hb dX1_writeRegister_148 rfl (lv_at hl 2 rfl) ?_
    have hPc := hP.sub (ws' := (wwX5 q_ta ta_controlBits ta_control ta_count ta_latch)) [2] rfl
    have hDc := hD.sub (ws' := (wwX5 q_ta ta_controlBits ta_control ta_count ta_latch)) [2] (by decide) rfl
    have hKc := hK.sub (tys' := []) [] rfl
    have hFc := va_free (wc := (wwX5 q_ta ta_controlBits ta_control ta_count ta_latch)) hD hS hA [2] rfl
    refine va_callv (va_runV (As := [.int p2]) (rest := []) ⟨hx, hb, hml, hown, hts⟩ (mX5_setControl l dC dI q_ta s.heap.size ta_controlBits ta_control ta_count ta_latch p2) (cwV 1 hts (ub_V kMX1_66 kYX5_setControl kSX5_setControl kIX5 kBX5_setControl) rfl rfl rfl (by decide +kernel) ⟨Nat.le_of_ble_eq_true rfl, Nat.le_of_ble_eq_true rfl⟩) ⟨fun a U g mk q => by obtain ⟨q0, q1, qP, qK, qD⟩ := q; exact ⟨q0, q1, qP, va_K.moved (u := U) (U := U.calling g mk a) (Vm.Alike.refl U.vm) qK, qD⟩, va_recv hKc hPc (ci := 5) (q0 := 0) rfl rfl, fun U hU hW => ⟨rfl, by rw [hU], by rw [hU]; exact hPc, va_K.moved hW.alike hKc, hDc.weaken (fun _ _ _ _ => trivial)⟩⟩ rfl rfl hl.1 rfl (lv_room (Nat.le_of_ble_eq_true rfl)) dX1_writeRegister_149 ⟨(Nat.zero_le _), (Nat.zero_le _)⟩) hS (fun q _ h => hFc q h) hFc (fun u_149 t H locs ht hvm hw hB hz1 hk1 hS => ?_)
    obtain ⟨ta_control_149, ta_count_149⟩ := u_149
    obtain ⟨hP1, hK1, hD1⟩ := hB
    rw [ht] at hP1
    obtain ⟨hP, hD⟩ := vb_back (wc := (wwX5 q_ta ta_controlBits ta_control ta_count ta_latch)) (ws' := (wwX1 q_ic q_ky q_ta q_tb k_ky ic_rows ic_keysSeen ic_flags ic_enabled ta_controlBits ta_control_149 ta_count_149 ta_latch tb_controlBits tb_control tb_count tb_latch f_ky)) hP hD hD1 [2] [0, 1, 3] rfl rfl (ae_c rfl (ae_c rfl (ae_c rfl ae_n))) rfl rfl hk1 hP1
    rw [← hw] at hF
    dsimp only at hF
    refine lv_goto (tgt := 166) hx hb dX1_writeRegister_152 (by decide) ?_
    exact W.vret hx hb hr (fun t ht hW => ⟨⟨(ic_rows, ic_keysSeen, ic_enabled, ta_control_149, ta_count_149, ta_latch, tb_control, tb_count, tb_latch), rfl, hF.symm, by rw [ht]; exact hP, va_K.moved hW.alike hK, hD⟩, hS.F ht⟩) hS.2.2 dX1_writeRegister_166
  have hF := hF.trans (if_neg c_1_14)
  by_cases c_1_15 : p1 = (15:Int32)
  · have hF := hF.trans (if_pos c_1_15)
    refine lv_tableIn (off := 154) (tgt := 155) hx hb dX1_writeRegister_1 (by rw [c_1_15]; decide) (by rw [c_1_15]; decide) (by rw [c_1_15]; first | rfl | decide) (by decide) ?_
    refine lv_aload_n hx hb dX1_writeRegister_155 rfl (lv_at hl 0 rfl) ?_
    refine va_get (D := (dC, dI)) (ci := 1) (v := .ref q_tb) (C := RX1) (T := TX1) (N := 7) hx hb hts hiX1 hown hK hP 0 rfl rfl 2 (by decide) (hts _ kFX1_22) (fun _ h9 => h9) rfl dX1_writeRegister_156 ?_
    refine lv_iload_n hx hb dX1_writeRegister_159 rfl (lv_at hl 2 rfl) ?_
    have hPc := hP.sub (ws' := (wwX5 q_tb tb_controlBits tb_control tb_count tb_latch)) [3] rfl
    have hDc := hD.sub (ws' := (wwX5 q_tb tb_controlBits tb_control tb_count tb_latch)) [3] (by decide) rfl
    have hKc := hK.sub (tys' := []) [] rfl
    have hFc := va_free (wc := (wwX5 q_tb tb_controlBits tb_control tb_count tb_latch)) hD hS hA [3] rfl
    refine va_callv (va_runV (As := [.int p2]) (rest := []) ⟨hx, hb, hml, hown, hts⟩ (mX5_setControl l dC dI q_tb s.heap.size tb_controlBits tb_control tb_count tb_latch p2) (cwV 1 hts (ub_V kMX1_66 kYX5_setControl kSX5_setControl kIX5 kBX5_setControl) rfl rfl rfl (by decide +kernel) ⟨Nat.le_of_ble_eq_true rfl, Nat.le_of_ble_eq_true rfl⟩) ⟨fun a U g mk q => by obtain ⟨q0, q1, qP, qK, qD⟩ := q; exact ⟨q0, q1, qP, va_K.moved (u := U) (U := U.calling g mk a) (Vm.Alike.refl U.vm) qK, qD⟩, va_recv hKc hPc (ci := 5) (q0 := 0) rfl rfl, fun U hU hW => ⟨rfl, by rw [hU], by rw [hU]; exact hPc, va_K.moved hW.alike hKc, hDc.weaken (fun _ _ _ _ => trivial)⟩⟩ rfl rfl hl.1 rfl (lv_room (Nat.le_of_ble_eq_true rfl)) dX1_writeRegister_160 ⟨(Nat.zero_le _), (Nat.zero_le _)⟩) hS (fun q _ h => hFc q h) hFc (fun u_160 t H locs ht hvm hw hB hz1 hk1 hS => ?_)
    obtain ⟨tb_control_160, tb_count_160⟩ := u_160
    obtain ⟨hP1, hK1, hD1⟩ := hB
    rw [ht] at hP1
    obtain ⟨hP, hD⟩ := vb_back (wc := (wwX5 q_tb tb_controlBits tb_control tb_count tb_latch)) (ws' := (wwX1 q_ic q_ky q_ta q_tb k_ky ic_rows ic_keysSeen ic_flags ic_enabled ta_controlBits ta_control ta_count ta_latch tb_controlBits tb_control_160 tb_count_160 tb_latch f_ky)) hP hD hD1 [3] [0, 1, 2] rfl rfl (ae_c rfl (ae_c rfl (ae_c rfl ae_n))) rfl rfl hk1 hP1
    rw [← hw] at hF
    dsimp only at hF
    refine lv_goto (tgt := 166) hx hb dX1_writeRegister_163 (by decide) ?_
    exact W.vret hx hb hr (fun t ht hW => ⟨⟨(ic_rows, ic_keysSeen, ic_enabled, ta_control, ta_count, ta_latch, tb_control_160, tb_count_160, tb_latch), rfl, hF.symm, by rw [ht]; exact hP, va_K.moved hW.alike hK, hD⟩, hS.F ht⟩) hS.2.2 dX1_writeRegister_166
  have hF := hF.trans (if_neg c_1_15)
  refine vt_dflt (tgt := 166) hx hb dX1_writeRegister_1 (fun x_ h1 h2 h3 => by have n0 := lv_neT (a := 0) c_1_0 rfl; have n4 := lv_neT (a := 4) c_1_4 rfl; have n5 := lv_neT (a := 5) c_1_5 rfl; have n6 := lv_neT (a := 6) c_1_6 rfl; have n7 := lv_neT (a := 7) c_1_7 rfl; have n13 := lv_neT (a := 13) c_1_13 rfl; have n14 := lv_neT (a := 14) c_1_14 rfl; have n15 := lv_neT (a := 15) c_1_15 rfl; have h4 : x_ = 1 ∨ x_ = 2 ∨ x_ = 3 ∨ x_ = 8 ∨ x_ = 9 ∨ x_ = 10 ∨ x_ = 11 ∨ x_ = 12 := (by omega); rcases h4 with rfl | rfl | rfl | rfl | rfl | rfl | rfl | rfl <;> rfl) (by decide) ?_
  exact W.vret hx hb hr (fun t ht hW => ⟨⟨(ic_rows, ic_keysSeen, ic_enabled, ta_control, ta_count, ta_latch, tb_control, tb_count, tb_latch), rfl, hF.symm, by rw [ht]; exact hP, va_K.moved hW.alike hK, hD⟩, hS.F ht⟩) hS.2.2 dX1_writeRegister_166
def fX2_setCellColour (p1 : Int32) (p2 : Int32) (f_co : Nat → Int32) : (Nat → Int32) :=
  if p1 < (0:Int32) then
   f_co
  else
   if (24:Int32) ≤ p1 then
    f_co
   else
    (upd f_co p1.toNatClampNeg (p2 &&& (15:Int32)))
set_option maxHeartbeats 4000000 in
set_option maxRecDepth 100000 in
theorem mX2_setCellColour (l : Launch) (dC : Nat → ClassId) (dI : Nat → Nat → Nat) (q_pi q_ra q_rc q_po q_co q_wc q_wo : Nat) (k_ra k_rc k_po k_co k_wc k_wo : ClassId) (sz : Nat) (pi_line pi_cycle pi_control pi_compareLine pi_ground pi_border pi_base pi_flag pi_enabled pi_idle pi_bad pi_glyphLine pi_rowToFetch : Int32) (f_ra f_rc f_po f_co f_wc f_wo : Nat → Int32) (p1 p2 : Int32) : Met l yX2_setCellColour uX2_setCellColour ({ frames := 0, cells := 0, slots := 0, locals := 0 }) (va_Pc [.ref q_pi, .int p1, .int p2] (fun U => U.heap.size = sz ∧ va_P (dC, dI) vwCl (wwX2 q_pi q_ra q_rc q_po q_co q_wc q_wo k_ra k_rc k_po k_co k_wc k_wo pi_line pi_cycle pi_control pi_compareLine pi_ground pi_border pi_base pi_flag pi_enabled pi_idle pi_bad pi_glyphLine pi_rowToFetch f_ra f_rc f_po f_co f_wc f_wo) U.heap ∧ va_K (dC, dI) vwCl [(k_ra, .int), (k_rc, .int), (k_po, .int), (k_co, .int), (k_wc, .int), (k_wo, .int)] U ∧ va_D (fun _ => True) (wwX2 q_pi q_ra q_rc q_po q_co q_wc q_wo k_ra k_rc k_po k_co k_wc k_wo pi_line pi_cycle pi_control pi_compareLine pi_ground pi_border pi_base pi_flag pi_enabled pi_idle pi_bad pi_glyphLine pi_rowToFetch f_ra f_rc f_po f_co f_wc f_wo))) (va_Qv (fun (u : (Nat → Int32)) => u = fX2_setCellColour p1 p2 f_co) (fun (u : (Nat → Int32)) (t : State) => va_P (dC, dI) vwCl (wwX2 q_pi q_ra q_rc q_po q_co q_wc q_wo k_ra k_rc k_po k_co k_wc k_wo pi_line pi_cycle pi_control pi_compareLine pi_ground pi_border pi_base pi_flag pi_enabled pi_idle pi_bad pi_glyphLine pi_rowToFetch f_ra f_rc f_po u f_wc f_wo) t.heap ∧ va_K (dC, dI) vwCl [(k_ra, .int), (k_rc, .int), (k_po, .int), (k_co, .int), (k_wc, .int), (k_wo, .int)] t ∧ va_D (va_A (wwX2 q_pi q_ra q_rc q_po q_co q_wc q_wo k_ra k_rc k_po k_co k_wc k_wo pi_line pi_cycle pi_control pi_compareLine pi_ground pi_border pi_base pi_flag pi_enabled pi_idle pi_bad pi_glyphLine pi_rowToFetch f_ra f_rc f_po f_co f_wc f_wo) sz) (wwX2 q_pi q_ra q_rc q_po q_co q_wc q_wo k_ra k_rc k_po k_co k_wc k_wo pi_line pi_cycle pi_control pi_compareLine pi_ground pi_border pi_base pi_flag pi_enabled pi_idle pi_bad pi_glyphLine pi_rowToFetch f_ra f_rc f_po u f_wc f_wo)) (va_A (wwX2 q_pi q_ra q_rc q_po q_co q_wc q_wo k_ra k_rc k_po k_co k_wc k_wo pi_line pi_cycle pi_control pi_compareLine pi_ground pi_border pi_base pi_flag pi_enabled pi_idle pi_bad pi_glyphLine pi_rowToFetch f_ra f_rc f_po f_co f_wc f_wo) sz)) 0 0 (va_A (wwX2 q_pi q_ra q_rc q_po q_co q_wc q_wo k_ra k_rc k_po k_co k_wc k_wo pi_line pi_cycle pi_control pi_compareLine pi_ground pi_border pi_base pi_flag pi_enabled pi_idle pi_bad pi_glyphLine pi_rowToFetch f_ra f_rc f_po f_co f_wc f_wo) sz) := by
  refine Met.ofW (cc := cX2_setCellColour) (maxL := 3) (ret := none) (by decide) rfl ?_
  intro p e s m args below meth c s₁ B hml hv
  obtain ⟨rfl, hsz, hP, hK, hD0⟩ := hv
  have hx := B.exec
  have hb := B.bytes
  have hr := B.returns
  have hts : ∀ w ∈ ub, w.before _ s = true := fun w h => atoms_spec (ws := uX2_setCellColour) B.pre w (List.mem_cons_of_mem _ h)
  have hown : s.vm.findClass RX2 = some m.cls := findClass_of_methodNamed B.named
  have hlocks := B.notSynchronized
  subst hsz
  have hD := hD0.self (sz := s.heap.size)
  generalize hAe : va_A (wwX2 q_pi q_ra q_rc q_po q_co q_wc q_wo k_ra k_rc k_po k_co k_wc k_wo pi_line pi_cycle pi_control pi_compareLine pi_ground pi_border pi_base pi_flag pi_enabled pi_idle pi_bad pi_glyphLine pi_rowToFetch f_ra f_rc f_po f_co f_wc f_wo) s.heap.size = A at hD ⊢
  have hA : ∀ q : Nat, s.heap.size ≤ q → A q := fun q h => by rw [← hAe]; exact Or.inr h
  have hS : va_S A s.heap s.heap [] := va_S.rf
  have hl := lv_entry ([.ref q_pi, .int p1, .int p2]) (n := 3) (Nat.le_of_ble_eq_true rfl)
  rw [lg_entry_eq]
  generalize (lg_sl ([.ref q_pi, .int p1, .int p2]) ++ List.replicate (3 - (lg_sl ([.ref q_pi, .int p1, .int p2])).length) Slot.unset).toArray = ls at hl ⊢
  have hl : lv_has ls 3 [(0, .ref q_pi), (1, .int p1), (2, .int p2)] := hl
  have hF := fX2_setCellColour.eq_1 p1 p2 f_co
  refine lv_iload_n hx hb dX2_setCellColour_0 rfl (lv_at hl 1 rfl) ?_
  refine lv_if_lt (tgt := 20) hx hb dX2_setCellColour_1 (by decide) (fun c_1 => ?_) (fun c_1 => ?_)
  · have hF := hF.trans (if_pos c_1)
    exact W.vret hx hb hr (fun t ht hW => ⟨⟨f_co, rfl, hF.symm, by rw [ht]; exact hP, va_K.moved hW.alike hK, hD⟩, hS.F ht⟩) hS.2.2 dX2_setCellColour_20
  · have hF := hF.trans (if_neg c_1)
    refine lv_iload_n hx hb dX2_setCellColour_4 rfl (lv_at hl 1 rfl) ?_
    refine lv_bipush (v := 24) hx hb dX2_setCellColour_5 (by decide) ?_
    refine lv_icmp_ge (tgt := 20) hx hb dX2_setCellColour_7 (by decide) (fun c_7 => ?_) (fun c_7 => ?_)
    · have hF := hF.trans (if_pos c_7)
      exact W.vret hx hb hr (fun t ht hW => ⟨⟨f_co, rfl, hF.symm, by rw [ht]; exact hP, va_K.moved hW.alike hK, hD⟩, hS.F ht⟩) hS.2.2 dX2_setCellColour_20
    · have hF := hF.trans (if_neg c_7)
      refine lv_aload_n hx hb dX2_setCellColour_10 rfl (lv_at hl 0 rfl) ?_
      refine va_get (D := (dC, dI)) (ci := 2) (v := .ref q_co) (C := RX2) (T := TX2) (N := 19) hx hb hts hiX2 hown hK hP 0 rfl rfl 3 (by decide) (hts _ kFX2_13) (fun _ h9 => h9) rfl dX2_setCellColour_11 ?_
      refine lv_iload_n hx hb dX2_setCellColour_14 rfl (lv_at hl 1 rfl) ?_
      refine lv_iload_n hx hb dX2_setCellColour_15 rfl (lv_at hl 2 rfl) ?_
      refine lv_bipush (v := 15) hx hb dX2_setCellColour_16 (by decide) ?_
      refine lv_iand hx hb dX2_setCellColour_18 ?_
      refine va_iast hx hb hK hP hD hS 4 3 rfl rfl (rg_lt c_1 c_7 (by decide)) dX2_setCellColour_19 (fun H locs hP hD hS => ?_)
      have hP : va_P (dC, dI) vwCl (wwX2 q_pi q_ra q_rc q_po q_co q_wc q_wo k_ra k_rc k_po k_co k_wc k_wo pi_line pi_cycle pi_control pi_compareLine pi_ground pi_border pi_base pi_flag pi_enabled pi_idle pi_bad pi_glyphLine pi_rowToFetch f_ra f_rc f_po (upd f_co p1.toNatClampNeg (p2 &&& (15:Int32))) f_wc f_wo) H := hP
      have hD : va_D A (wwX2 q_pi q_ra q_rc q_po q_co q_wc q_wo k_ra k_rc k_po k_co k_wc k_wo pi_line pi_cycle pi_control pi_compareLine pi_ground pi_border pi_base pi_flag pi_enabled pi_idle pi_bad pi_glyphLine pi_rowToFetch f_ra f_rc f_po (upd f_co p1.toNatClampNeg (p2 &&& (15:Int32))) f_wc f_wo) := hD
      exact W.vret hx hb hr (fun t ht hW => ⟨⟨(upd f_co p1.toNatClampNeg (p2 &&& (15:Int32))), rfl, hF.symm, by rw [ht]; exact hP, va_K.moved hW.alike hK, hD⟩, hS.F ht⟩) hS.2.2 dX2_setCellColour_20
