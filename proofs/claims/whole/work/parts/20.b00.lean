def fX6_burn (p1 : Int32) (p2 : Int32) (p3 : Int32) (f_rA : Nat → Int32) (f_rc : Nat → Int32) (f_rk : Nat → Int32) : Int32 × (Nat → Int32) × (Nat → Int32) × (Nat → Int32) :=
  if p1 < (0:Int32) then
   ((0:Int32), f_rA, f_rc, f_rk)
  else
   if (2:Int32) < p1 then
    ((0:Int32), f_rA, f_rc, f_rk)
   else
    if (fX6_isByte p3) = (0:Int32) then
     ((0:Int32), f_rA, f_rc, f_rk)
    else
     if p1 = (0:Int32) then
      if p2 < (0:Int32) then
       ((0:Int32), f_rA, f_rc, f_rk)
      else
       if p2 < (1024:Int32) then
        ((1:Int32), (upd f_rA p2.toNatClampNeg p3), f_rc, f_rk)
       else
        ((0:Int32), f_rA, f_rc, f_rk)
     else
      if p1 = (1:Int32) then
       if p2 < (0:Int32) then
        ((0:Int32), f_rA, f_rc, f_rk)
       else
        if p2 < (512:Int32) then
         ((1:Int32), f_rA, (upd f_rc p2.toNatClampNeg p3), f_rk)
        else
         ((0:Int32), f_rA, f_rc, f_rk)
      else
       if p2 < (0:Int32) then
        ((0:Int32), f_rA, f_rc, f_rk)
       else
        if p2 < (1024:Int32) then
         ((1:Int32), f_rA, f_rc, (upd f_rk p2.toNatClampNeg p3))
        else
         ((0:Int32), f_rA, f_rc, f_rk)
set_option maxHeartbeats 4000000 in
set_option maxRecDepth 100000 in
theorem mX6_burn (l : Launch) (dC : Nat → ClassId) (dI : Nat → Nat → Nat) (q_bo q_pr q_rg q_bu q_ra q_rA q_rc q_rk q_pi q_po q_co q_wc q_wo q_ic q_ky q_ta q_tb : Nat) (k_ra k_rA k_rc k_rk k_po k_co k_wc k_wo k_ky : ClassId) (sz : Nat) (bo_cyclesInAll pr_stuck pr_waits pr_interruptsBegun pr_kind pr_step pr_code pr_low pr_high pr_changed pr_missing rg_a rg_x rg_y rg_s rg_flags rg_p bu_port bu_latest pi_line pi_cycle pi_control pi_compareLine pi_ground pi_border pi_base pi_flag pi_enabled pi_idle pi_bad pi_glyphLine pi_rowToFetch ic_rows ic_keysSeen ic_flags ic_enabled ta_controlBits ta_control ta_count ta_latch tb_controlBits tb_control tb_count tb_latch : Int32) (f_ra f_rA f_rc f_rk f_po f_co f_wc f_wo f_ky : Nat → Int32) (p1 p2 p3 : Int32) : Met l yX6_burn uX6_burn ({ frames := 1, cells := 0, slots := 0, locals := 20 }) (va_Pc [.ref q_bo, .int p1, .int p2, .int p3] (fun U => U.heap.size = sz ∧ va_P (dC, dI) vwCl (wwX6 q_bo q_pr q_rg q_bu q_ra q_rA q_rc q_rk q_pi q_po q_co q_wc q_wo q_ic q_ky q_ta q_tb k_ra k_rA k_rc k_rk k_po k_co k_wc k_wo k_ky bo_cyclesInAll pr_stuck pr_waits pr_interruptsBegun pr_kind pr_step pr_code pr_low pr_high pr_changed pr_missing rg_a rg_x rg_y rg_s rg_flags rg_p bu_port bu_latest pi_line pi_cycle pi_control pi_compareLine pi_ground pi_border pi_base pi_flag pi_enabled pi_idle pi_bad pi_glyphLine pi_rowToFetch ic_rows ic_keysSeen ic_flags ic_enabled ta_controlBits ta_control ta_count ta_latch tb_controlBits tb_control tb_count tb_latch f_ra f_rA f_rc f_rk f_po f_co f_wc f_wo f_ky) U.heap ∧ va_K (dC, dI) vwCl [(k_ra, .int), (k_rA, .int), (k_rc, .int), (k_rk, .int), (k_po, .int), (k_co, .int), (k_wc, .int), (k_wo, .int), (k_ky, .int)] U ∧ va_D (fun _ => True) (wwX6 q_bo q_pr q_rg q_bu q_ra q_rA q_rc q_rk q_pi q_po q_co q_wc q_wo q_ic q_ky q_ta q_tb k_ra k_rA k_rc k_rk k_po k_co k_wc k_wo k_ky bo_cyclesInAll pr_stuck pr_waits pr_interruptsBegun pr_kind pr_step pr_code pr_low pr_high pr_changed pr_missing rg_a rg_x rg_y rg_s rg_flags rg_p bu_port bu_latest pi_line pi_cycle pi_control pi_compareLine pi_ground pi_border pi_base pi_flag pi_enabled pi_idle pi_bad pi_glyphLine pi_rowToFetch ic_rows ic_keysSeen ic_flags ic_enabled ta_controlBits ta_control ta_count ta_latch tb_controlBits tb_control tb_count tb_latch f_ra f_rA f_rc f_rk f_po f_co f_wc f_wo f_ky))) (va_Qi (fun (r : Int32) (u : (Nat → Int32) × (Nat → Int32) × (Nat → Int32)) => (r, u) = fX6_burn p1 p2 p3 f_rA f_rc f_rk) (fun (u : (Nat → Int32) × (Nat → Int32) × (Nat → Int32)) (t : State) => va_P (dC, dI) vwCl (wwX6 q_bo q_pr q_rg q_bu q_ra q_rA q_rc q_rk q_pi q_po q_co q_wc q_wo q_ic q_ky q_ta q_tb k_ra k_rA k_rc k_rk k_po k_co k_wc k_wo k_ky bo_cyclesInAll pr_stuck pr_waits pr_interruptsBegun pr_kind pr_step pr_code pr_low pr_high pr_changed pr_missing rg_a rg_x rg_y rg_s rg_flags rg_p bu_port bu_latest pi_line pi_cycle pi_control pi_compareLine pi_ground pi_border pi_base pi_flag pi_enabled pi_idle pi_bad pi_glyphLine pi_rowToFetch ic_rows ic_keysSeen ic_flags ic_enabled ta_controlBits ta_control ta_count ta_latch tb_controlBits tb_control tb_count tb_latch f_ra u.1 u.2.1 u.2.2 f_po f_co f_wc f_wo f_ky) t.heap ∧ va_K (dC, dI) vwCl [(k_ra, .int), (k_rA, .int), (k_rc, .int), (k_rk, .int), (k_po, .int), (k_co, .int), (k_wc, .int), (k_wo, .int), (k_ky, .int)] t ∧ va_D (va_A (wwX6 q_bo q_pr q_rg q_bu q_ra q_rA q_rc q_rk q_pi q_po q_co q_wc q_wo q_ic q_ky q_ta q_tb k_ra k_rA k_rc k_rk k_po k_co k_wc k_wo k_ky bo_cyclesInAll pr_stuck pr_waits pr_interruptsBegun pr_kind pr_step pr_code pr_low pr_high pr_changed pr_missing rg_a rg_x rg_y rg_s rg_flags rg_p bu_port bu_latest pi_line pi_cycle pi_control pi_compareLine pi_ground pi_border pi_base pi_flag pi_enabled pi_idle pi_bad pi_glyphLine pi_rowToFetch ic_rows ic_keysSeen ic_flags ic_enabled ta_controlBits ta_control ta_count ta_latch tb_controlBits tb_control tb_count tb_latch f_ra f_rA f_rc f_rk f_po f_co f_wc f_wo f_ky) sz) (wwX6 q_bo q_pr q_rg q_bu q_ra q_rA q_rc q_rk q_pi q_po q_co q_wc q_wo q_ic q_ky q_ta q_tb k_ra k_rA k_rc k_rk k_po k_co k_wc k_wo k_ky bo_cyclesInAll pr_stuck pr_waits pr_interruptsBegun pr_kind pr_step pr_code pr_low pr_high pr_changed pr_missing rg_a rg_x rg_y rg_s rg_flags rg_p bu_port bu_latest pi_line pi_cycle pi_control pi_compareLine pi_ground pi_border pi_base pi_flag pi_enabled pi_idle pi_bad pi_glyphLine pi_rowToFetch ic_rows ic_keysSeen ic_flags ic_enabled ta_controlBits ta_control ta_count ta_latch tb_controlBits tb_control tb_count tb_latch f_ra u.1 u.2.1 u.2.2 f_po f_co f_wc f_wo f_ky)) (va_A (wwX6 q_bo q_pr q_rg q_bu q_ra q_rA q_rc q_rk q_pi q_po q_co q_wc q_wo q_ic q_ky q_ta q_tb k_ra k_rA k_rc k_rk k_po k_co k_wc k_wo k_ky bo_cyclesInAll pr_stuck pr_waits pr_interruptsBegun pr_kind pr_step pr_code pr_low pr_high pr_changed pr_missing rg_a rg_x rg_y rg_s rg_flags rg_p bu_port bu_latest pi_line pi_cycle pi_control pi_compareLine pi_ground pi_border pi_base pi_flag pi_enabled pi_idle pi_bad pi_glyphLine pi_rowToFetch ic_rows ic_keysSeen ic_flags ic_enabled ta_controlBits ta_control ta_count ta_latch tb_controlBits tb_control tb_count tb_latch f_ra f_rA f_rc f_rk f_po f_co f_wc f_wo f_ky) sz)) 0 0 (va_A (wwX6 q_bo q_pr q_rg q_bu q_ra q_rA q_rc q_rk q_pi q_po q_co q_wc q_wo q_ic q_ky q_ta q_tb k_ra k_rA k_rc k_rk k_po k_co k_wc k_wo k_ky bo_cyclesInAll pr_stuck pr_waits pr_interruptsBegun pr_kind pr_step pr_code pr_low pr_high pr_changed pr_missing rg_a rg_x rg_y rg_s rg_flags rg_p bu_port bu_latest pi_line pi_cycle pi_control pi_compareLine pi_ground pi_border pi_base pi_flag pi_enabled pi_idle pi_bad pi_glyphLine pi_rowToFetch ic_rows ic_keysSeen ic_flags ic_enabled ta_controlBits ta_control ta_count ta_latch tb_controlBits tb_control tb_count tb_latch f_ra f_rA f_rc f_rk f_po f_co f_wc f_wo f_ky) sz) := by
  refine Met.ofW (cc := cX6_burn) (maxL := 5) (ret := (some .boolean)) (by decide) rfl ?_
  intro p e s m args below meth c s₁ B hml hv
  obtain ⟨rfl, hsz, hP, hK, hD0⟩ := hv
  have hx := B.exec
  have hb := B.bytes
  have hr := B.returns
  have hts : ∀ w ∈ ub, w.before _ s = true := fun w h => atoms_spec (ws := uX6_burn) B.pre w (List.mem_cons_of_mem _ h)
  have hown : s.vm.findClass RX6 = some m.cls := findClass_of_methodNamed B.named
  have hlocks := B.notSynchronized
  subst hsz
  have hD := hD0.self (sz := s.heap.size)
  generalize hAe : va_A (wwX6 q_bo q_pr q_rg q_bu q_ra q_rA q_rc q_rk q_pi q_po q_co q_wc q_wo q_ic q_ky q_ta q_tb k_ra k_rA k_rc k_rk k_po k_co k_wc k_wo k_ky bo_cyclesInAll pr_stuck pr_waits pr_interruptsBegun pr_kind pr_step pr_code pr_low pr_high pr_changed pr_missing rg_a rg_x rg_y rg_s rg_flags rg_p bu_port bu_latest pi_line pi_cycle pi_control pi_compareLine pi_ground pi_border pi_base pi_flag pi_enabled pi_idle pi_bad pi_glyphLine pi_rowToFetch ic_rows ic_keysSeen ic_flags ic_enabled ta_controlBits ta_control ta_count ta_latch tb_controlBits tb_control tb_count tb_latch f_ra f_rA f_rc f_rk f_po f_co f_wc f_wo f_ky) s.heap.size = A at hD ⊢
  have hA : ∀ q : Nat, s.heap.size ≤ q → A q := fun q h => by rw [← hAe]; exact Or.inr h
  have hS : va_S A s.heap s.heap [] := va_S.rf
  have hl := lv_entry ([.ref q_bo, .int p1, .int p2, .int p3]) (n := 5) (Nat.le_of_ble_eq_true rfl)
  rw [lg_entry_eq]
  generalize (lg_sl ([.ref q_bo, .int p1, .int p2, .int p3]) ++ List.replicate (5 - (lg_sl ([.ref q_bo, .int p1, .int p2, .int p3])).length) Slot.unset).toArray = ls at hl ⊢
  have hl : lv_has ls 5 [(0, .ref q_bo), (1, .int p1), (2, .int p2), (3, .int p3)] := hl
  have hF := fX6_burn.eq_1 p1 p2 p3 f_rA f_rc f_rk
  refine lv_iload_n hx hb dX6_burn_0 rfl (lv_at hl 1 rfl) ?_
  refine lv_if_lt (tgt := 16) hx hb dX6_burn_1 (by decide) (fun c_1 => ?_) (fun c_1 => ?_)
  · have hF := hF.trans (if_pos c_1)
    refine lv_iconst (v := 0) hx hb dX6_burn_16 (by decide) ?_
    exact W.zret (v := (0:Int32)) hx hb hr rfl (fun t ht hW => ⟨⟨(0:Int32), (f_rA, f_rc, f_rk), rfl, hF.symm, by rw [ht]; exact hP, va_K.moved hW.alike hK, hD⟩, hS.F ht⟩) hS.2.2 dX6_burn_17
  · have hF := hF.trans (if_neg c_1)
    refine lv_iload_n hx hb dX6_burn_4 rfl (lv_at hl 1 rfl) ?_
    refine lv_iconst (v := 2) hx hb dX6_burn_5 (by decide) ?_
    refine lv_icmp_gt (tgt := 16) hx hb dX6_burn_6 (by decide) (fun c_6 => ?_) (fun c_6 => ?_)
    · have hF := hF.trans (if_pos c_6)
      refine lv_iconst (v := 0) hx hb dX6_burn_16 (by decide) ?_
      exact W.zret (v := (0:Int32)) hx hb hr rfl (fun t ht hW => ⟨⟨(0:Int32), (f_rA, f_rc, f_rk), rfl, hF.symm, by rw [ht]; exact hP, va_K.moved hW.alike hK, hD⟩, hS.F ht⟩) hS.2.2 dX6_burn_17
    · have hF := hF.trans (if_neg c_6)
      refine lv_iload_n hx hb dX6_burn_9 rfl (lv_at hl 3 rfl) ?_
      have hPc := hP.sub (ws' := ([] : va_W)) [] rfl
      have hDc := hD.sub (ws' := ([] : va_W)) [] (by decide) rfl
      have hKc := hK.sub (tys' := []) [] rfl
      have hFc := va_free (wc := ([] : va_W)) hD hS hA [] rfl
      refine va_calli (va_runS (As := [.int p3]) (rest := []) ⟨hx, hb, hml, hown, hts⟩ (mX6_isByte l dC dI s.heap.size p3) (va_cwS 1 hts (ub_S kMX6_56 kTX6_isByte kIX6 kBX6_isByte) rfl rfl rfl (by decide +kernel) ⟨Nat.le_of_ble_eq_true rfl, Nat.le_of_ble_eq_true rfl⟩) ⟨fun a U g mk q => by obtain ⟨q0, q1, qP, qK, qD⟩ := q; exact ⟨q0, q1, qP, va_K.moved (u := U) (U := U.calling g mk a) (Vm.Alike.refl U.vm) qK, qD⟩, fun U hU hW => ⟨rfl, by rw [hU], by rw [hU]; exact hPc, va_K.moved hW.alike hKc, hDc.weaken (fun _ _ _ _ => trivial)⟩⟩ rfl rfl hl.1 rfl (lv_room (Nat.le_of_ble_eq_true rfl)) dX6_burn_10 ⟨(Nat.zero_le _), (Nat.zero_le _)⟩) hS (fun q _ h => hFc q h) hFc (fun r_10 u_10 t H locs ht hvm hw hB hz1 hk1 hS => ?_)
      obtain ⟨hP1, hK1, hD1⟩ := hB
      rw [ht] at hP1
      subst hw
      obtain ⟨hP, hD⟩ := vb_back (wc := ([] : va_W)) (ws' := (wwX6 q_bo q_pr q_rg q_bu q_ra q_rA q_rc q_rk q_pi q_po q_co q_wc q_wo q_ic q_ky q_ta q_tb k_ra k_rA k_rc k_rk k_po k_co k_wc k_wo k_ky bo_cyclesInAll pr_stuck pr_waits pr_interruptsBegun pr_kind pr_step pr_code pr_low pr_high pr_changed pr_missing rg_a rg_x rg_y rg_s rg_flags rg_p bu_port bu_latest pi_line pi_cycle pi_control pi_compareLine pi_ground pi_border pi_base pi_flag pi_enabled pi_idle pi_bad pi_glyphLine pi_rowToFetch ic_rows ic_keysSeen ic_flags ic_enabled ta_controlBits ta_control ta_count ta_latch tb_controlBits tb_control tb_count tb_latch f_ra f_rA f_rc f_rk f_po f_co f_wc f_wo f_ky)) hP hD hD1 [] [0, 1, 2, 3, 4, 5, 6, 7, 8, 9, 10, 11, 12, 13, 14, 15, 16] rfl rfl (ae_c rfl (ae_c rfl (ae_c rfl (ae_c rfl (ae_c rfl (ae_c rfl (ae_c rfl (ae_c rfl (ae_c rfl (ae_c rfl (ae_c rfl (ae_c rfl (ae_c rfl (ae_c rfl (ae_c rfl (ae_c rfl (ae_c rfl ae_n))))))))))))))))) rfl rfl hk1 hP1
      refine lv_if_ne (tgt := 18) hx hb dX6_burn_13 (by decide) (fun c_13 => ?_) (fun c_13 => ?_)
      · have hF := hF.trans (if_neg c_13)
        refine lv_iload_n hx hb dX6_burn_18 rfl (lv_at hl 1 rfl) ?_
        refine lv_if_ne (tgt := 29) hx hb dX6_burn_19 (by decide) (fun c_19 => ?_) (fun c_19 => ?_)
        · have hF := hF.trans (if_neg c_19)
          refine lv_iload_n hx hb dX6_burn_29 rfl (lv_at hl 1 rfl) ?_
          refine lv_iconst (v := 1) hx hb dX6_burn_30 (by decide) ?_
          refine lv_icmp_ne (tgt := 41) hx hb dX6_burn_31 (by decide) (fun c_31 => ?_) (fun c_31 => ?_)
          · have hF := hF.trans (if_neg c_31)
            refine lv_aload_n hx hb dX6_burn_41 rfl (lv_at hl 0 rfl) ?_
            refine va_get (D := (dC, dI)) (ci := 6) (v := .ref q_rk) (C := RX6) (T := TX6) (N := 9) hx hb hts hiX6 hown hK hP 0 rfl rfl 3 (by decide) (hts _ kFX6_19) (fun _ h9 => h9) rfl dX6_burn_42 ?_
            refine lv_astore (lv' := [(4, .ref q_rk), (0, .ref q_bo), (1, .int p1), (2, .int p2), (3, .int p3)]) hx hb dX6_burn_45 hl (by decide) rfl (fun ls hl => ?_)
            refine lv_iload_n hx hb dX6_burn_47 rfl (lv_at hl 3 rfl) ?_
            refine lv_if_lt (tgt := 58) hx hb dX6_burn_48 (by decide) (fun c_48 => ?_) (fun c_48 => ?_)
            · have hF := hF.trans (if_pos c_48)
              refine lv_iconst (v := 0) hx hb dX6_burn_58 (by decide) ?_
              exact W.zret (v := (0:Int32)) hx hb hr rfl (fun t ht hW => ⟨⟨(0:Int32), (f_rA, f_rc, f_rk), rfl, hF.symm, by rw [ht]; exact hP, va_K.moved hW.alike hK, hD⟩, hS.F ht⟩) hS.2.2 dX6_burn_59
            · have hF := hF.trans (if_neg c_48)
              refine lv_iload_n hx hb dX6_burn_51 rfl (lv_at hl 3 rfl) ?_
              refine lv_aload hx hb dX6_burn_52 (lv_at hl 0 rfl) ?_
              refine va_alen (v := 1024) hx hb hK hP 7 3 rfl rfl rfl dX6_burn_54 ?_
              refine lv_icmp_lt (tgt := 60) hx hb dX6_burn_55 (by decide) (fun c_55 => ?_) (fun c_55 => ?_)
              · have hF := hF.trans (if_pos c_55)
                refine lv_aload hx hb dX6_burn_60 (lv_at hl 0 rfl) ?_
                refine lv_iload_n hx hb dX6_burn_62 rfl (lv_at hl 3 rfl) ?_
                refine lv_iload_n hx hb dX6_burn_63 rfl (lv_at hl 4 rfl) ?_
                refine va_iast hx hb hK hP hD hS 7 3 rfl rfl (rg_ltt c_48 c_55 (by decide)) dX6_burn_64 (fun H locs hP hD hS => ?_)
                have hP : va_P (dC, dI) vwCl (wwX6 q_bo q_pr q_rg q_bu q_ra q_rA q_rc q_rk q_pi q_po q_co q_wc q_wo q_ic q_ky q_ta q_tb k_ra k_rA k_rc k_rk k_po k_co k_wc k_wo k_ky bo_cyclesInAll pr_stuck pr_waits pr_interruptsBegun pr_kind pr_step pr_code pr_low pr_high pr_changed pr_missing rg_a rg_x rg_y rg_s rg_flags rg_p bu_port bu_latest pi_line pi_cycle pi_control pi_compareLine pi_ground pi_border pi_base pi_flag pi_enabled pi_idle pi_bad pi_glyphLine pi_rowToFetch ic_rows ic_keysSeen ic_flags ic_enabled ta_controlBits ta_control ta_count ta_latch tb_controlBits tb_control tb_count tb_latch f_ra f_rA f_rc (upd f_rk p2.toNatClampNeg p3) f_po f_co f_wc f_wo f_ky) H := hP
                have hD : va_D A (wwX6 q_bo q_pr q_rg q_bu q_ra q_rA q_rc q_rk q_pi q_po q_co q_wc q_wo q_ic q_ky q_ta q_tb k_ra k_rA k_rc k_rk k_po k_co k_wc k_wo k_ky bo_cyclesInAll pr_stuck pr_waits pr_interruptsBegun pr_kind pr_step pr_code pr_low pr_high pr_changed pr_missing rg_a rg_x rg_y rg_s rg_flags rg_p bu_port bu_latest pi_line pi_cycle pi_control pi_compareLine pi_ground pi_border pi_base pi_flag pi_enabled pi_idle pi_bad pi_glyphLine pi_rowToFetch ic_rows ic_keysSeen ic_flags ic_enabled ta_controlBits ta_control ta_count ta_latch tb_controlBits tb_control tb_count tb_latch f_ra f_rA f_rc (upd f_rk p2.toNatClampNeg p3) f_po f_co f_wc f_wo f_ky) := hD
                refine lv_iconst (v := 1) hx hb dX6_burn_65 (by decide) ?_
                exact W.zret (v := (1:Int32)) hx hb hr rfl (fun t ht hW => ⟨⟨(1:Int32), (f_rA, f_rc, (upd f_rk p2.toNatClampNeg p3)), rfl, hF.symm, by rw [ht]; exact hP, va_K.moved hW.alike hK, hD⟩, hS.F ht⟩) hS.2.2 dX6_burn_66
              · have hF := hF.trans (if_neg c_55)
                refine lv_iconst (v := 0) hx hb dX6_burn_58 (by decide) ?_
                exact W.zret (v := (0:Int32)) hx hb hr rfl (fun t ht hW => ⟨⟨(0:Int32), (f_rA, f_rc, f_rk), rfl, hF.symm, by rw [ht]; exact hP, va_K.moved hW.alike hK, hD⟩, hS.F ht⟩) hS.2.2 dX6_burn_59
          · have hF := hF.trans (if_pos c_31)
            refine lv_aload_n hx hb dX6_burn_34 rfl (lv_at hl 0 rfl) ?_
            refine va_get (D := (dC, dI)) (ci := 6) (v := .ref q_rc) (C := RX6) (T := TX6) (N := 9) hx hb hts hiX6 hown hK hP 0 rfl rfl 2 (by decide) (hts _ kFX6_16) (fun _ h9 => h9) rfl dX6_burn_35 ?_
            refine lv_goto (tgt := 45) hx hb dX6_burn_38 (by decide) ?_
            refine lv_astore (lv' := [(4, .ref q_rc), (0, .ref q_bo), (1, .int p1), (2, .int p2), (3, .int p3)]) hx hb dX6_burn_45 hl (by decide) rfl (fun ls hl => ?_)
            refine lv_iload_n hx hb dX6_burn_47 rfl (lv_at hl 3 rfl) ?_
            refine lv_if_lt (tgt := 58) hx hb dX6_burn_48 (by decide) (fun c_48 => ?_) (fun c_48 => ?_)
            · have hF := hF.trans (if_pos c_48)
              refine lv_iconst (v := 0) hx hb dX6_burn_58 (by decide) ?_
              exact W.zret (v := (0:Int32)) hx hb hr rfl (fun t ht hW => ⟨⟨(0:Int32), (f_rA, f_rc, f_rk), rfl, hF.symm, by rw [ht]; exact hP, va_K.moved hW.alike hK, hD⟩, hS.F ht⟩) hS.2.2 dX6_burn_59
            · have hF := hF.trans (if_neg c_48)
              refine lv_iload_n hx hb dX6_burn_51 rfl (lv_at hl 3 rfl) ?_
              refine lv_aload hx hb dX6_burn_52 (lv_at hl 0 rfl) ?_
              refine va_alen (v := 512) hx hb hK hP 6 2 rfl rfl rfl dX6_burn_54 ?_
              refine lv_icmp_lt (tgt := 60) hx hb dX6_burn_55 (by decide) (fun c_55 => ?_) (fun c_55 => ?_)
              · have hF := hF.trans (if_pos c_55)
                refine lv_aload hx hb dX6_burn_60 (lv_at hl 0 rfl) ?_
                refine lv_iload_n hx hb dX6_burn_62 rfl (lv_at hl 3 rfl) ?_
                refine lv_iload_n hx hb dX6_burn_63 rfl (lv_at hl 4 rfl) ?_
                refine va_iast hx hb hK hP hD hS 6 2 rfl rfl (rg_ltt c_48 c_55 (by decide)) dX6_burn_64 (fun H locs hP hD hS => ?_)
                have hP : va_P (dC, dI) vwCl (wwX6 q_bo q_pr q_rg q_bu q_ra q_rA q_rc q_rk q_pi q_po q_co q_wc q_wo q_ic q_ky q_ta q_tb k_ra k_rA k_rc k_rk k_po k_co k_wc k_wo k_ky bo_cyclesInAll pr_stuck pr_waits pr_interruptsBegun pr_kind pr_step pr_code pr_low pr_high pr_changed pr_missing rg_a rg_x rg_y rg_s rg_flags rg_p bu_port bu_latest pi_line pi_cycle pi_control pi_compareLine pi_ground pi_border pi_base pi_flag pi_enabled pi_idle pi_bad pi_glyphLine pi_rowToFetch ic_rows ic_keysSeen ic_flags ic_enabled ta_controlBits ta_control ta_count ta_latch tb_controlBits tb_control tb_count tb_latch f_ra f_rA (upd f_rc p2.toNatClampNeg p3) f_rk f_po f_co f_wc f_wo f_ky) H := hP
                have hD : va_D A (wwX6 q_bo q_pr q_rg q_bu q_ra q_rA q_rc q_rk q_pi q_po q_co q_wc q_wo q_ic q_ky q_ta q_tb k_ra k_rA k_rc k_rk k_po k_co k_wc k_wo k_ky bo_cyclesInAll pr_stuck pr_waits pr_interruptsBegun pr_kind pr_step pr_code pr_low pr_high pr_changed pr_missing rg_a rg_x rg_y rg_s rg_flags rg_p bu_port bu_latest pi_line pi_cycle pi_control pi_compareLine pi_ground pi_border pi_base pi_flag pi_enabled pi_idle pi_bad pi_glyphLine pi_rowToFetch ic_rows ic_keysSeen ic_flags ic_enabled ta_controlBits ta_control ta_count ta_latch tb_controlBits tb_control tb_count tb_latch f_ra f_rA (upd f_rc p2.toNatClampNeg p3) f_rk f_po f_co f_wc f_wo f_ky) := hD
                refine lv_iconst (v := 1) hx hb dX6_burn_65 (by decide) ?_
                exact W.zret (v := (1:Int32)) hx hb hr rfl (fun t ht hW => ⟨⟨(1:Int32), (f_rA, (upd f_rc p2.toNatClampNeg p3), f_rk), rfl, hF.symm, by rw [ht]; exact hP, va_K.moved hW.alike hK, hD⟩, hS.F ht⟩) hS.2.2 dX6_burn_66
              · have hF := hF.trans (if_neg c_55)
                refine lv_iconst (v := 0) hx hb dX6_burn_58 (by decide) ?_
                exact W.zret (v := (0:Int32)) hx hb hr rfl (fun t ht hW => ⟨⟨(0:Int32), (f_rA, f_rc, f_rk), rfl, hF.symm, by rw [ht]; exact hP, va_K.moved hW.alike hK, hD⟩, hS.F ht⟩) hS.2.2 dX6_burn_59
        · have hF := hF.trans (if_pos c_19)
          refine lv_aload_n hx hb dX6_burn_22 rfl (lv_at hl 0 rfl) ?_
          refine va_get (D := (dC, dI)) (ci := 6) (v := .ref q_rA) (C := RX6) (T := TX6) (N := 9) hx hb hts hiX6 hown hK hP 0 rfl rfl 1 (by decide) (hts _ kFX6_13) (fun _ h9 => h9) rfl dX6_burn_23 ?_
          refine lv_goto (tgt := 45) hx hb dX6_burn_26 (by decide) ?_
          refine lv_astore (lv' := [(4, .ref q_rA), (0, .ref q_bo), (1, .int p1), (2, .int p2), (3, .int p3)]) hx hb dX6_burn_45 hl (by decide) rfl (fun ls hl => ?_)
          refine lv_iload_n hx hb dX6_burn_47 rfl (lv_at hl 3 rfl) ?_
          refine lv_if_lt (tgt := 58) hx hb dX6_burn_48 (by decide) (fun c_48 => ?_) (fun c_48 => ?_)
          · have hF := hF.trans (if_pos c_48)
            refine lv_iconst (v := 0) hx hb dX6_burn_58 (by decide) ?_
            exact W.zret (v := (0:Int32)) hx hb hr rfl (fun t ht hW => ⟨⟨(0:Int32), (f_rA, f_rc, f_rk), rfl, hF.symm, by rw [ht]; exact hP, va_K.moved hW.alike hK, hD⟩, hS.F ht⟩) hS.2.2 dX6_burn_59
          · have hF := hF.trans (if_neg c_48)
            refine lv_iload_n hx hb dX6_burn_51 rfl (lv_at hl 3 rfl) ?_
            refine lv_aload hx hb dX6_burn_52 (lv_at hl 0 rfl) ?_
            refine va_alen (v := 1024) hx hb hK hP 5 1 rfl rfl rfl dX6_burn_54 ?_
            refine lv_icmp_lt (tgt := 60) hx hb dX6_burn_55 (by decide) (fun c_55 => ?_) (fun c_55 => ?_)
            · have hF := hF.trans (if_pos c_55)
              refine lv_aload hx hb dX6_burn_60 (lv_at hl 0 rfl) ?_
              refine lv_iload_n hx hb dX6_burn_62 rfl (lv_at hl 3 rfl) ?_
              refine lv_iload_n hx hb dX6_burn_63 rfl (lv_at hl 4 rfl) ?_
              refine va_iast hx hb hK hP hD hS 5 1 rfl rfl (rg_ltt c_48 c_55 (by decide)) dX6_burn_64 (fun H locs hP hD hS => ?_)
              have hP : va_P (dC, dI) vwCl (wwX6 q_bo q_pr q_rg q_bu q_ra q_rA q_rc q_rk q_pi q_po q_co q_wc q_wo q_ic q_ky q_ta q_tb k_ra k_rA k_rc k_rk k_po k_co k_wc k_wo k_ky bo_cyclesInAll pr_stuck pr_waits pr_interruptsBegun pr_kind pr_step pr_code pr_low pr_high pr_changed pr_missing rg_a rg_x rg_y rg_s rg_flags rg_p bu_port bu_latest pi_line pi_cycle pi_control pi_compareLine pi_ground pi_border pi_base pi_flag pi_enabled pi_idle pi_bad pi_glyphLine pi_rowToFetch ic_rows ic_keysSeen ic_flags ic_enabled ta_controlBits ta_control ta_count ta_latch tb_controlBits tb_control tb_count tb_latch f_ra (upd f_rA p2.toNatClampNeg p3) f_rc f_rk f_po f_co f_wc f_wo f_ky) H := hP
              have hD : va_D A (wwX6 q_bo q_pr q_rg q_bu q_ra q_rA q_rc q_rk q_pi q_po q_co q_wc q_wo q_ic q_ky q_ta q_tb k_ra k_rA k_rc k_rk k_po k_co k_wc k_wo k_ky bo_cyclesInAll pr_stuck pr_waits pr_interruptsBegun pr_kind pr_step pr_code pr_low pr_high pr_changed pr_missing rg_a rg_x rg_y rg_s rg_flags rg_p bu_port bu_latest pi_line pi_cycle pi_control pi_compareLine pi_ground pi_border pi_base pi_flag pi_enabled pi_idle pi_bad pi_glyphLine pi_rowToFetch ic_rows ic_keysSeen ic_flags ic_enabled ta_controlBits ta_control ta_count ta_latch tb_controlBits tb_control tb_count tb_latch f_ra (upd f_rA p2.toNatClampNeg p3) f_rc f_rk f_po f_co f_wc f_wo f_ky) := hD
              refine lv_iconst (v := 1) hx hb dX6_burn_65 (by decide) ?_
              exact W.zret (v := (1:Int32)) hx hb hr rfl (fun t ht hW => ⟨⟨(1:Int32), ((upd f_rA p2.toNatClampNeg p3), f_rc, f_rk), rfl, hF.symm, by rw [ht]; exact hP, va_K.moved hW.alike hK, hD⟩, hS.F ht⟩) hS.2.2 dX6_burn_66
            · have hF := hF.trans (if_neg c_55)
              refine lv_iconst (v := 0) hx hb dX6_burn_58 (by decide) ?_
              exact W.zret (v := (0:Int32)) hx hb hr rfl (fun t ht hW => ⟨⟨(0:Int32), (f_rA, f_rc, f_rk), rfl, hF.symm, by rw [ht]; exact hP, va_K.moved hW.alike hK, hD⟩, hS.F ht⟩) hS.2.2 dX6_burn_59
      · have hF := hF.trans (if_pos c_13)
        refine lv_iconst (v := 0) hx hb dX6_burn_16 (by decide) ?_
        exact W.zret (v := (0:Int32)) hx hb hr rfl (fun t ht hW => ⟨⟨(0:Int32), (f_rA, f_rc, f_rk), rfl, hF.symm, by rw [ht]; exact hP, va_K.moved hW.alike hK, hD⟩, hS.F ht⟩) hS.2.2 dX6_burn_17
def fX6_isAddress (p1 : Int32) : Int32 :=
  (if p1 < (0:Int32) then (0:Int32) else (if (8192:Int32) ≤ p1 then (0:Int32) else (1:Int32)))
set_option maxHeartbeats 4000000 in
set_option maxRecDepth 100000 in
theorem mX6_isAddress (l : Launch) (dC : Nat → ClassId) (dI : Nat → Nat → Nat) (sz : Nat) (p1 : Int32) : Met l yX6_isAddress uX6_isAddress ({ frames := 0, cells := 0, slots := 0, locals := 0 }) (va_Pc [.int p1] (fun U => U.heap.size = sz ∧ va_P (dC, dI) vwCl ([] : va_W) U.heap ∧ va_K (dC, dI) vwCl [] U ∧ va_D (fun _ => True) ([] : va_W))) (va_Qi (fun (r : Int32) (u : Unit) => r = fX6_isAddress p1) (fun (u : Unit) (t : State) => va_P (dC, dI) vwCl ([] : va_W) t.heap ∧ va_K (dC, dI) vwCl [] t ∧ va_D (va_A ([] : va_W) sz) ([] : va_W)) (va_A ([] : va_W) sz)) 0 0 (va_A ([] : va_W) sz) := by
  refine Met.ofW (cc := cX6_isAddress) (maxL := 1) (ret := (some .boolean)) (by decide) rfl ?_
  intro p e s m args below meth c s₁ B hml hv
  obtain ⟨rfl, hsz, hP, hK, hD0⟩ := hv
  have hx := B.exec
  have hb := B.bytes
  have hr := B.returns
  have hts : ∀ w ∈ ub, w.before _ s = true := fun w h => atoms_spec (ws := uX6_isAddress) B.pre w (List.mem_cons_of_mem _ h)
  have hown : s.vm.findClass RX6 = some m.cls := findClass_of_methodNamed B.named
  have hlocks := B.notSynchronized
  subst hsz
  have hD := hD0.self (sz := s.heap.size)
  generalize hAe : va_A ([] : va_W) s.heap.size = A at hD ⊢
  have hA : ∀ q : Nat, s.heap.size ≤ q → A q := fun q h => by rw [← hAe]; exact Or.inr h
  have hS : va_S A s.heap s.heap [] := va_S.rf
  have hl := lv_entry ([.int p1]) (n := 1) (Nat.le_of_ble_eq_true rfl)
  rw [lg_entry_eq]
  generalize (lg_sl ([.int p1]) ++ List.replicate (1 - (lg_sl ([.int p1])).length) Slot.unset).toArray = ls at hl ⊢
  have hl : lv_has ls 1 [(0, .int p1)] := hl
  have hF := fX6_isAddress.eq_1 p1
  refine lv_iload_n hx hb dX6_isAddress_0 rfl (lv_at hl 0 rfl) ?_
  refine vj_join (j := 16) (rest := []) (Hyp := fun z H locs => z = (if p1 < (0:Int32) then (0:Int32) else (if (8192:Int32) ≤ p1 then (0:Int32) else (1:Int32))) ∧ va_P (dC, dI) vwCl ([] : va_W) H ∧ va_S A s.heap H locs) (fun z H locs hh => ?_) (fun J16 => ?_)
  · obtain ⟨hz, hP, hS⟩ := hh
    subst hz
    exact W.zret (v := (if p1 < (0:Int32) then (0:Int32) else (if (8192:Int32) ≤ p1 then (0:Int32) else (1:Int32)))) hx hb hr (nb_if rfl (nb_if rfl rfl)) (fun t ht hW => ⟨⟨(if p1 < (0:Int32) then (0:Int32) else (if (8192:Int32) ≤ p1 then (0:Int32) else (1:Int32))), (), rfl, hF.symm, by rw [ht]; exact hP, va_K.moved hW.alike hK, hD⟩, hS.F ht⟩) hS.2.2 dX6_isAddress_16
  · refine lv_if_lt (tgt := 15) hx hb dX6_isAddress_1 (by decide) (fun c_1 => ?_) (fun c_1 => ?_)
    · refine lv_iconst (v := 0) hx hb dX6_isAddress_15 (by decide) ?_
      exact J16 _ _ _ ⟨by rw [if_pos c_1], hP, hS⟩
    · refine lv_iload_n hx hb dX6_isAddress_4 rfl (lv_at hl 0 rfl) ?_
      refine lv_sipush (v := 8192) hx hb dX6_isAddress_5 (by decide) ?_
      refine lv_icmp_ge (tgt := 15) hx hb dX6_isAddress_8 (by decide) (fun c_8 => ?_) (fun c_8 => ?_)
      · refine lv_iconst (v := 0) hx hb dX6_isAddress_15 (by decide) ?_
        exact J16 _ _ _ ⟨by rw [if_neg c_1, if_pos c_8], hP, hS⟩
      · refine lv_iconst (v := 1) hx hb dX6_isAddress_11 (by decide) ?_
        refine lv_goto (tgt := 16) hx hb dX6_isAddress_12 (by decide) ?_
        exact J16 _ _ _ ⟨by rw [if_neg c_1, if_neg c_8], hP, hS⟩
theorem isAddr_in {x : Int32} (h : ¬ fX6_isAddress x = 0) : vp_in x 8192 := by
  unfold fX6_isAddress at h
  by_cases h1 : x < 0
  · rw [if_pos h1] at h; exact absurd rfl h
  · rw [if_neg h1] at h
    by_cases h2 : (8192:Int32) ≤ x
    · rw [if_pos h2] at h; exact absurd rfl h
    · exact rg_lt h1 h2 (by decide)
