def fX7_next (mo_port : Int32) (mo_line : Int32) (mo_raised : Int32) (mo_rows : Int32) (mo_flags2 : Int32) (mo_enabled : Int32) (mo_p : Int32) (mo_accesses : Int32) (f_mra : Nat → Int32) (f_mrA : Nat → Int32) (f_mrc : Nat → Int32) (f_mrk : Nat → Int32) (f_mpi : Nat → Int32) (f_mco : Nat → Int32) (f_mky : Nat → Int32) (f_mcn : Nat → Int32) (f_mct : Nat → Int32) : Int32 × Int32 × Int32 × Int32 × Int32 :=
  match (fX7_read mo_p mo_port mo_line mo_raised mo_rows mo_flags2 mo_enabled mo_accesses f_mra f_mrA f_mrc f_mrk f_mpi f_mco f_mky f_mcn f_mct) with
  | (r_5, mo_flags2_5, mo_latest_5, mo_accesses_5) =>
   (r_5, mo_flags2_5, ((mo_p + (1:Int32)) &&& (65535:Int32)), mo_latest_5, mo_accesses_5)
set_option maxHeartbeats 4000000 in
set_option maxRecDepth 100000 in
theorem mX7_next (l : Launch) (dC : Nat → ClassId) (dI : Nat → Nat → Nat) (q_mo q_mra q_mrA q_mrc q_mrk q_mpi q_mwc q_mwo q_mco q_mpo q_mky q_mla q_mcn q_mct : Nat) (k_mra k_mrA k_mrc k_mrk k_mpi k_mwc k_mwo k_mco k_mpo k_mky k_mla k_mcn k_mct : ClassId) (sz : Nat) (mo_port mo_line mo_cycle mo_raised mo_idle mo_bad mo_glyph mo_fetched mo_rows mo_flags2 mo_enabled mo_a mo_x mo_y mo_s mo_flags mo_p mo_jammed mo_code mo_step mo_low mo_high mo_old mo_latest mo_cycles mo_stolen mo_interrupts mo_accesses : Int32) (f_mra f_mrA f_mrc f_mrk f_mpi f_mwc f_mwo f_mco f_mpo f_mky f_mla f_mcn f_mct : Nat → Int32) (hp : vp_in mo_p 65536) : Met l yX7_next uX7_next ({ frames := 4, cells := 0, slots := 0, locals := 89 }) (va_Pc [.ref q_mo] (fun U => U.heap.size = sz ∧ va_P (dC, dI) vwCl (wwX7 q_mo q_mra q_mrA q_mrc q_mrk q_mpi q_mwc q_mwo q_mco q_mpo q_mky q_mla q_mcn q_mct k_mra k_mrA k_mrc k_mrk k_mpi k_mwc k_mwo k_mco k_mpo k_mky k_mla k_mcn k_mct mo_port mo_line mo_cycle mo_raised mo_idle mo_bad mo_glyph mo_fetched mo_rows mo_flags2 mo_enabled mo_a mo_x mo_y mo_s mo_flags mo_p mo_jammed mo_code mo_step mo_low mo_high mo_old mo_latest mo_cycles mo_stolen mo_interrupts mo_accesses f_mra f_mrA f_mrc f_mrk f_mpi f_mwc f_mwo f_mco f_mpo f_mky f_mla f_mcn f_mct) U.heap ∧ va_K (dC, dI) vwCl [(k_mra, .int), (k_mrA, .int), (k_mrc, .int), (k_mrk, .int), (k_mpi, .int), (k_mwc, .int), (k_mwo, .int), (k_mco, .int), (k_mpo, .int), (k_mky, .int), (k_mla, .int), (k_mcn, .int), (k_mct, .int)] U ∧ va_D (fun _ => True) (wwX7 q_mo q_mra q_mrA q_mrc q_mrk q_mpi q_mwc q_mwo q_mco q_mpo q_mky q_mla q_mcn q_mct k_mra k_mrA k_mrc k_mrk k_mpi k_mwc k_mwo k_mco k_mpo k_mky k_mla k_mcn k_mct mo_port mo_line mo_cycle mo_raised mo_idle mo_bad mo_glyph mo_fetched mo_rows mo_flags2 mo_enabled mo_a mo_x mo_y mo_s mo_flags mo_p mo_jammed mo_code mo_step mo_low mo_high mo_old mo_latest mo_cycles mo_stolen mo_interrupts mo_accesses f_mra f_mrA f_mrc f_mrk f_mpi f_mwc f_mwo f_mco f_mpo f_mky f_mla f_mcn f_mct))) (va_Qi (fun (r : Int32) (u : Int32 × Int32 × Int32 × Int32) => (r, u) = fX7_next mo_port mo_line mo_raised mo_rows mo_flags2 mo_enabled mo_p mo_accesses f_mra f_mrA f_mrc f_mrk f_mpi f_mco f_mky f_mcn f_mct) (fun (u : Int32 × Int32 × Int32 × Int32) (t : State) => va_P (dC, dI) vwCl (wwX7 q_mo q_mra q_mrA q_mrc q_mrk q_mpi q_mwc q_mwo q_mco q_mpo q_mky q_mla q_mcn q_mct k_mra k_mrA k_mrc k_mrk k_mpi k_mwc k_mwo k_mco k_mpo k_mky k_mla k_mcn k_mct mo_port mo_line mo_cycle mo_raised mo_idle mo_bad mo_glyph mo_fetched mo_rows u.1 mo_enabled mo_a mo_x mo_y mo_s mo_flags u.2.1 mo_jammed mo_code mo_step mo_low mo_high mo_old u.2.2.1 mo_cycles mo_stolen mo_interrupts u.2.2.2 f_mra f_mrA f_mrc f_mrk f_mpi f_mwc f_mwo f_mco f_mpo f_mky f_mla f_mcn f_mct) t.heap ∧ va_K (dC, dI) vwCl [(k_mra, .int), (k_mrA, .int), (k_mrc, .int), (k_mrk, .int), (k_mpi, .int), (k_mwc, .int), (k_mwo, .int), (k_mco, .int), (k_mpo, .int), (k_mky, .int), (k_mla, .int), (k_mcn, .int), (k_mct, .int)] t ∧ va_D (va_A (wwX7 q_mo q_mra q_mrA q_mrc q_mrk q_mpi q_mwc q_mwo q_mco q_mpo q_mky q_mla q_mcn q_mct k_mra k_mrA k_mrc k_mrk k_mpi k_mwc k_mwo k_mco k_mpo k_mky k_mla k_mcn k_mct mo_port mo_line mo_cycle mo_raised mo_idle mo_bad mo_glyph mo_fetched mo_rows mo_flags2 mo_enabled mo_a mo_x mo_y mo_s mo_flags mo_p mo_jammed mo_code mo_step mo_low mo_high mo_old mo_latest mo_cycles mo_stolen mo_interrupts mo_accesses f_mra f_mrA f_mrc f_mrk f_mpi f_mwc f_mwo f_mco f_mpo f_mky f_mla f_mcn f_mct) sz) (wwX7 q_mo q_mra q_mrA q_mrc q_mrk q_mpi q_mwc q_mwo q_mco q_mpo q_mky q_mla q_mcn q_mct k_mra k_mrA k_mrc k_mrk k_mpi k_mwc k_mwo k_mco k_mpo k_mky k_mla k_mcn k_mct mo_port mo_line mo_cycle mo_raised mo_idle mo_bad mo_glyph mo_fetched mo_rows u.1 mo_enabled mo_a mo_x mo_y mo_s mo_flags u.2.1 mo_jammed mo_code mo_step mo_low mo_high mo_old u.2.2.1 mo_cycles mo_stolen mo_interrupts u.2.2.2 f_mra f_mrA f_mrc f_mrk f_mpi f_mwc f_mwo f_mco f_mpo f_mky f_mla f_mcn f_mct)) (va_A (wwX7 q_mo q_mra q_mrA q_mrc q_mrk q_mpi q_mwc q_mwo q_mco q_mpo q_mky q_mla q_mcn q_mct k_mra k_mrA k_mrc k_mrk k_mpi k_mwc k_mwo k_mco k_mpo k_mky k_mla k_mcn k_mct mo_port mo_line mo_cycle mo_raised mo_idle mo_bad mo_glyph mo_fetched mo_rows mo_flags2 mo_enabled mo_a mo_x mo_y mo_s mo_flags mo_p mo_jammed mo_code mo_step mo_low mo_high mo_old mo_latest mo_cycles mo_stolen mo_interrupts mo_accesses f_mra f_mrA f_mrc f_mrk f_mpi f_mwc f_mwo f_mco f_mpo f_mky f_mla f_mcn f_mct) sz)) 0 0 (va_A (wwX7 q_mo q_mra q_mrA q_mrc q_mrk q_mpi q_mwc q_mwo q_mco q_mpo q_mky q_mla q_mcn q_mct k_mra k_mrA k_mrc k_mrk k_mpi k_mwc k_mwo k_mco k_mpo k_mky k_mla k_mcn k_mct mo_port mo_line mo_cycle mo_raised mo_idle mo_bad mo_glyph mo_fetched mo_rows mo_flags2 mo_enabled mo_a mo_x mo_y mo_s mo_flags mo_p mo_jammed mo_code mo_step mo_low mo_high mo_old mo_latest mo_cycles mo_stolen mo_interrupts mo_accesses f_mra f_mrA f_mrc f_mrk f_mpi f_mwc f_mwo f_mco f_mpo f_mky f_mla f_mcn f_mct) sz) := by
  refine Met.ofW (cc := cX7_next) (maxL := 2) (ret := (some .int)) (by decide) rfl ?_
  intro p e s m args below meth c s₁ B hml hv
  obtain ⟨rfl, hsz, hP, hK, hD0⟩ := hv
  have hx := B.exec
  have hb := B.bytes
  have hr := B.returns
  have hts : ∀ w ∈ ub, w.before _ s = true := fun w h => atoms_spec (ws := uX7_next) B.pre w (List.mem_cons_of_mem _ h)
  have hown : s.vm.findClass RX7 = some m.cls := findClass_of_methodNamed B.named
  have hlocks := B.notSynchronized
  subst hsz
  have hD := hD0.self (sz := s.heap.size)
  generalize hAe : va_A (wwX7 q_mo q_mra q_mrA q_mrc q_mrk q_mpi q_mwc q_mwo q_mco q_mpo q_mky q_mla q_mcn q_mct k_mra k_mrA k_mrc k_mrk k_mpi k_mwc k_mwo k_mco k_mpo k_mky k_mla k_mcn k_mct mo_port mo_line mo_cycle mo_raised mo_idle mo_bad mo_glyph mo_fetched mo_rows mo_flags2 mo_enabled mo_a mo_x mo_y mo_s mo_flags mo_p mo_jammed mo_code mo_step mo_low mo_high mo_old mo_latest mo_cycles mo_stolen mo_interrupts mo_accesses f_mra f_mrA f_mrc f_mrk f_mpi f_mwc f_mwo f_mco f_mpo f_mky f_mla f_mcn f_mct) s.heap.size = A at hD ⊢
  have hA : ∀ q : Nat, s.heap.size ≤ q → A q := fun q h => by rw [← hAe]; exact Or.inr h
  have hS : va_S A s.heap s.heap [] := va_S.rf
  have hl := lv_entry ([.ref q_mo]) (n := 2) (Nat.le_of_ble_eq_true rfl)
  rw [lg_entry_eq]
  generalize (lg_sl ([.ref q_mo]) ++ List.replicate (2 - (lg_sl ([.ref q_mo])).length) Slot.unset).toArray = ls at hl ⊢
  have hl : lv_has ls 2 [(0, .ref q_mo)] := hl
  have hF := fX7_next.eq_1 mo_port mo_line mo_raised mo_rows mo_flags2 mo_enabled mo_p mo_accesses f_mra f_mrA f_mrc f_mrk f_mpi f_mco f_mky f_mcn f_mct
  refine lv_aload_n hx hb dX7_next_0 rfl (lv_at hl 0 rfl) ?_
  refine lv_aload_n hx hb dX7_next_1 rfl (lv_at hl 0 rfl) ?_
  refine va_get (D := (dC, dI)) (ci := 7) (v := .int mo_p) (C := RX7) (T := TX7) (N := 41) hx hb hts hiX7 hown hK hP 0 rfl rfl 29 (by decide) (hts _ kFX7_145) (fun _ h9 => h9) rfl dX7_next_2 ?_
  have hPc := hP.sub (ws' := (wwX7 q_mo q_mra q_mrA q_mrc q_mrk q_mpi q_mwc q_mwo q_mco q_mpo q_mky q_mla q_mcn q_mct k_mra k_mrA k_mrc k_mrk k_mpi k_mwc k_mwo k_mco k_mpo k_mky k_mla k_mcn k_mct mo_port mo_line mo_cycle mo_raised mo_idle mo_bad mo_glyph mo_fetched mo_rows mo_flags2 mo_enabled mo_a mo_x mo_y mo_s mo_flags mo_p mo_jammed mo_code mo_step mo_low mo_high mo_old mo_latest mo_cycles mo_stolen mo_interrupts mo_accesses f_mra f_mrA f_mrc f_mrk f_mpi f_mwc f_mwo f_mco f_mpo f_mky f_mla f_mcn f_mct)) [0, 1, 2, 3, 4, 5, 6, 7, 8, 9, 10, 11, 12, 13] rfl
  have hDc := hD.sub (ws' := (wwX7 q_mo q_mra q_mrA q_mrc q_mrk q_mpi q_mwc q_mwo q_mco q_mpo q_mky q_mla q_mcn q_mct k_mra k_mrA k_mrc k_mrk k_mpi k_mwc k_mwo k_mco k_mpo k_mky k_mla k_mcn k_mct mo_port mo_line mo_cycle mo_raised mo_idle mo_bad mo_glyph mo_fetched mo_rows mo_flags2 mo_enabled mo_a mo_x mo_y mo_s mo_flags mo_p mo_jammed mo_code mo_step mo_low mo_high mo_old mo_latest mo_cycles mo_stolen mo_interrupts mo_accesses f_mra f_mrA f_mrc f_mrk f_mpi f_mwc f_mwo f_mco f_mpo f_mky f_mla f_mcn f_mct)) [0, 1, 2, 3, 4, 5, 6, 7, 8, 9, 10, 11, 12, 13] (by decide) rfl
  have hKc := hK.sub (tys' := [(k_mra, .int), (k_mrA, .int), (k_mrc, .int), (k_mrk, .int), (k_mpi, .int), (k_mwc, .int), (k_mwo, .int), (k_mco, .int), (k_mpo, .int), (k_mky, .int), (k_mla, .int), (k_mcn, .int), (k_mct, .int)]) [0, 1, 2, 3, 4, 5, 6, 7, 8, 9, 10, 11, 12] rfl
  have hFc := va_free (wc := (wwX7 q_mo q_mra q_mrA q_mrc q_mrk q_mpi q_mwc q_mwo q_mco q_mpo q_mky q_mla q_mcn q_mct k_mra k_mrA k_mrc k_mrk k_mpi k_mwc k_mwo k_mco k_mpo k_mky k_mla k_mcn k_mct mo_port mo_line mo_cycle mo_raised mo_idle mo_bad mo_glyph mo_fetched mo_rows mo_flags2 mo_enabled mo_a mo_x mo_y mo_s mo_flags mo_p mo_jammed mo_code mo_step mo_low mo_high mo_old mo_latest mo_cycles mo_stolen mo_interrupts mo_accesses f_mra f_mrA f_mrc f_mrk f_mpi f_mwc f_mwo f_mco f_mpo f_mky f_mla f_mcn f_mct)) hD hS hA [0, 1, 2, 3, 4, 5, 6, 7, 8, 9, 10, 11, 12, 13] rfl
  refine va_calli (va_runV (As := [.int mo_p]) (rest := []) ⟨hx, hb, hml, hown, hts⟩ (mX7_read l dC dI q_mo q_mra q_mrA q_mrc q_mrk q_mpi q_mwc q_mwo q_mco q_mpo q_mky q_mla q_mcn q_mct k_mra k_mrA k_mrc k_mrk k_mpi k_mwc k_mwo k_mco k_mpo k_mky k_mla k_mcn k_mct s.heap.size mo_port mo_line mo_cycle mo_raised mo_idle mo_bad mo_glyph mo_fetched mo_rows mo_flags2 mo_enabled mo_a mo_x mo_y mo_s mo_flags mo_p mo_jammed mo_code mo_step mo_low mo_high mo_old mo_latest mo_cycles mo_stolen mo_interrupts mo_accesses f_mra f_mrA f_mrc f_mrk f_mpi f_mwc f_mwo f_mco f_mpo f_mky f_mla f_mcn f_mct mo_p (rg_nn hp)) (cwV 1 hts (ub_V kMX7_161 kYX7_read kSX7_read kIX7 kBX7_read) rfl rfl rfl (by decide +kernel) ⟨Nat.le_of_ble_eq_true rfl, Nat.le_of_ble_eq_true rfl⟩) ⟨fun a U g mk q => by obtain ⟨q0, q1, qP, qK, qD⟩ := q; exact ⟨q0, q1, qP, va_K.moved (u := U) (U := U.calling g mk a) (Vm.Alike.refl U.vm) qK, qD⟩, va_recv hKc hPc (ci := 7) (q0 := 0) rfl rfl, fun U hU hW => ⟨rfl, by rw [hU], by rw [hU]; exact hPc, va_K.moved hW.alike hKc, hDc.weaken (fun _ _ _ _ => trivial)⟩⟩ rfl rfl hl.1 rfl (lv_room (Nat.le_of_ble_eq_true rfl)) dX7_next_5 ⟨(Nat.zero_le _), (Nat.zero_le _)⟩) hS (fun q _ h => hFc q h) hFc (fun r_5 u_5 t H locs ht hvm hw hB hz1 hk1 hS => ?_)
  obtain ⟨mo_flags2_5, mo_latest_5, mo_accesses_5⟩ := u_5
  obtain ⟨hP1, hK1, hD1⟩ := hB
  rw [ht] at hP1
  obtain ⟨hP, hD⟩ := vb_bk2 (wc := (wwX7 q_mo q_mra q_mrA q_mrc q_mrk q_mpi q_mwc q_mwo q_mco q_mpo q_mky q_mla q_mcn q_mct k_mra k_mrA k_mrc k_mrk k_mpi k_mwc k_mwo k_mco k_mpo k_mky k_mla k_mcn k_mct mo_port mo_line mo_cycle mo_raised mo_idle mo_bad mo_glyph mo_fetched mo_rows mo_flags2 mo_enabled mo_a mo_x mo_y mo_s mo_flags mo_p mo_jammed mo_code mo_step mo_low mo_high mo_old mo_latest mo_cycles mo_stolen mo_interrupts mo_accesses f_mra f_mrA f_mrc f_mrk f_mpi f_mwc f_mwo f_mco f_mpo f_mky f_mla f_mcn f_mct)) (ws' := (wwX7 q_mo q_mra q_mrA q_mrc q_mrk q_mpi q_mwc q_mwo q_mco q_mpo q_mky q_mla q_mcn q_mct k_mra k_mrA k_mrc k_mrk k_mpi k_mwc k_mwo k_mco k_mpo k_mky k_mla k_mcn k_mct mo_port mo_line mo_cycle mo_raised mo_idle mo_bad mo_glyph mo_fetched mo_rows mo_flags2_5 mo_enabled mo_a mo_x mo_y mo_s mo_flags mo_p mo_jammed mo_code mo_step mo_low mo_high mo_old mo_latest_5 mo_cycles mo_stolen mo_interrupts mo_accesses_5 f_mra f_mrA f_mrc f_mrk f_mpi f_mwc f_mwo f_mco f_mpo f_mky f_mla f_mcn f_mct)) hP hD hD1 [0, 1, 2, 3, 4, 5, 6, 7, 8, 9, 10, 11, 12, 13] [] rfl [q_mo, q_mra, q_mrA, q_mrc, q_mrk, q_mpi, q_mwc, q_mwo, q_mco, q_mpo, q_mky, q_mla, q_mcn, q_mct] rfl rfl ae_n rfl rfl hk1 hP1
  rw [← hw] at hF
  dsimp only at hF
  refine lv_istore_n (lv' := [(1, .int r_5), (0, .ref q_mo)]) hx hb dX7_next_8 rfl hl (by decide) rfl (fun ls hl => ?_)
  refine lv_aload_n hx hb dX7_next_9 rfl (lv_at hl 1 rfl) ?_
  refine lv_aload_n hx hb dX7_next_10 rfl (lv_at hl 1 rfl) ?_
  refine va_get (D := (dC, dI)) (ci := 7) (v := .int mo_p) (C := RX7) (T := TX7) (N := 41) hx hb hts hiX7 hown hK hP 0 rfl rfl 29 (by decide) (hts _ kFX7_145) (fun _ h9 => h9) rfl dX7_next_11 ?_
  refine lv_iconst (v := 1) hx hb dX7_next_14 (by decide) ?_
  refine lv_iadd hx hb dX7_next_15 ?_
  refine lv_ldc (v := 65535) hx hb hown (hts _ kKX7_69) dX7_next_16 ?_
  refine lv_iand hx hb dX7_next_18 ?_
  refine va_put (D := (dC, dI)) (ci := 7) (v := .int ((mo_p + (1:Int32)) &&& (65535:Int32))) (ty := .int) (C := RX7) (T := TX7) (N := 41) hx hb hts hiX7 tyX7 tyX7_ok nmX7 hown hK hP hD hS 0 rfl rfl 29 (by decide) (hts _ kFX7_145) (fun _ h9 => h9) rfl (by decide +kernel) rfl rfl (Nat.le_of_ble_eq_true rfl) dX7_next_19 (fun H locs hP hD hS => ?_)
  have hP : va_P (dC, dI) vwCl (wwX7 q_mo q_mra q_mrA q_mrc q_mrk q_mpi q_mwc q_mwo q_mco q_mpo q_mky q_mla q_mcn q_mct k_mra k_mrA k_mrc k_mrk k_mpi k_mwc k_mwo k_mco k_mpo k_mky k_mla k_mcn k_mct mo_port mo_line mo_cycle mo_raised mo_idle mo_bad mo_glyph mo_fetched mo_rows mo_flags2_5 mo_enabled mo_a mo_x mo_y mo_s mo_flags ((mo_p + (1:Int32)) &&& (65535:Int32)) mo_jammed mo_code mo_step mo_low mo_high mo_old mo_latest_5 mo_cycles mo_stolen mo_interrupts mo_accesses_5 f_mra f_mrA f_mrc f_mrk f_mpi f_mwc f_mwo f_mco f_mpo f_mky f_mla f_mcn f_mct) H := hP
  have hD : va_D A (wwX7 q_mo q_mra q_mrA q_mrc q_mrk q_mpi q_mwc q_mwo q_mco q_mpo q_mky q_mla q_mcn q_mct k_mra k_mrA k_mrc k_mrk k_mpi k_mwc k_mwo k_mco k_mpo k_mky k_mla k_mcn k_mct mo_port mo_line mo_cycle mo_raised mo_idle mo_bad mo_glyph mo_fetched mo_rows mo_flags2_5 mo_enabled mo_a mo_x mo_y mo_s mo_flags ((mo_p + (1:Int32)) &&& (65535:Int32)) mo_jammed mo_code mo_step mo_low mo_high mo_old mo_latest_5 mo_cycles mo_stolen mo_interrupts mo_accesses_5 f_mra f_mrA f_mrc f_mrk f_mpi f_mwc f_mwo f_mco f_mpo f_mky f_mla f_mcn f_mct) := hD
  refine lv_iload_n hx hb dX7_next_22 rfl (lv_at hl 0 rfl) ?_
  exact W.iret (v := r_5) hx hb hr (fun t ht hW => ⟨⟨r_5, (mo_flags2_5, ((mo_p + (1:Int32)) &&& (65535:Int32)), mo_latest_5, mo_accesses_5), rfl, hF.symm, by rw [ht]; exact hP, va_K.moved hW.alike hK, hD⟩, hS.F ht⟩) hS.2.2 dX7_next_23
def fX7_push (p1 : Int32) (mo_port : Int32) (mo_raised : Int32) (mo_rows : Int32) (mo_enabled : Int32) (mo_s : Int32) (mo_accesses : Int32) (f_mra : Nat → Int32) (f_mpi : Nat → Int32) (f_mco : Nat → Int32) (f_mla : Nat → Int32) (f_mcn : Nat → Int32) (f_mct : Nat → Int32) : Int32 × Int32 × Int32 × Int32 × Int32 × Int32 × Int32 × (Nat → Int32) × (Nat → Int32) × (Nat → Int32) × (Nat → Int32) × (Nat → Int32) × (Nat → Int32) :=
  match (fX7_write ((256:Int32) + mo_s) p1 mo_port mo_raised mo_rows mo_enabled mo_accesses f_mra f_mpi f_mco f_mla f_mcn f_mct) with
  | (mo_port_10, mo_raised_10, mo_rows_10, mo_enabled_10, mo_latest_10, mo_accesses_10, f_mra_10, f_mpi_10, f_mco_10, f_mla_10, f_mcn_10, f_mct_10) =>
   (mo_port_10, mo_raised_10, mo_rows_10, mo_enabled_10, ((mo_s + (255:Int32)) &&& (255:Int32)), mo_latest_10, mo_accesses_10, f_mra_10, f_mpi_10, f_mco_10, f_mla_10, f_mcn_10, f_mct_10)
set_option maxHeartbeats 4000000 in
set_option maxRecDepth 100000 in
theorem mX7_push (l : Launch) (dC : Nat → ClassId) (dI : Nat → Nat → Nat) (q_mo q_mra q_mrA q_mrc q_mrk q_mpi q_mwc q_mwo q_mco q_mpo q_mky q_mla q_mcn q_mct : Nat) (k_mra k_mrA k_mrc k_mrk k_mpi k_mwc k_mwo k_mco k_mpo k_mky k_mla k_mcn k_mct : ClassId) (sz : Nat) (mo_port mo_line mo_cycle mo_raised mo_idle mo_bad mo_glyph mo_fetched mo_rows mo_flags2 mo_enabled mo_a mo_x mo_y mo_s mo_flags mo_p mo_jammed mo_code mo_step mo_low mo_high mo_old mo_latest mo_cycles mo_stolen mo_interrupts mo_accesses : Int32) (f_mra f_mrA f_mrc f_mrk f_mpi f_mwc f_mwo f_mco f_mpo f_mky f_mla f_mcn f_mct : Nat → Int32) (p1 : Int32) (hs_ : vp_in mo_s 256) : Met l yX7_push uX7_push ({ frames := 2, cells := 0, slots := 0, locals := 47 }) (va_Pc [.ref q_mo, .int p1] (fun U => U.heap.size = sz ∧ va_P (dC, dI) vwCl (wwX7 q_mo q_mra q_mrA q_mrc q_mrk q_mpi q_mwc q_mwo q_mco q_mpo q_mky q_mla q_mcn q_mct k_mra k_mrA k_mrc k_mrk k_mpi k_mwc k_mwo k_mco k_mpo k_mky k_mla k_mcn k_mct mo_port mo_line mo_cycle mo_raised mo_idle mo_bad mo_glyph mo_fetched mo_rows mo_flags2 mo_enabled mo_a mo_x mo_y mo_s mo_flags mo_p mo_jammed mo_code mo_step mo_low mo_high mo_old mo_latest mo_cycles mo_stolen mo_interrupts mo_accesses f_mra f_mrA f_mrc f_mrk f_mpi f_mwc f_mwo f_mco f_mpo f_mky f_mla f_mcn f_mct) U.heap ∧ va_K (dC, dI) vwCl [(k_mra, .int), (k_mrA, .int), (k_mrc, .int), (k_mrk, .int), (k_mpi, .int), (k_mwc, .int), (k_mwo, .int), (k_mco, .int), (k_mpo, .int), (k_mky, .int), (k_mla, .int), (k_mcn, .int), (k_mct, .int)] U ∧ va_D (fun _ => True) (wwX7 q_mo q_mra q_mrA q_mrc q_mrk q_mpi q_mwc q_mwo q_mco q_mpo q_mky q_mla q_mcn q_mct k_mra k_mrA k_mrc k_mrk k_mpi k_mwc k_mwo k_mco k_mpo k_mky k_mla k_mcn k_mct mo_port mo_line mo_cycle mo_raised mo_idle mo_bad mo_glyph mo_fetched mo_rows mo_flags2 mo_enabled mo_a mo_x mo_y mo_s mo_flags mo_p mo_jammed mo_code mo_step mo_low mo_high mo_old mo_latest mo_cycles mo_stolen mo_interrupts mo_accesses f_mra f_mrA f_mrc f_mrk f_mpi f_mwc f_mwo f_mco f_mpo f_mky f_mla f_mcn f_mct))) (va_Qv (fun (u : Int32 × Int32 × Int32 × Int32 × Int32 × Int32 × Int32 × (Nat → Int32) × (Nat → Int32) × (Nat → Int32) × (Nat → Int32) × (Nat → Int32) × (Nat → Int32)) => u = fX7_push p1 mo_port mo_raised mo_rows mo_enabled mo_s mo_accesses f_mra f_mpi f_mco f_mla f_mcn f_mct) (fun (u : Int32 × Int32 × Int32 × Int32 × Int32 × Int32 × Int32 × (Nat → Int32) × (Nat → Int32) × (Nat → Int32) × (Nat → Int32) × (Nat → Int32) × (Nat → Int32)) (t : State) => va_P (dC, dI) vwCl (wwX7 q_mo q_mra q_mrA q_mrc q_mrk q_mpi q_mwc q_mwo q_mco q_mpo q_mky q_mla q_mcn q_mct k_mra k_mrA k_mrc k_mrk k_mpi k_mwc k_mwo k_mco k_mpo k_mky k_mla k_mcn k_mct u.1 mo_line mo_cycle u.2.1 mo_idle mo_bad mo_glyph mo_fetched u.2.2.1 mo_flags2 u.2.2.2.1 mo_a mo_x mo_y u.2.2.2.2.1 mo_flags mo_p mo_jammed mo_code mo_step mo_low mo_high mo_old u.2.2.2.2.2.1 mo_cycles mo_stolen mo_interrupts u.2.2.2.2.2.2.1 u.2.2.2.2.2.2.2.1 f_mrA f_mrc f_mrk u.2.2.2.2.2.2.2.2.1 f_mwc f_mwo u.2.2.2.2.2.2.2.2.2.1 f_mpo f_mky u.2.2.2.2.2.2.2.2.2.2.1 u.2.2.2.2.2.2.2.2.2.2.2.1 u.2.2.2.2.2.2.2.2.2.2.2.2) t.heap ∧ va_K (dC, dI) vwCl [(k_mra, .int), (k_mrA, .int), (k_mrc, .int), (k_mrk, .int), (k_mpi, .int), (k_mwc, .int), (k_mwo, .int), (k_mco, .int), (k_mpo, .int), (k_mky, .int), (k_mla, .int), (k_mcn, .int), (k_mct, .int)] t ∧ va_D (va_A (wwX7 q_mo q_mra q_mrA q_mrc q_mrk q_mpi q_mwc q_mwo q_mco q_mpo q_mky q_mla q_mcn q_mct k_mra k_mrA k_mrc k_mrk k_mpi k_mwc k_mwo k_mco k_mpo k_mky k_mla k_mcn k_mct mo_port mo_line mo_cycle mo_raised mo_idle mo_bad mo_glyph mo_fetched mo_rows mo_flags2 mo_enabled mo_a mo_x mo_y mo_s mo_flags mo_p mo_jammed mo_code mo_step mo_low mo_high mo_old mo_latest mo_cycles mo_stolen mo_interrupts mo_accesses f_mra f_mrA f_mrc f_mrk f_mpi f_mwc f_mwo f_mco f_mpo f_mky f_mla f_mcn f_mct) sz) (wwX7 q_mo q_mra q_mrA q_mrc q_mrk q_mpi q_mwc q_mwo q_mco q_mpo q_mky q_mla q_mcn q_mct k_mra k_mrA k_mrc k_mrk k_mpi k_mwc k_mwo k_mco k_mpo k_mky k_mla k_mcn k_mct u.1 mo_line mo_cycle u.2.1 mo_idle mo_bad mo_glyph mo_fetched u.2.2.1 mo_flags2 u.2.2.2.1 mo_a mo_x mo_y u.2.2.2.2.1 mo_flags mo_p mo_jammed mo_code mo_step mo_low mo_high mo_old u.2.2.2.2.2.1 mo_cycles mo_stolen mo_interrupts u.2.2.2.2.2.2.1 u.2.2.2.2.2.2.2.1 f_mrA f_mrc f_mrk u.2.2.2.2.2.2.2.2.1 f_mwc f_mwo u.2.2.2.2.2.2.2.2.2.1 f_mpo f_mky u.2.2.2.2.2.2.2.2.2.2.1 u.2.2.2.2.2.2.2.2.2.2.2.1 u.2.2.2.2.2.2.2.2.2.2.2.2)) (va_A (wwX7 q_mo q_mra q_mrA q_mrc q_mrk q_mpi q_mwc q_mwo q_mco q_mpo q_mky q_mla q_mcn q_mct k_mra k_mrA k_mrc k_mrk k_mpi k_mwc k_mwo k_mco k_mpo k_mky k_mla k_mcn k_mct mo_port mo_line mo_cycle mo_raised mo_idle mo_bad mo_glyph mo_fetched mo_rows mo_flags2 mo_enabled mo_a mo_x mo_y mo_s mo_flags mo_p mo_jammed mo_code mo_step mo_low mo_high mo_old mo_latest mo_cycles mo_stolen mo_interrupts mo_accesses f_mra f_mrA f_mrc f_mrk f_mpi f_mwc f_mwo f_mco f_mpo f_mky f_mla f_mcn f_mct) sz)) 0 0 (va_A (wwX7 q_mo q_mra q_mrA q_mrc q_mrk q_mpi q_mwc q_mwo q_mco q_mpo q_mky q_mla q_mcn q_mct k_mra k_mrA k_mrc k_mrk k_mpi k_mwc k_mwo k_mco k_mpo k_mky k_mla k_mcn k_mct mo_port mo_line mo_cycle mo_raised mo_idle mo_bad mo_glyph mo_fetched mo_rows mo_flags2 mo_enabled mo_a mo_x mo_y mo_s mo_flags mo_p mo_jammed mo_code mo_step mo_low mo_high mo_old mo_latest mo_cycles mo_stolen mo_interrupts mo_accesses f_mra f_mrA f_mrc f_mrk f_mpi f_mwc f_mwo f_mco f_mpo f_mky f_mla f_mcn f_mct) sz) := by
  refine Met.ofW (cc := cX7_push) (maxL := 2) (ret := none) (by decide) rfl ?_
  intro p e s m args below meth c s₁ B hml hv
  obtain ⟨rfl, hsz, hP, hK, hD0⟩ := hv
  have hx := B.exec
  have hb := B.bytes
  have hr := B.returns
  have hts : ∀ w ∈ ub, w.before _ s = true := fun w h => atoms_spec (ws := uX7_push) B.pre w (List.mem_cons_of_mem _ h)
  have hown : s.vm.findClass RX7 = some m.cls := findClass_of_methodNamed B.named
  have hlocks := B.notSynchronized
  subst hsz
  have hD := hD0.self (sz := s.heap.size)
  generalize hAe : va_A (wwX7 q_mo q_mra q_mrA q_mrc q_mrk q_mpi q_mwc q_mwo q_mco q_mpo q_mky q_mla q_mcn q_mct k_mra k_mrA k_mrc k_mrk k_mpi k_mwc k_mwo k_mco k_mpo k_mky k_mla k_mcn k_mct mo_port mo_line mo_cycle mo_raised mo_idle mo_bad mo_glyph mo_fetched mo_rows mo_flags2 mo_enabled mo_a mo_x mo_y mo_s mo_flags mo_p mo_jammed mo_code mo_step mo_low mo_high mo_old mo_latest mo_cycles mo_stolen mo_interrupts mo_accesses f_mra f_mrA f_mrc f_mrk f_mpi f_mwc f_mwo f_mco f_mpo f_mky f_mla f_mcn f_mct) s.heap.size = A at hD ⊢
  have hA : ∀ q : Nat, s.heap.size ≤ q → A q := fun q h => by rw [← hAe]; exact Or.inr h
  have hS : va_S A s.heap s.heap [] := va_S.rf
  have hl := lv_entry ([.ref q_mo, .int p1]) (n := 2) (Nat.le_of_ble_eq_true rfl)
  rw [lg_entry_eq]
  generalize (lg_sl ([.ref q_mo, .int p1]) ++ List.replicate (2 - (lg_sl ([.ref q_mo, .int p1])).length) Slot.unset).toArray = ls at hl ⊢
  have hl : lv_has ls 2 [(0, .ref q_mo), (1, .int p1)] := hl
  have hF := fX7_push.eq_1 p1 mo_port mo_raised mo_rows mo_enabled mo_s mo_accesses f_mra f_mpi f_mco f_mla f_mcn f_mct
  refine lv_aload_n hx hb dX7_push_0 rfl (lv_at hl 0 rfl) ?_
  refine lv_sipush (v := 256) hx hb dX7_push_1 (by decide) ?_
  refine lv_aload_n hx hb dX7_push_4 rfl (lv_at hl 0 rfl) ?_
  refine va_get (D := (dC, dI)) (ci := 7) (v := .int mo_s) (C := RX7) (T := TX7) (N := 41) hx hb hts hiX7 hown hK hP 0 rfl rfl 27 (by decide) (hts _ kFX7_57) (fun _ h9 => h9) rfl dX7_push_5 ?_
  refine lv_iadd hx hb dX7_push_8 ?_
  refine lv_iload_n hx hb dX7_push_9 rfl (lv_at hl 1 rfl) ?_
  have hPc := hP.sub (ws' := (wwX7 q_mo q_mra q_mrA q_mrc q_mrk q_mpi q_mwc q_mwo q_mco q_mpo q_mky q_mla q_mcn q_mct k_mra k_mrA k_mrc k_mrk k_mpi k_mwc k_mwo k_mco k_mpo k_mky k_mla k_mcn k_mct mo_port mo_line mo_cycle mo_raised mo_idle mo_bad mo_glyph mo_fetched mo_rows mo_flags2 mo_enabled mo_a mo_x mo_y mo_s mo_flags mo_p mo_jammed mo_code mo_step mo_low mo_high mo_old mo_latest mo_cycles mo_stolen mo_interrupts mo_accesses f_mra f_mrA f_mrc f_mrk f_mpi f_mwc f_mwo f_mco f_mpo f_mky f_mla f_mcn f_mct)) [0, 1, 2, 3, 4, 5, 6, 7, 8, 9, 10, 11, 12, 13] rfl
  have hDc := hD.sub (ws' := (wwX7 q_mo q_mra q_mrA q_mrc q_mrk q_mpi q_mwc q_mwo q_mco q_mpo q_mky q_mla q_mcn q_mct k_mra k_mrA k_mrc k_mrk k_mpi k_mwc k_mwo k_mco k_mpo k_mky k_mla k_mcn k_mct mo_port mo_line mo_cycle mo_raised mo_idle mo_bad mo_glyph mo_fetched mo_rows mo_flags2 mo_enabled mo_a mo_x mo_y mo_s mo_flags mo_p mo_jammed mo_code mo_step mo_low mo_high mo_old mo_latest mo_cycles mo_stolen mo_interrupts mo_accesses f_mra f_mrA f_mrc f_mrk f_mpi f_mwc f_mwo f_mco f_mpo f_mky f_mla f_mcn f_mct)) [0, 1, 2, 3, 4, 5, 6, 7, 8, 9, 10, 11, 12, 13] (by decide) rfl
  have hKc := hK.sub (tys' := [(k_mra, .int), (k_mrA, .int), (k_mrc, .int), (k_mrk, .int), (k_mpi, .int), (k_mwc, .int), (k_mwo, .int), (k_mco, .int), (k_mpo, .int), (k_mky, .int), (k_mla, .int), (k_mcn, .int), (k_mct, .int)]) [0, 1, 2, 3, 4, 5, 6, 7, 8, 9, 10, 11, 12] rfl
  have hFc := va_free (wc := (wwX7 q_mo q_mra q_mrA q_mrc q_mrk q_mpi q_mwc q_mwo q_mco q_mpo q_mky q_mla q_mcn q_mct k_mra k_mrA k_mrc k_mrk k_mpi k_mwc k_mwo k_mco k_mpo k_mky k_mla k_mcn k_mct mo_port mo_line mo_cycle mo_raised mo_idle mo_bad mo_glyph mo_fetched mo_rows mo_flags2 mo_enabled mo_a mo_x mo_y mo_s mo_flags mo_p mo_jammed mo_code mo_step mo_low mo_high mo_old mo_latest mo_cycles mo_stolen mo_interrupts mo_accesses f_mra f_mrA f_mrc f_mrk f_mpi f_mwc f_mwo f_mco f_mpo f_mky f_mla f_mcn f_mct)) hD hS hA [0, 1, 2, 3, 4, 5, 6, 7, 8, 9, 10, 11, 12, 13] rfl
  refine va_callv (va_runV (As := [.int ((256:Int32) + mo_s), .int p1]) (rest := []) ⟨hx, hb, hml, hown, hts⟩ (mX7_write l dC dI q_mo q_mra q_mrA q_mrc q_mrk q_mpi q_mwc q_mwo q_mco q_mpo q_mky q_mla q_mcn q_mct k_mra k_mrA k_mrc k_mrk k_mpi k_mwc k_mwo k_mco k_mpo k_mky k_mla k_mcn k_mct s.heap.size mo_port mo_line mo_cycle mo_raised mo_idle mo_bad mo_glyph mo_fetched mo_rows mo_flags2 mo_enabled mo_a mo_x mo_y mo_s mo_flags mo_p mo_jammed mo_code mo_step mo_low mo_high mo_old mo_latest mo_cycles mo_stolen mo_interrupts mo_accesses f_mra f_mrA f_mrc f_mrk f_mpi f_mwc f_mwo f_mco f_mpo f_mky f_mla f_mcn f_mct ((256:Int32) + mo_s) p1 (rg_s hs_)) (cwV 2 hts (ub_V kMX7_164 kYX7_write kSX7_write kIX7 kBX7_write) rfl rfl rfl (by decide +kernel) ⟨Nat.le_of_ble_eq_true rfl, Nat.le_of_ble_eq_true rfl⟩) ⟨fun a U g mk q => by obtain ⟨q0, q1, qP, qK, qD⟩ := q; exact ⟨q0, q1, qP, va_K.moved (u := U) (U := U.calling g mk a) (Vm.Alike.refl U.vm) qK, qD⟩, va_recv hKc hPc (ci := 7) (q0 := 0) rfl rfl, fun U hU hW => ⟨rfl, by rw [hU], by rw [hU]; exact hPc, va_K.moved hW.alike hKc, hDc.weaken (fun _ _ _ _ => trivial)⟩⟩ rfl rfl hl.1 rfl (lv_room (Nat.le_of_ble_eq_true rfl)) dX7_push_10 ⟨(Nat.zero_le _), (Nat.zero_le _)⟩) hS (fun q _ h => hFc q h) hFc (fun u_10 t H locs ht hvm hw hB hz1 hk1 hS => ?_)
  obtain ⟨mo_port_10, mo_raised_10, mo_rows_10, mo_enabled_10, mo_latest_10, mo_accesses_10, f_mra_10, f_mpi_10, f_mco_10, f_mla_10, f_mcn_10, f_mct_10⟩ := u_10
  obtain ⟨hP1, hK1, hD1⟩ := hB
  rw [ht] at hP1
  obtain ⟨hP, hD⟩ := vb_bk2 (wc := (wwX7 q_mo q_mra q_mrA q_mrc q_mrk q_mpi q_mwc q_mwo q_mco q_mpo q_mky q_mla q_mcn q_mct k_mra k_mrA k_mrc k_mrk k_mpi k_mwc k_mwo k_mco k_mpo k_mky k_mla k_mcn k_mct mo_port mo_line mo_cycle mo_raised mo_idle mo_bad mo_glyph mo_fetched mo_rows mo_flags2 mo_enabled mo_a mo_x mo_y mo_s mo_flags mo_p mo_jammed mo_code mo_step mo_low mo_high mo_old mo_latest mo_cycles mo_stolen mo_interrupts mo_accesses f_mra f_mrA f_mrc f_mrk f_mpi f_mwc f_mwo f_mco f_mpo f_mky f_mla f_mcn f_mct)) (ws' := (wwX7 q_mo q_mra q_mrA q_mrc q_mrk q_mpi q_mwc q_mwo q_mco q_mpo q_mky q_mla q_mcn q_mct k_mra k_mrA k_mrc k_mrk k_mpi k_mwc k_mwo k_mco k_mpo k_mky k_mla k_mcn k_mct mo_port_10 mo_line mo_cycle mo_raised_10 mo_idle mo_bad mo_glyph mo_fetched mo_rows_10 mo_flags2 mo_enabled_10 mo_a mo_x mo_y mo_s mo_flags mo_p mo_jammed mo_code mo_step mo_low mo_high mo_old mo_latest_10 mo_cycles mo_stolen mo_interrupts mo_accesses_10 f_mra_10 f_mrA f_mrc f_mrk f_mpi_10 f_mwc f_mwo f_mco_10 f_mpo f_mky f_mla_10 f_mcn_10 f_mct_10)) hP hD hD1 [0, 1, 2, 3, 4, 5, 6, 7, 8, 9, 10, 11, 12, 13] [] rfl [q_mo, q_mra, q_mrA, q_mrc, q_mrk, q_mpi, q_mwc, q_mwo, q_mco, q_mpo, q_mky, q_mla, q_mcn, q_mct] rfl rfl ae_n rfl rfl hk1 hP1
  rw [← hw] at hF
  dsimp only at hF
  refine lv_aload_n hx hb dX7_push_13 rfl (lv_at hl 0 rfl) ?_
  refine lv_aload_n hx hb dX7_push_14 rfl (lv_at hl 0 rfl) ?_
  refine va_get (D := (dC, dI)) (ci := 7) (v := .int mo_s) (C := RX7) (T := TX7) (N := 41) hx hb hts hiX7 hown hK hP 0 rfl rfl 27 (by decide) (hts _ kFX7_57) (fun _ h9 => h9) rfl dX7_push_15 ?_
  refine lv_sipush (v := 255) hx hb dX7_push_18 (by decide) ?_
  refine lv_iadd hx hb dX7_push_21 ?_
  refine lv_sipush (v := 255) hx hb dX7_push_22 (by decide) ?_
  refine lv_iand hx hb dX7_push_25 ?_
  refine va_put (D := (dC, dI)) (ci := 7) (v := .int ((mo_s + (255:Int32)) &&& (255:Int32))) (ty := .int) (C := RX7) (T := TX7) (N := 41) hx hb hts hiX7 tyX7 tyX7_ok nmX7 hown hK hP hD hS 0 rfl rfl 27 (by decide) (hts _ kFX7_57) (fun _ h9 => h9) rfl (by decide +kernel) rfl rfl (Nat.le_of_ble_eq_true rfl) dX7_push_26 (fun H locs hP hD hS => ?_)
  have hP : va_P (dC, dI) vwCl (wwX7 q_mo q_mra q_mrA q_mrc q_mrk q_mpi q_mwc q_mwo q_mco q_mpo q_mky q_mla q_mcn q_mct k_mra k_mrA k_mrc k_mrk k_mpi k_mwc k_mwo k_mco k_mpo k_mky k_mla k_mcn k_mct mo_port_10 mo_line mo_cycle mo_raised_10 mo_idle mo_bad mo_glyph mo_fetched mo_rows_10 mo_flags2 mo_enabled_10 mo_a mo_x mo_y ((mo_s + (255:Int32)) &&& (255:Int32)) mo_flags mo_p mo_jammed mo_code mo_step mo_low mo_high mo_old mo_latest_10 mo_cycles mo_stolen mo_interrupts mo_accesses_10 f_mra_10 f_mrA f_mrc f_mrk f_mpi_10 f_mwc f_mwo f_mco_10 f_mpo f_mky f_mla_10 f_mcn_10 f_mct_10) H := hP
  have hD : va_D A (wwX7 q_mo q_mra q_mrA q_mrc q_mrk q_mpi q_mwc q_mwo q_mco q_mpo q_mky q_mla q_mcn q_mct k_mra k_mrA k_mrc k_mrk k_mpi k_mwc k_mwo k_mco k_mpo k_mky k_mla k_mcn k_mct mo_port_10 mo_line mo_cycle mo_raised_10 mo_idle mo_bad mo_glyph mo_fetched mo_rows_10 mo_flags2 mo_enabled_10 mo_a mo_x mo_y ((mo_s + (255:Int32)) &&& (255:Int32)) mo_flags mo_p mo_jammed mo_code mo_step mo_low mo_high mo_old mo_latest_10 mo_cycles mo_stolen mo_interrupts mo_accesses_10 f_mra_10 f_mrA f_mrc f_mrk f_mpi_10 f_mwc f_mwo f_mco_10 f_mpo f_mky f_mla_10 f_mcn_10 f_mct_10) := hD
  exact W.vret hx hb hr (fun t ht hW => ⟨⟨(mo_port_10, mo_raised_10, mo_rows_10, mo_enabled_10, ((mo_s + (255:Int32)) &&& (255:Int32)), mo_latest_10, mo_accesses_10, f_mra_10, f_mpi_10, f_mco_10, f_mla_10, f_mcn_10, f_mct_10), rfl, hF.symm, by rw [ht]; exact hP, va_K.moved hW.alike hK, hD⟩, hS.F ht⟩) hS.2.2 dX7_push_29
def fX7_pull (p1 : Int32) (mo_port : Int32) (mo_line : Int32) (mo_raised : Int32) (mo_rows : Int32) (mo_flags2 : Int32) (mo_enabled : Int32) (mo_s : Int32) (mo_accesses : Int32) (f_mra : Nat → Int32) (f_mrA : Nat → Int32) (f_mrc : Nat → Int32) (f_mrk : Nat → Int32) (f_mpi : Nat → Int32) (f_mco : Nat → Int32) (f_mky : Nat → Int32) (f_mcn : Nat → Int32) (f_mct : Nat → Int32) : Int32 × Int32 × Int32 × Int32 × Int32 :=
  match (fX7_read ((256:Int32) + mo_s) mo_port mo_line mo_raised mo_rows mo_flags2 mo_enabled mo_accesses f_mra f_mrA f_mrc f_mrk f_mpi f_mco f_mky f_mcn f_mct) with
  | (r_9, mo_flags2_9, mo_latest_9, mo_accesses_9) =>
   (r_9, mo_flags2_9, (if p1 = (0:Int32) then mo_s else ((mo_s + (1:Int32)) &&& (255:Int32))), mo_latest_9, mo_accesses_9)
set_option maxHeartbeats 4000000 in
set_option maxRecDepth 100000 in
theorem mX7_pull (l : Launch) (dC : Nat → ClassId) (dI : Nat → Nat → Nat) (q_mo q_mra q_mrA q_mrc q_mrk q_mpi q_mwc q_mwo q_mco q_mpo q_mky q_mla q_mcn q_mct : Nat) (k_mra k_mrA k_mrc k_mrk k_mpi k_mwc k_mwo k_mco k_mpo k_mky k_mla k_mcn k_mct : ClassId) (sz : Nat) (mo_port mo_line mo_cycle mo_raised mo_idle mo_bad mo_glyph mo_fetched mo_rows mo_flags2 mo_enabled mo_a mo_x mo_y mo_s mo_flags mo_p mo_jammed mo_code mo_step mo_low mo_high mo_old mo_latest mo_cycles mo_stolen mo_interrupts mo_accesses : Int32) (f_mra f_mrA f_mrc f_mrk f_mpi f_mwc f_mwo f_mco f_mpo f_mky f_mla f_mcn f_mct : Nat → Int32) (p1 : Int32) (hs_ : vp_in mo_s 256) : Met l yX7_pull uX7_pull ({ frames := 4, cells := 0, slots := 0, locals := 89 }) (va_Pc [.ref q_mo, .int p1] (fun U => U.heap.size = sz ∧ va_P (dC, dI) vwCl (wwX7 q_mo q_mra q_mrA q_mrc q_mrk q_mpi q_mwc q_mwo q_mco q_mpo q_mky q_mla q_mcn q_mct k_mra k_mrA k_mrc k_mrk k_mpi k_mwc k_mwo k_mco k_mpo k_mky k_mla k_mcn k_mct mo_port mo_line mo_cycle mo_raised mo_idle mo_bad mo_glyph mo_fetched mo_rows mo_flags2 mo_enabled mo_a mo_x mo_y mo_s mo_flags mo_p mo_jammed mo_code mo_step mo_low mo_high mo_old mo_latest mo_cycles mo_stolen mo_interrupts mo_accesses f_mra f_mrA f_mrc f_mrk f_mpi f_mwc f_mwo f_mco f_mpo f_mky f_mla f_mcn f_mct) U.heap ∧ va_K (dC, dI) vwCl [(k_mra, .int), (k_mrA, .int), (k_mrc, .int), (k_mrk, .int), (k_mpi, .int), (k_mwc, .int), (k_mwo, .int), (k_mco, .int), (k_mpo, .int), (k_mky, .int), (k_mla, .int), (k_mcn, .int), (k_mct, .int)] U ∧ va_D (fun _ => True) (wwX7 q_mo q_mra q_mrA q_mrc q_mrk q_mpi q_mwc q_mwo q_mco q_mpo q_mky q_mla q_mcn q_mct k_mra k_mrA k_mrc k_mrk k_mpi k_mwc k_mwo k_mco k_mpo k_mky k_mla k_mcn k_mct mo_port mo_line mo_cycle mo_raised mo_idle mo_bad mo_glyph mo_fetched mo_rows mo_flags2 mo_enabled mo_a mo_x mo_y mo_s mo_flags mo_p mo_jammed mo_code mo_step mo_low mo_high mo_old mo_latest mo_cycles mo_stolen mo_interrupts mo_accesses f_mra f_mrA f_mrc f_mrk f_mpi f_mwc f_mwo f_mco f_mpo f_mky f_mla f_mcn f_mct))) (va_Qi (fun (r : Int32) (u : Int32 × Int32 × Int32 × Int32) => (r, u) = fX7_pull p1 mo_port mo_line mo_raised mo_rows mo_flags2 mo_enabled mo_s mo_accesses f_mra f_mrA f_mrc f_mrk f_mpi f_mco f_mky f_mcn f_mct) (fun (u : Int32 × Int32 × Int32 × Int32) (t : State) => va_P (dC, dI) vwCl (wwX7 q_mo q_mra q_mrA q_mrc q_mrk q_mpi q_mwc q_mwo q_mco q_mpo q_mky q_mla q_mcn q_mct k_mra k_mrA k_mrc k_mrk k_mpi k_mwc k_mwo k_mco k_mpo k_mky k_mla k_mcn k_mct mo_port mo_line mo_cycle mo_raised mo_idle mo_bad mo_glyph mo_fetched mo_rows u.1 mo_enabled mo_a mo_x mo_y u.2.1 mo_flags mo_p mo_jammed mo_code mo_step mo_low mo_high mo_old u.2.2.1 mo_cycles mo_stolen mo_interrupts u.2.2.2 f_mra f_mrA f_mrc f_mrk f_mpi f_mwc f_mwo f_mco f_mpo f_mky f_mla f_mcn f_mct) t.heap ∧ va_K (dC, dI) vwCl [(k_mra, .int), (k_mrA, .int), (k_mrc, .int), (k_mrk, .int), (k_mpi, .int), (k_mwc, .int), (k_mwo, .int), (k_mco, .int), (k_mpo, .int), (k_mky, .int), (k_mla, .int), (k_mcn, .int), (k_mct, .int)] t ∧ va_D (va_A (wwX7 q_mo q_mra q_mrA q_mrc q_mrk q_mpi q_mwc q_mwo q_mco q_mpo q_mky q_mla q_mcn q_mct k_mra k_mrA k_mrc k_mrk k_mpi k_mwc k_mwo k_mco k_mpo k_mky k_mla k_mcn k_mct mo_port mo_line mo_cycle mo_raised mo_idle mo_bad mo_glyph mo_fetched mo_rows mo_flags2 mo_enabled mo_a mo_x mo_y mo_s mo_flags mo_p mo_jammed mo_code mo_step mo_low mo_high mo_old mo_latest mo_cycles mo_stolen mo_interrupts mo_accesses f_mra f_mrA f_mrc f_mrk f_mpi f_mwc f_mwo f_mco f_mpo f_mky f_mla f_mcn f_mct) sz) (wwX7 q_mo q_mra q_mrA q_mrc q_mrk q_mpi q_mwc q_mwo q_mco q_mpo q_mky q_mla q_mcn q_mct k_mra k_mrA k_mrc k_mrk k_mpi k_mwc k_mwo k_mco k_mpo k_mky k_mla k_mcn k_mct mo_port mo_line mo_cycle mo_raised mo_idle mo_bad mo_glyph mo_fetched mo_rows u.1 mo_enabled mo_a mo_x mo_y u.2.1 mo_flags mo_p mo_jammed mo_code mo_step mo_low mo_high mo_old u.2.2.1 mo_cycles mo_stolen mo_interrupts u.2.2.2 f_mra f_mrA f_mrc f_mrk f_mpi f_mwc f_mwo f_mco f_mpo f_mky f_mla f_mcn f_mct)) (va_A (wwX7 q_mo q_mra q_mrA q_mrc q_mrk q_mpi q_mwc q_mwo q_mco q_mpo q_mky q_mla q_mcn q_mct k_mra k_mrA k_mrc k_mrk k_mpi k_mwc k_mwo k_mco k_mpo k_mky k_mla k_mcn k_mct mo_port mo_line mo_cycle mo_raised mo_idle mo_bad mo_glyph mo_fetched mo_rows mo_flags2 mo_enabled mo_a mo_x mo_y mo_s mo_flags mo_p mo_jammed mo_code mo_step mo_low mo_high mo_old mo_latest mo_cycles mo_stolen mo_interrupts mo_accesses f_mra f_mrA f_mrc f_mrk f_mpi f_mwc f_mwo f_mco f_mpo f_mky f_mla f_mcn f_mct) sz)) 0 0 (va_A (wwX7 q_mo q_mra q_mrA q_mrc q_mrk q_mpi q_mwc q_mwo q_mco q_mpo q_mky q_mla q_mcn q_mct k_mra k_mrA k_mrc k_mrk k_mpi k_mwc k_mwo k_mco k_mpo k_mky k_mla k_mcn k_mct mo_port mo_line mo_cycle mo_raised mo_idle mo_bad mo_glyph mo_fetched mo_rows mo_flags2 mo_enabled mo_a mo_x mo_y mo_s mo_flags mo_p mo_jammed mo_code mo_step mo_low mo_high mo_old mo_latest mo_cycles mo_stolen mo_interrupts mo_accesses f_mra f_mrA f_mrc f_mrk f_mpi f_mwc f_mwo f_mco f_mpo f_mky f_mla f_mcn f_mct) sz) := by
  refine Met.ofW (cc := cX7_pull) (maxL := 3) (ret := (some .int)) (by decide) rfl ?_
  intro p e s m args below meth c s₁ B hml hv
  obtain ⟨rfl, hsz, hP, hK, hD0⟩ := hv
  have hx := B.exec
  have hb := B.bytes
  have hr := B.returns
  have hts : ∀ w ∈ ub, w.before _ s = true := fun w h => atoms_spec (ws := uX7_pull) B.pre w (List.mem_cons_of_mem _ h)
  have hown : s.vm.findClass RX7 = some m.cls := findClass_of_methodNamed B.named
  have hlocks := B.notSynchronized
  subst hsz
  have hD := hD0.self (sz := s.heap.size)
  generalize hAe : va_A (wwX7 q_mo q_mra q_mrA q_mrc q_mrk q_mpi q_mwc q_mwo q_mco q_mpo q_mky q_mla q_mcn q_mct k_mra k_mrA k_mrc k_mrk k_mpi k_mwc k_mwo k_mco k_mpo k_mky k_mla k_mcn k_mct mo_port mo_line mo_cycle mo_raised mo_idle mo_bad mo_glyph mo_fetched mo_rows mo_flags2 mo_enabled mo_a mo_x mo_y mo_s mo_flags mo_p mo_jammed mo_code mo_step mo_low mo_high mo_old mo_latest mo_cycles mo_stolen mo_interrupts mo_accesses f_mra f_mrA f_mrc f_mrk f_mpi f_mwc f_mwo f_mco f_mpo f_mky f_mla f_mcn f_mct) s.heap.size = A at hD ⊢
  have hA : ∀ q : Nat, s.heap.size ≤ q → A q := fun q h => by rw [← hAe]; exact Or.inr h
  have hS : va_S A s.heap s.heap [] := va_S.rf
  have hl := lv_entry ([.ref q_mo, .int p1]) (n := 3) (Nat.le_of_ble_eq_true rfl)
  rw [lg_entry_eq]
  generalize (lg_sl ([.ref q_mo, .int p1]) ++ List.replicate (3 - (lg_sl ([.ref q_mo, .int p1])).length) Slot.unset).toArray = ls at hl ⊢
  have hl : lv_has ls 3 [(0, .ref q_mo), (1, .int p1)] := hl
  have hF := fX7_pull.eq_1 p1 mo_port mo_line mo_raised mo_rows mo_flags2 mo_enabled mo_s mo_accesses f_mra f_mrA f_mrc f_mrk f_mpi f_mco f_mky f_mcn f_mct
  refine lv_aload_n hx hb dX7_pull_0 rfl (lv_at hl 0 rfl) ?_
  refine lv_sipush (v := 256) hx hb dX7_pull_1 (by decide) ?_
  refine lv_aload_n hx hb dX7_pull_4 rfl (lv_at hl 0 rfl) ?_
  refine va_get (D := (dC, dI)) (ci := 7) (v := .int mo_s) (C := RX7) (T := TX7) (N := 41) hx hb hts hiX7 hown hK hP 0 rfl rfl 27 (by decide) (hts _ kFX7_57) (fun _ h9 => h9) rfl dX7_pull_5 ?_
  refine lv_iadd hx hb dX7_pull_8 ?_
  have hPc := hP.sub (ws' := (wwX7 q_mo q_mra q_mrA q_mrc q_mrk q_mpi q_mwc q_mwo q_mco q_mpo q_mky q_mla q_mcn q_mct k_mra k_mrA k_mrc k_mrk k_mpi k_mwc k_mwo k_mco k_mpo k_mky k_mla k_mcn k_mct mo_port mo_line mo_cycle mo_raised mo_idle mo_bad mo_glyph mo_fetched mo_rows mo_flags2 mo_enabled mo_a mo_x mo_y mo_s mo_flags mo_p mo_jammed mo_code mo_step mo_low mo_high mo_old mo_latest mo_cycles mo_stolen mo_interrupts mo_accesses f_mra f_mrA f_mrc f_mrk f_mpi f_mwc f_mwo f_mco f_mpo f_mky f_mla f_mcn f_mct)) [0, 1, 2, 3, 4, 5, 6, 7, 8, 9, 10, 11, 12, 13] rfl
  have hDc := hD.sub (ws' := (wwX7 q_mo q_mra q_mrA q_mrc q_mrk q_mpi q_mwc q_mwo q_mco q_mpo q_mky q_mla q_mcn q_mct k_mra k_mrA k_mrc k_mrk k_mpi k_mwc k_mwo k_mco k_mpo k_mky k_mla k_mcn k_mct mo_port mo_line mo_cycle mo_raised mo_idle mo_bad mo_glyph mo_fetched mo_rows mo_flags2 mo_enabled mo_a mo_x mo_y mo_s mo_flags mo_p mo_jammed mo_code mo_step mo_low mo_high mo_old mo_latest mo_cycles mo_stolen mo_interrupts mo_accesses f_mra f_mrA f_mrc f_mrk f_mpi f_mwc f_mwo f_mco f_mpo f_mky f_mla f_mcn f_mct)) [0, 1, 2, 3, 4, 5, 6, 7, 8, 9, 10, 11, 12, 13] (by decide) rfl
  have hKc := hK.sub (tys' := [(k_mra, .int), (k_mrA, .int), (k_mrc, .int), (k_mrk, .int), (k_mpi, .int), (k_mwc, .int), (k_mwo, .int), (k_mco, .int), (k_mpo, .int), (k_mky, .int), (k_mla, .int), (k_mcn, .int), (k_mct, .int)]) [0, 1, 2, 3, 4, 5, 6, 7, 8, 9, 10, 11, 12] rfl
  have hFc := va_free (wc := (wwX7 q_mo q_mra q_mrA q_mrc q_mrk q_mpi q_mwc q_mwo q_mco q_mpo q_mky q_mla q_mcn q_mct k_mra k_mrA k_mrc k_mrk k_mpi k_mwc k_mwo k_mco k_mpo k_mky k_mla k_mcn k_mct mo_port mo_line mo_cycle mo_raised mo_idle mo_bad mo_glyph mo_fetched mo_rows mo_flags2 mo_enabled mo_a mo_x mo_y mo_s mo_flags mo_p mo_jammed mo_code mo_step mo_low mo_high mo_old mo_latest mo_cycles mo_stolen mo_interrupts mo_accesses f_mra f_mrA f_mrc f_mrk f_mpi f_mwc f_mwo f_mco f_mpo f_mky f_mla f_mcn f_mct)) hD hS hA [0, 1, 2, 3, 4, 5, 6, 7, 8, 9, 10, 11, 12, 13] rfl
  refine va_calli (va_runV (As := [.int ((256:Int32) + mo_s)]) (rest := []) ⟨hx, hb, hml, hown, hts⟩ (mX7_read l dC dI q_mo q_mra q_mrA q_mrc q_mrk q_mpi q_mwc q_mwo q_mco q_mpo q_mky q_mla q_mcn q_mct k_mra k_mrA k_mrc k_mrk k_mpi k_mwc k_mwo k_mco k_mpo k_mky k_mla k_mcn k_mct s.heap.size mo_port mo_line mo_cycle mo_raised mo_idle mo_bad mo_glyph mo_fetched mo_rows mo_flags2 mo_enabled mo_a mo_x mo_y mo_s mo_flags mo_p mo_jammed mo_code mo_step mo_low mo_high mo_old mo_latest mo_cycles mo_stolen mo_interrupts mo_accesses f_mra f_mrA f_mrc f_mrk f_mpi f_mwc f_mwo f_mco f_mpo f_mky f_mla f_mcn f_mct ((256:Int32) + mo_s) (rg_s hs_)) (cwV 1 hts (ub_V kMX7_161 kYX7_read kSX7_read kIX7 kBX7_read) rfl rfl rfl (by decide +kernel) ⟨Nat.le_of_ble_eq_true rfl, Nat.le_of_ble_eq_true rfl⟩) ⟨fun a U g mk q => by obtain ⟨q0, q1, qP, qK, qD⟩ := q; exact ⟨q0, q1, qP, va_K.moved (u := U) (U := U.calling g mk a) (Vm.Alike.refl U.vm) qK, qD⟩, va_recv hKc hPc (ci := 7) (q0 := 0) rfl rfl, fun U hU hW => ⟨rfl, by rw [hU], by rw [hU]; exact hPc, va_K.moved hW.alike hKc, hDc.weaken (fun _ _ _ _ => trivial)⟩⟩ rfl rfl hl.1 rfl (lv_room (Nat.le_of_ble_eq_true rfl)) dX7_pull_9 ⟨(Nat.zero_le _), (Nat.zero_le _)⟩) hS (fun q _ h => hFc q h) hFc (fun r_9 u_9 t H locs ht hvm hw hB hz1 hk1 hS => ?_)
  obtain ⟨mo_flags2_9, mo_latest_9, mo_accesses_9⟩ := u_9
  obtain ⟨hP1, hK1, hD1⟩ := hB
  rw [ht] at hP1
  obtain ⟨hP, hD⟩ := vb_bk2 (wc := (wwX7 q_mo q_mra q_mrA q_mrc q_mrk q_mpi q_mwc q_mwo q_mco q_mpo q_mky q_mla q_mcn q_mct k_mra k_mrA k_mrc k_mrk k_mpi k_mwc k_mwo k_mco k_mpo k_mky k_mla k_mcn k_mct mo_port mo_line mo_cycle mo_raised mo_idle mo_bad mo_glyph mo_fetched mo_rows mo_flags2 mo_enabled mo_a mo_x mo_y mo_s mo_flags mo_p mo_jammed mo_code mo_step mo_low mo_high mo_old mo_latest mo_cycles mo_stolen mo_interrupts mo_accesses f_mra f_mrA f_mrc f_mrk f_mpi f_mwc f_mwo f_mco f_mpo f_mky f_mla f_mcn f_mct)) (ws' := (wwX7 q_mo q_mra q_mrA q_mrc q_mrk q_mpi q_mwc q_mwo q_mco q_mpo q_mky q_mla q_mcn q_mct k_mra k_mrA k_mrc k_mrk k_mpi k_mwc k_mwo k_mco k_mpo k_mky k_mla k_mcn k_mct mo_port mo_line mo_cycle mo_raised mo_idle mo_bad mo_glyph mo_fetched mo_rows mo_flags2_9 mo_enabled mo_a mo_x mo_y mo_s mo_flags mo_p mo_jammed mo_code mo_step mo_low mo_high mo_old mo_latest_9 mo_cycles mo_stolen mo_interrupts mo_accesses_9 f_mra f_mrA f_mrc f_mrk f_mpi f_mwc f_mwo f_mco f_mpo f_mky f_mla f_mcn f_mct)) hP hD hD1 [0, 1, 2, 3, 4, 5, 6, 7, 8, 9, 10, 11, 12, 13] [] rfl [q_mo, q_mra, q_mrA, q_mrc, q_mrk, q_mpi, q_mwc, q_mwo, q_mco, q_mpo, q_mky, q_mla, q_mcn, q_mct] rfl rfl ae_n rfl rfl hk1 hP1
  rw [← hw] at hF
  dsimp only at hF
  refine lv_istore_n (lv' := [(2, .int r_9), (0, .ref q_mo), (1, .int p1)]) hx hb dX7_pull_12 rfl hl (by decide) rfl (fun ls hl => ?_)
  refine lv_aload_n hx hb dX7_pull_13 rfl (lv_at hl 1 rfl) ?_
  refine lv_iload_n hx hb dX7_pull_14 rfl (lv_at hl 2 rfl) ?_
  refine vj_join (j := 35) (rest := [.ref q_mo]) (Hyp := fun z H locs => z = (if p1 = (0:Int32) then mo_s else ((mo_s + (1:Int32)) &&& (255:Int32))) ∧ va_P (dC, dI) vwCl (wwX7 q_mo q_mra q_mrA q_mrc q_mrk q_mpi q_mwc q_mwo q_mco q_mpo q_mky q_mla q_mcn q_mct k_mra k_mrA k_mrc k_mrk k_mpi k_mwc k_mwo k_mco k_mpo k_mky k_mla k_mcn k_mct mo_port mo_line mo_cycle mo_raised mo_idle mo_bad mo_glyph mo_fetched mo_rows mo_flags2_9 mo_enabled mo_a mo_x mo_y mo_s mo_flags mo_p mo_jammed mo_code mo_step mo_low mo_high mo_old mo_latest_9 mo_cycles mo_stolen mo_interrupts mo_accesses_9 f_mra f_mrA f_mrc f_mrk f_mpi f_mwc f_mwo f_mco f_mpo f_mky f_mla f_mcn f_mct) H ∧ va_S A s.heap H locs) (fun z H locs hh => ?_) (fun J35 => ?_)
  · obtain ⟨hz, hP, hS⟩ := hh
    subst hz
    refine va_put (D := (dC, dI)) (ci := 7) (v := .int (if p1 = (0:Int32) then mo_s else ((mo_s + (1:Int32)) &&& (255:Int32)))) (ty := .int) (C := RX7) (T := TX7) (N := 41) hx hb hts hiX7 tyX7 tyX7_ok nmX7 hown hK hP hD hS 0 rfl rfl 27 (by decide) (hts _ kFX7_57) (fun _ h9 => h9) rfl (by decide +kernel) rfl rfl (Nat.le_of_ble_eq_true rfl) dX7_pull_35 (fun H locs hP hD hS => ?_)
    have hP : va_P (dC, dI) vwCl (wwX7 q_mo q_mra q_mrA q_mrc q_mrk q_mpi q_mwc q_mwo q_mco q_mpo q_mky q_mla q_mcn q_mct k_mra k_mrA k_mrc k_mrk k_mpi k_mwc k_mwo k_mco k_mpo k_mky k_mla k_mcn k_mct mo_port mo_line mo_cycle mo_raised mo_idle mo_bad mo_glyph mo_fetched mo_rows mo_flags2_9 mo_enabled mo_a mo_x mo_y (if p1 = (0:Int32) then mo_s else ((mo_s + (1:Int32)) &&& (255:Int32))) mo_flags mo_p mo_jammed mo_code mo_step mo_low mo_high mo_old mo_latest_9 mo_cycles mo_stolen mo_interrupts mo_accesses_9 f_mra f_mrA f_mrc f_mrk f_mpi f_mwc f_mwo f_mco f_mpo f_mky f_mla f_mcn f_mct) H := hP
    have hD : va_D A (wwX7 q_mo q_mra q_mrA q_mrc q_mrk q_mpi q_mwc q_mwo q_mco q_mpo q_mky q_mla q_mcn q_mct k_mra k_mrA k_mrc k_mrk k_mpi k_mwc k_mwo k_mco k_mpo k_mky k_mla k_mcn k_mct mo_port mo_line mo_cycle mo_raised mo_idle mo_bad mo_glyph mo_fetched mo_rows mo_flags2_9 mo_enabled mo_a mo_x mo_y (if p1 = (0:Int32) then mo_s else ((mo_s + (1:Int32)) &&& (255:Int32))) mo_flags mo_p mo_jammed mo_code mo_step mo_low mo_high mo_old mo_latest_9 mo_cycles mo_stolen mo_interrupts mo_accesses_9 f_mra f_mrA f_mrc f_mrk f_mpi f_mwc f_mwo f_mco f_mpo f_mky f_mla f_mcn f_mct) := hD
    refine lv_iload_n hx hb dX7_pull_38 rfl (lv_at hl 0 rfl) ?_
    exact W.iret (v := r_9) hx hb hr (fun t ht hW => ⟨⟨r_9, (mo_flags2_9, (if p1 = (0:Int32) then mo_s else ((mo_s + (1:Int32)) &&& (255:Int32))), mo_latest_9, mo_accesses_9), rfl, hF.symm, by rw [ht]; exact hP, va_K.moved hW.alike hK, hD⟩, hS.F ht⟩) hS.2.2 dX7_pull_39
  · refine lv_if_eq (tgt := 31) hx hb dX7_pull_15 (by decide) (fun c_15 => ?_) (fun c_15 => ?_)
    · refine lv_aload_n hx hb dX7_pull_31 rfl (lv_at hl 1 rfl) ?_
      refine va_get (D := (dC, dI)) (ci := 7) (v := .int mo_s) (C := RX7) (T := TX7) (N := 41) hx hb hts hiX7 hown hK hP 0 rfl rfl 27 (by decide) (hts _ kFX7_57) (fun _ h9 => h9) rfl dX7_pull_32 ?_
      exact J35 _ _ _ ⟨by rw [if_pos c_15], hP, hS⟩
    · refine lv_aload_n hx hb dX7_pull_18 rfl (lv_at hl 1 rfl) ?_
      refine va_get (D := (dC, dI)) (ci := 7) (v := .int mo_s) (C := RX7) (T := TX7) (N := 41) hx hb hts hiX7 hown hK hP 0 rfl rfl 27 (by decide) (hts _ kFX7_57) (fun _ h9 => h9) rfl dX7_pull_19 ?_
      refine lv_iconst (v := 1) hx hb dX7_pull_22 (by decide) ?_
      refine lv_iadd hx hb dX7_pull_23 ?_
      refine lv_sipush (v := 255) hx hb dX7_pull_24 (by decide) ?_
      refine lv_iand hx hb dX7_pull_27 ?_
      refine lv_goto (tgt := 35) hx hb dX7_pull_28 (by decide) ?_
      exact J35 _ _ _ ⟨by rw [if_neg c_15], hP, hS⟩
def fX7_arithmetic (p1 : Int32) : Int32 :=
  (if (p1 &&& (3:Int32)) = (1:Int32) then (if ((p1 >>> ((2:Int32) &&& (31:Int32))) &&& (7:Int32)) = (1:Int32) then (1:Int32) else (if ((p1 >>> ((2:Int32) &&& (31:Int32))) &&& (7:Int32)) = (2:Int32) then (if p1 = (137:Int32) then (0:Int32) else (1:Int32)) else (if ((p1 >>> ((2:Int32) &&& (31:Int32))) &&& (7:Int32)) = (3:Int32) then (1:Int32) else (if ((p1 >>> ((2:Int32) &&& (31:Int32))) &&& (7:Int32)) = (7:Int32) then (1:Int32) else (0:Int32))))) else (0:Int32))
set_option maxHeartbeats 4000000 in
set_option maxRecDepth 100000 in
theorem mX7_arithmetic (l : Launch) (dC : Nat → ClassId) (dI : Nat → Nat → Nat) (sz : Nat) (p1 : Int32) : Met l yX7_arithmetic uX7_arithmetic ({ frames := 0, cells := 0, slots := 0, locals := 0 }) (va_Pc [.int p1] (fun U => U.heap.size = sz ∧ va_P (dC, dI) vwCl ([] : va_W) U.heap ∧ va_K (dC, dI) vwCl [] U ∧ va_D (fun _ => True) ([] : va_W))) (va_Qi (fun (r : Int32) (u : Unit) => r = fX7_arithmetic p1) (fun (u : Unit) (t : State) => va_P (dC, dI) vwCl ([] : va_W) t.heap ∧ va_K (dC, dI) vwCl [] t ∧ va_D (va_A ([] : va_W) sz) ([] : va_W)) (va_A ([] : va_W) sz)) 0 0 (va_A ([] : va_W) sz) := by
  refine Met.ofW (cc := cX7_arithmetic) (maxL := 2) (ret := (some .boolean)) (by decide) rfl ?_
  intro p e s m args below meth c s₁ B hml hv
  obtain ⟨rfl, hsz, hP, hK, hD0⟩ := hv
  have hx := B.exec
  have hb := B.bytes
  have hr := B.returns
  have hts : ∀ w ∈ ub, w.before _ s = true := fun w h => atoms_spec (ws := uX7_arithmetic) B.pre w (List.mem_cons_of_mem _ h)
  have hown : s.vm.findClass RX7 = some m.cls := findClass_of_methodNamed B.named
  have hlocks := B.notSynchronized
  subst hsz
  have hD := hD0.self (sz := s.heap.size)
  generalize hAe : va_A ([] : va_W) s.heap.size = A at hD ⊢
  have hA : ∀ q : Nat, s.heap.size ≤ q → A q := fun q h => by rw [← hAe]; exact Or.inr h
  have hS : va_S A s.heap s.heap [] := va_S.rf
  have hl := lv_entry ([.int p1]) (n := 2) (Nat.le_of_ble_eq_true rfl)
  rw [lg_entry_eq]
  generalize (lg_sl ([.int p1]) ++ List.replicate (2 - (lg_sl ([.int p1])).length) Slot.unset).toArray = ls at hl ⊢
  have hl : lv_has ls 2 [(0, .int p1)] := hl
  have hF := fX7_arithmetic.eq_1 p1
  refine lv_iload_n hx hb dX7_arithmetic_0 rfl (lv_at hl 0 rfl) ?_
  refine lv_iconst (v := 2) hx hb dX7_arithmetic_1 (by decide) ?_
  refine lv_ishr hx hb dX7_arithmetic_2 ?_
  refine lv_bipush (v := 7) hx hb dX7_arithmetic_3 (by decide) ?_
  refine lv_iand hx hb dX7_arithmetic_5 ?_
  refine lv_istore_n (lv' := [(1, .int ((p1 >>> ((2:Int32) &&& (31:Int32))) &&& (7:Int32))), (0, .int p1)]) hx hb dX7_arithmetic_6 rfl hl (by decide) rfl (fun ls hl => ?_)
  refine lv_iload_n hx hb dX7_arithmetic_7 rfl (lv_at hl 1 rfl) ?_
  refine lv_iconst (v := 3) hx hb dX7_arithmetic_8 (by decide) ?_
  refine lv_iand hx hb dX7_arithmetic_9 ?_
  refine lv_iconst (v := 1) hx hb dX7_arithmetic_10 (by decide) ?_
  refine vj_join (j := 47) (rest := []) (Hyp := fun z H locs => z = (if (p1 &&& (3:Int32)) = (1:Int32) then (if ((p1 >>> ((2:Int32) &&& (31:Int32))) &&& (7:Int32)) = (1:Int32) then (1:Int32) else (if ((p1 >>> ((2:Int32) &&& (31:Int32))) &&& (7:Int32)) = (2:Int32) then (if p1 = (137:Int32) then (0:Int32) else (1:Int32)) else (if ((p1 >>> ((2:Int32) &&& (31:Int32))) &&& (7:Int32)) = (3:Int32) then (1:Int32) else (if ((p1 >>> ((2:Int32) &&& (31:Int32))) &&& (7:Int32)) = (7:Int32) then (1:Int32) else (0:Int32))))) else (0:Int32)) ∧ va_P (dC, dI) vwCl ([] : va_W) H ∧ va_S A s.heap H locs) (fun z H locs hh => ?_) (fun J47 => ?_)
  · obtain ⟨hz, hP, hS⟩ := hh
    subst hz
    exact W.zret (v := (if (p1 &&& (3:Int32)) = (1:Int32) then (if ((p1 >>> ((2:Int32) &&& (31:Int32))) &&& (7:Int32)) = (1:Int32) then (1:Int32) else (if ((p1 >>> ((2:Int32) &&& (31:Int32))) &&& (7:Int32)) = (2:Int32) then (if p1 = (137:Int32) then (0:Int32) else (1:Int32)) else (if ((p1 >>> ((2:Int32) &&& (31:Int32))) &&& (7:Int32)) = (3:Int32) then (1:Int32) else (if ((p1 >>> ((2:Int32) &&& (31:Int32))) &&& (7:Int32)) = (7:Int32) then (1:Int32) else (0:Int32))))) else (0:Int32))) hx hb hr (nb_if (nb_if rfl (nb_if (nb_if rfl rfl) (nb_if rfl (nb_if rfl rfl)))) rfl) (fun t ht hW => ⟨⟨(if (p1 &&& (3:Int32)) = (1:Int32) then (if ((p1 >>> ((2:Int32) &&& (31:Int32))) &&& (7:Int32)) = (1:Int32) then (1:Int32) else (if ((p1 >>> ((2:Int32) &&& (31:Int32))) &&& (7:Int32)) = (2:Int32) then (if p1 = (137:Int32) then (0:Int32) else (1:Int32)) else (if ((p1 >>> ((2:Int32) &&& (31:Int32))) &&& (7:Int32)) = (3:Int32) then (1:Int32) else (if ((p1 >>> ((2:Int32) &&& (31:Int32))) &&& (7:Int32)) = (7:Int32) then (1:Int32) else (0:Int32))))) else (0:Int32)), (), rfl, hF.symm, by rw [ht]; exact hP, va_K.moved hW.alike hK, hD⟩, hS.F ht⟩) hS.2.2 dX7_arithmetic_47
  · refine lv_icmp_ne (tgt := 46) hx hb dX7_arithmetic_11 (by decide) (fun c_11 => ?_) (fun c_11 => ?_)
    · refine lv_iconst (v := 0) hx hb dX7_arithmetic_46 (by decide) ?_
      exact J47 _ _ _ ⟨by rw [if_neg c_11], hP, hS⟩
    · refine lv_iload_n hx hb dX7_arithmetic_14 rfl (lv_at hl 0 rfl) ?_
      refine lv_iconst (v := 1) hx hb dX7_arithmetic_15 (by decide) ?_
      refine lv_icmp_eq (tgt := 42) hx hb dX7_arithmetic_16 (by decide) (fun c_16 => ?_) (fun c_16 => ?_)
      · refine lv_iconst (v := 1) hx hb dX7_arithmetic_42 (by decide) ?_
        refine lv_goto (tgt := 47) hx hb dX7_arithmetic_43 (by decide) ?_
        exact J47 _ _ _ ⟨by rw [if_pos c_11, if_pos c_16], hP, hS⟩
      · refine lv_iload_n hx hb dX7_arithmetic_19 rfl (lv_at hl 0 rfl) ?_
        refine lv_iconst (v := 2) hx hb dX7_arithmetic_20 (by decide) ?_
        refine lv_icmp_ne (tgt := 31) hx hb dX7_arithmetic_21 (by decide) (fun c_21 => ?_) (fun c_21 => ?_)
        · refine lv_iload_n hx hb dX7_arithmetic_31 rfl (lv_at hl 0 rfl) ?_
          refine lv_iconst (v := 3) hx hb dX7_arithmetic_32 (by decide) ?_
          refine lv_icmp_eq (tgt := 42) hx hb dX7_arithmetic_33 (by decide) (fun c_33 => ?_) (fun c_33 => ?_)
          · refine lv_iconst (v := 1) hx hb dX7_arithmetic_42 (by decide) ?_
            refine lv_goto (tgt := 47) hx hb dX7_arithmetic_43 (by decide) ?_
            exact J47 _ _ _ ⟨by rw [if_pos c_11, if_neg c_16, if_neg c_21, if_pos c_33], hP, hS⟩
          · refine lv_iload_n hx hb dX7_arithmetic_36 rfl (lv_at hl 0 rfl) ?_
            refine lv_bipush (v := 7) hx hb dX7_arithmetic_37 (by decide) ?_
            refine lv_icmp_ne (tgt := 46) hx hb dX7_arithmetic_39 (by decide) (fun c_39 => ?_) (fun c_39 => ?_)
            · refine lv_iconst (v := 0) hx hb dX7_arithmetic_46 (by decide) ?_
              exact J47 _ _ _ ⟨by rw [if_pos c_11, if_neg c_16, if_neg c_21, if_neg c_33, if_neg c_39], hP, hS⟩
            · refine lv_iconst (v := 1) hx hb dX7_arithmetic_42 (by decide) ?_
              refine lv_goto (tgt := 47) hx hb dX7_arithmetic_43 (by decide) ?_
              exact J47 _ _ _ ⟨by rw [if_pos c_11, if_neg c_16, if_neg c_21, if_neg c_33, if_pos c_39], hP, hS⟩
        · refine lv_iload_n hx hb dX7_arithmetic_24 rfl (lv_at hl 1 rfl) ?_
          refine lv_sipush (v := 137) hx hb dX7_arithmetic_25 (by decide) ?_
          refine lv_icmp_ne (tgt := 42) hx hb dX7_arithmetic_28 (by decide) (fun c_28 => ?_) (fun c_28 => ?_)
          · refine lv_iconst (v := 1) hx hb dX7_arithmetic_42 (by decide) ?_
            refine lv_goto (tgt := 47) hx hb dX7_arithmetic_43 (by decide) ?_
            exact J47 _ _ _ ⟨by rw [if_pos c_11, if_neg c_16, if_pos c_21, if_neg c_28], hP, hS⟩
          · refine lv_iload_n hx hb dX7_arithmetic_31 rfl (lv_at hl 0 rfl) ?_
            refine lv_iconst (v := 3) hx hb dX7_arithmetic_32 (by decide) ?_
            refine lv_icmp_eq (tgt := 42) hx hb dX7_arithmetic_33 (by decide) (fun c_33 => by exact absurd c_33 (by rw [c_21]; decide)) (fun c_33 => ?_)
            refine lv_iload_n hx hb dX7_arithmetic_36 rfl (lv_at hl 0 rfl) ?_
            refine lv_bipush (v := 7) hx hb dX7_arithmetic_37 (by decide) ?_
            refine lv_icmp_ne (tgt := 46) hx hb dX7_arithmetic_39 (by decide) (fun c_39 => ?_) (fun c_39 => by exact absurd c_39 (by rw [c_21]; decide))
            refine lv_iconst (v := 0) hx hb dX7_arithmetic_46 (by decide) ?_
            exact J47 _ _ _ ⟨by rw [if_pos c_11, if_neg c_16, if_pos c_21, if_pos c_28], hP, hS⟩
def fX7_writes (mo_code : Int32) (mo_step : Int32) : Int32 :=
  if mo_step = (0:Int32) then
   (0:Int32)
  else
   if mo_code = (256:Int32) then
    (if mo_step < (2:Int32) then (0:Int32) else (if (4:Int32) < mo_step then (0:Int32) else (1:Int32)))
   else
    if mo_code = (133:Int32) then
     (if mo_step = (2:Int32) then (1:Int32) else (0:Int32))
    else
     if mo_code = (141:Int32) then
      (if mo_step = (3:Int32) then (1:Int32) else (0:Int32))
     else
      if mo_code = (157:Int32) then
       (if mo_step = (4:Int32) then (1:Int32) else (0:Int32))
      else
       if mo_code = (134:Int32) then
        (if mo_step = (2:Int32) then (1:Int32) else (0:Int32))
       else
        if mo_code = (132:Int32) then
         (if mo_step = (2:Int32) then (1:Int32) else (0:Int32))
        else
         if mo_code = (72:Int32) then
          (if mo_step = (2:Int32) then (1:Int32) else (0:Int32))
         else
          (if mo_code = (230:Int32) then (if mo_step < (3:Int32) then (0:Int32) else (if (4:Int32) < mo_step then (0:Int32) else (1:Int32))) else (if mo_code = (198:Int32) then (if mo_step < (3:Int32) then (0:Int32) else (if (4:Int32) < mo_step then (0:Int32) else (1:Int32))) else (if mo_code = (32:Int32) then (if mo_step < (3:Int32) then (0:Int32) else (if (4:Int32) < mo_step then (0:Int32) else (1:Int32))) else (0:Int32))))
set_option maxHeartbeats 4000000 in
set_option maxRecDepth 100000 in
theorem mX7_writes (l : Launch) (dC : Nat → ClassId) (dI : Nat → Nat → Nat) (q_mo q_mra q_mrA q_mrc q_mrk q_mpi q_mwc q_mwo q_mco q_mpo q_mky q_mla q_mcn q_mct : Nat) (k_mra k_mrA k_mrc k_mrk k_mpi k_mwc k_mwo k_mco k_mpo k_mky k_mla k_mcn k_mct : ClassId) (sz : Nat) (mo_port mo_line mo_cycle mo_raised mo_idle mo_bad mo_glyph mo_fetched mo_rows mo_flags2 mo_enabled mo_a mo_x mo_y mo_s mo_flags mo_p mo_jammed mo_code mo_step mo_low mo_high mo_old mo_latest mo_cycles mo_stolen mo_interrupts mo_accesses : Int32) (f_mra f_mrA f_mrc f_mrk f_mpi f_mwc f_mwo f_mco f_mpo f_mky f_mla f_mcn f_mct : Nat → Int32) : Met l yX7_writes uX7_writes ({ frames := 0, cells := 0, slots := 0, locals := 0 }) (va_Pc [.ref q_mo] (fun U => U.heap.size = sz ∧ va_P (dC, dI) vwCl (wwX7 q_mo q_mra q_mrA q_mrc q_mrk q_mpi q_mwc q_mwo q_mco q_mpo q_mky q_mla q_mcn q_mct k_mra k_mrA k_mrc k_mrk k_mpi k_mwc k_mwo k_mco k_mpo k_mky k_mla k_mcn k_mct mo_port mo_line mo_cycle mo_raised mo_idle mo_bad mo_glyph mo_fetched mo_rows mo_flags2 mo_enabled mo_a mo_x mo_y mo_s mo_flags mo_p mo_jammed mo_code mo_step mo_low mo_high mo_old mo_latest mo_cycles mo_stolen mo_interrupts mo_accesses f_mra f_mrA f_mrc f_mrk f_mpi f_mwc f_mwo f_mco f_mpo f_mky f_mla f_mcn f_mct) U.heap ∧ va_K (dC, dI) vwCl [(k_mra, .int), (k_mrA, .int), (k_mrc, .int), (k_mrk, .int), (k_mpi, .int), (k_mwc, .int), (k_mwo, .int), (k_mco, .int), (k_mpo, .int), (k_mky, .int), (k_mla, .int), (k_mcn, .int), (k_mct, .int)] U ∧ va_D (fun _ => True) (wwX7 q_mo q_mra q_mrA q_mrc q_mrk q_mpi q_mwc q_mwo q_mco q_mpo q_mky q_mla q_mcn q_mct k_mra k_mrA k_mrc k_mrk k_mpi k_mwc k_mwo k_mco k_mpo k_mky k_mla k_mcn k_mct mo_port mo_line mo_cycle mo_raised mo_idle mo_bad mo_glyph mo_fetched mo_rows mo_flags2 mo_enabled mo_a mo_x mo_y mo_s mo_flags mo_p mo_jammed mo_code mo_step mo_low mo_high mo_old mo_latest mo_cycles mo_stolen mo_interrupts mo_accesses f_mra f_mrA f_mrc f_mrk f_mpi f_mwc f_mwo f_mco f_mpo f_mky f_mla f_mcn f_mct))) (va_Qi (fun (r : Int32) (u : Unit) => r = fX7_writes mo_code mo_step) (fun (u : Unit) (t : State) => va_P (dC, dI) vwCl (wwX7 q_mo q_mra q_mrA q_mrc q_mrk q_mpi q_mwc q_mwo q_mco q_mpo q_mky q_mla q_mcn q_mct k_mra k_mrA k_mrc k_mrk k_mpi k_mwc k_mwo k_mco k_mpo k_mky k_mla k_mcn k_mct mo_port mo_line mo_cycle mo_raised mo_idle mo_bad mo_glyph mo_fetched mo_rows mo_flags2 mo_enabled mo_a mo_x mo_y mo_s mo_flags mo_p mo_jammed mo_code mo_step mo_low mo_high mo_old mo_latest mo_cycles mo_stolen mo_interrupts mo_accesses f_mra f_mrA f_mrc f_mrk f_mpi f_mwc f_mwo f_mco f_mpo f_mky f_mla f_mcn f_mct) t.heap ∧ va_K (dC, dI) vwCl [(k_mra, .int), (k_mrA, .int), (k_mrc, .int), (k_mrk, .int), (k_mpi, .int), (k_mwc, .int), (k_mwo, .int), (k_mco, .int), (k_mpo, .int), (k_mky, .int), (k_mla, .int), (k_mcn, .int), (k_mct, .int)] t ∧ va_D (va_A (wwX7 q_mo q_mra q_mrA q_mrc q_mrk q_mpi q_mwc q_mwo q_mco q_mpo q_mky q_mla q_mcn q_mct k_mra k_mrA k_mrc k_mrk k_mpi k_mwc k_mwo k_mco k_mpo k_mky k_mla k_mcn k_mct mo_port mo_line mo_cycle mo_raised mo_idle mo_bad mo_glyph mo_fetched mo_rows mo_flags2 mo_enabled mo_a mo_x mo_y mo_s mo_flags mo_p mo_jammed mo_code mo_step mo_low mo_high mo_old mo_latest mo_cycles mo_stolen mo_interrupts mo_accesses f_mra f_mrA f_mrc f_mrk f_mpi f_mwc f_mwo f_mco f_mpo f_mky f_mla f_mcn f_mct) sz) (wwX7 q_mo q_mra q_mrA q_mrc q_mrk q_mpi q_mwc q_mwo q_mco q_mpo q_mky q_mla q_mcn q_mct k_mra k_mrA k_mrc k_mrk k_mpi k_mwc k_mwo k_mco k_mpo k_mky k_mla k_mcn k_mct mo_port mo_line mo_cycle mo_raised mo_idle mo_bad mo_glyph mo_fetched mo_rows mo_flags2 mo_enabled mo_a mo_x mo_y mo_s mo_flags mo_p mo_jammed mo_code mo_step mo_low mo_high mo_old mo_latest mo_cycles mo_stolen mo_interrupts mo_accesses f_mra f_mrA f_mrc f_mrk f_mpi f_mwc f_mwo f_mco f_mpo f_mky f_mla f_mcn f_mct)) (va_A (wwX7 q_mo q_mra q_mrA q_mrc q_mrk q_mpi q_mwc q_mwo q_mco q_mpo q_mky q_mla q_mcn q_mct k_mra k_mrA k_mrc k_mrk k_mpi k_mwc k_mwo k_mco k_mpo k_mky k_mla k_mcn k_mct mo_port mo_line mo_cycle mo_raised mo_idle mo_bad mo_glyph mo_fetched mo_rows mo_flags2 mo_enabled mo_a mo_x mo_y mo_s mo_flags mo_p mo_jammed mo_code mo_step mo_low mo_high mo_old mo_latest mo_cycles mo_stolen mo_interrupts mo_accesses f_mra f_mrA f_mrc f_mrk f_mpi f_mwc f_mwo f_mco f_mpo f_mky f_mla f_mcn f_mct) sz)) 0 0 (va_A (wwX7 q_mo q_mra q_mrA q_mrc q_mrk q_mpi q_mwc q_mwo q_mco q_mpo q_mky q_mla q_mcn q_mct k_mra k_mrA k_mrc k_mrk k_mpi k_mwc k_mwo k_mco k_mpo k_mky k_mla k_mcn k_mct mo_port mo_line mo_cycle mo_raised mo_idle mo_bad mo_glyph mo_fetched mo_rows mo_flags2 mo_enabled mo_a mo_x mo_y mo_s mo_flags mo_p mo_jammed mo_code mo_step mo_low mo_high mo_old mo_latest mo_cycles mo_stolen mo_interrupts mo_accesses f_mra f_mrA f_mrc f_mrk f_mpi f_mwc f_mwo f_mco f_mpo f_mky f_mla f_mcn f_mct) sz) := by
  refine Met.ofW (cc := cX7_writes) (maxL := 1) (ret := (some .boolean)) (by decide) rfl ?_
  intro p e s m args below meth c s₁ B hml hv
  obtain ⟨rfl, hsz, hP, hK, hD0⟩ := hv
  have hx := B.exec
  have hb := B.bytes
  have hr := B.returns
  have hts : ∀ w ∈ ub, w.before _ s = true := fun w h => atoms_spec (ws := uX7_writes) B.pre w (List.mem_cons_of_mem _ h)
  have hown : s.vm.findClass RX7 = some m.cls := findClass_of_methodNamed B.named
  have hlocks := B.notSynchronized
  subst hsz
  have hD := hD0.self (sz := s.heap.size)
  generalize hAe : va_A (wwX7 q_mo q_mra q_mrA q_mrc q_mrk q_mpi q_mwc q_mwo q_mco q_mpo q_mky q_mla q_mcn q_mct k_mra k_mrA k_mrc k_mrk k_mpi k_mwc k_mwo k_mco k_mpo k_mky k_mla k_mcn k_mct mo_port mo_line mo_cycle mo_raised mo_idle mo_bad mo_glyph mo_fetched mo_rows mo_flags2 mo_enabled mo_a mo_x mo_y mo_s mo_flags mo_p mo_jammed mo_code mo_step mo_low mo_high mo_old mo_latest mo_cycles mo_stolen mo_interrupts mo_accesses f_mra f_mrA f_mrc f_mrk f_mpi f_mwc f_mwo f_mco f_mpo f_mky f_mla f_mcn f_mct) s.heap.size = A at hD ⊢
  have hA : ∀ q : Nat, s.heap.size ≤ q → A q := fun q h => by rw [← hAe]; exact Or.inr h
  have hS : va_S A s.heap s.heap [] := va_S.rf
  have hl := lv_entry ([.ref q_mo]) (n := 1) (Nat.le_of_ble_eq_true rfl)
  rw [lg_entry_eq]
  generalize (lg_sl ([.ref q_mo]) ++ List.replicate (1 - (lg_sl ([.ref q_mo])).length) Slot.unset).toArray = ls at hl ⊢
  have hl : lv_has ls 1 [(0, .ref q_mo)] := hl
  have hF := fX7_writes.eq_1 mo_code mo_step
  refine lv_aload_n hx hb dX7_writes_0 rfl (lv_at hl 0 rfl) ?_
  refine va_get (D := (dC, dI)) (ci := 7) (v := .int mo_step) (C := RX7) (T := TX7) (N := 41) hx hb hts hiX7 hown hK hP 0 rfl rfl 32 (by decide) (hts _ kFX7_148) (fun _ h9 => h9) rfl dX7_writes_1 ?_
  refine lv_if_ne (tgt := 9) hx hb dX7_writes_4 (by decide) (fun c_4 => ?_) (fun c_4 => ?_)
  · have hF := hF.trans (if_neg c_4)
    refine lv_aload_n hx hb dX7_writes_9 rfl (lv_at hl 0 rfl) ?_
    refine va_get (D := (dC, dI)) (ci := 7) (v := .int mo_code) (C := RX7) (T := TX7) (N := 41) hx hb hts hiX7 hown hK hP 0 rfl rfl 31 (by decide) (hts _ kFX7_167) (fun _ h9 => h9) rfl dX7_writes_10 ?_
    refine lv_sipush (v := 256) hx hb dX7_writes_13 (by decide) ?_
    refine lv_icmp_ne (tgt := 41) hx hb dX7_writes_16 (by decide) (fun c_16 => ?_) (fun c_16 => ?_)
    · have hF := hF.trans (if_neg c_16)
      refine lv_aload_n hx hb dX7_writes_41 rfl (lv_at hl 0 rfl) ?_
      refine va_get (D := (dC, dI)) (ci := 7) (v := .int mo_code) (C := RX7) (T := TX7) (N := 41) hx hb hts hiX7 hown hK hP 0 rfl rfl 31 (by decide) (hts _ kFX7_167) (fun _ h9 => h9) rfl dX7_writes_42 ?_
      refine lv_sipush (v := 133) hx hb dX7_writes_45 (by decide) ?_
      refine lv_icmp_ne (tgt := 65) hx hb dX7_writes_48 (by decide) (fun c_48 => ?_) (fun c_48 => ?_)
      · have hF := hF.trans (if_neg c_48)
        refine lv_aload_n hx hb dX7_writes_65 rfl (lv_at hl 0 rfl) ?_
        refine va_get (D := (dC, dI)) (ci := 7) (v := .int mo_code) (C := RX7) (T := TX7) (N := 41) hx hb hts hiX7 hown hK hP 0 rfl rfl 31 (by decide) (hts _ kFX7_167) (fun _ h9 => h9) rfl dX7_writes_66 ?_
        refine lv_sipush (v := 141) hx hb dX7_writes_69 (by decide) ?_
        refine lv_icmp_ne (tgt := 89) hx hb dX7_writes_72 (by decide) (fun c_72 => ?_) (fun c_72 => ?_)
        · have hF := hF.trans (if_neg c_72)
          refine lv_aload_n hx hb dX7_writes_89 rfl (lv_at hl 0 rfl) ?_
          refine va_get (D := (dC, dI)) (ci := 7) (v := .int mo_code) (C := RX7) (T := TX7) (N := 41) hx hb hts hiX7 hown hK hP 0 rfl rfl 31 (by decide) (hts _ kFX7_167) (fun _ h9 => h9) rfl dX7_writes_90 ?_
          refine lv_sipush (v := 157) hx hb dX7_writes_93 (by decide) ?_
          refine lv_icmp_ne (tgt := 113) hx hb dX7_writes_96 (by decide) (fun c_96 => ?_) (fun c_96 => ?_)
          · have hF := hF.trans (if_neg c_96)
            refine lv_aload_n hx hb dX7_writes_113 rfl (lv_at hl 0 rfl) ?_
            refine va_get (D := (dC, dI)) (ci := 7) (v := .int mo_code) (C := RX7) (T := TX7) (N := 41) hx hb hts hiX7 hown hK hP 0 rfl rfl 31 (by decide) (hts _ kFX7_167) (fun _ h9 => h9) rfl dX7_writes_114 ?_
            refine lv_sipush (v := 134) hx hb dX7_writes_117 (by decide) ?_
            refine lv_icmp_eq (tgt := 142) hx hb dX7_writes_120 (by decide) (fun c_120 => ?_) (fun c_120 => ?_)
            · have hF := hF.trans (if_pos c_120)
              refine lv_aload_n hx hb dX7_writes_142 rfl (lv_at hl 0 rfl) ?_
              refine va_get (D := (dC, dI)) (ci := 7) (v := .int mo_step) (C := RX7) (T := TX7) (N := 41) hx hb hts hiX7 hown hK hP 0 rfl rfl 32 (by decide) (hts _ kFX7_148) (fun _ h9 => h9) rfl dX7_writes_143 ?_
              refine lv_iconst (v := 2) hx hb dX7_writes_146 (by decide) ?_
              refine vj_join (j := 155) (rest := []) (Hyp := fun z H locs => z = (if mo_step = (2:Int32) then (1:Int32) else (0:Int32)) ∧ va_P (dC, dI) vwCl (wwX7 q_mo q_mra q_mrA q_mrc q_mrk q_mpi q_mwc q_mwo q_mco q_mpo q_mky q_mla q_mcn q_mct k_mra k_mrA k_mrc k_mrk k_mpi k_mwc k_mwo k_mco k_mpo k_mky k_mla k_mcn k_mct mo_port mo_line mo_cycle mo_raised mo_idle mo_bad mo_glyph mo_fetched mo_rows mo_flags2 mo_enabled mo_a mo_x mo_y mo_s mo_flags mo_p mo_jammed mo_code mo_step mo_low mo_high mo_old mo_latest mo_cycles mo_stolen mo_interrupts mo_accesses f_mra f_mrA f_mrc f_mrk f_mpi f_mwc f_mwo f_mco f_mpo f_mky f_mla f_mcn f_mct) H ∧ va_S A s.heap H locs) (fun z H locs hh => ?_) (fun J155 => ?_)
              · obtain ⟨hz, hP, hS⟩ := hh
                subst hz
                exact W.zret (v := (if mo_step = (2:Int32) then (1:Int32) else (0:Int32))) hx hb hr (nb_if rfl rfl) (fun t ht hW => ⟨⟨(if mo_step = (2:Int32) then (1:Int32) else (0:Int32)), (), rfl, hF.symm, by rw [ht]; exact hP, va_K.moved hW.alike hK, hD⟩, hS.F ht⟩) hS.2.2 dX7_writes_155
              · refine lv_icmp_ne (tgt := 154) hx hb dX7_writes_147 (by decide) (fun c_147 => ?_) (fun c_147 => ?_)
                · refine lv_iconst (v := 0) hx hb dX7_writes_154 (by decide) ?_
                  exact J155 _ _ _ ⟨by rw [if_neg c_147], hP, hS⟩
                · refine lv_iconst (v := 1) hx hb dX7_writes_150 (by decide) ?_
                  refine lv_goto (tgt := 155) hx hb dX7_writes_151 (by decide) ?_
                  exact J155 _ _ _ ⟨by rw [if_pos c_147], hP, hS⟩
            · have hF := hF.trans (if_neg c_120)
              refine lv_aload_n hx hb dX7_writes_123 rfl (lv_at hl 0 rfl) ?_
              refine va_get (D := (dC, dI)) (ci := 7) (v := .int mo_code) (C := RX7) (T := TX7) (N := 41) hx hb hts hiX7 hown hK hP 0 rfl rfl 31 (by decide) (hts _ kFX7_167) (fun _ h9 => h9) rfl dX7_writes_124 ?_
              refine lv_sipush (v := 132) hx hb dX7_writes_127 (by decide) ?_
              refine lv_icmp_eq (tgt := 142) hx hb dX7_writes_130 (by decide) (fun c_130 => ?_) (fun c_130 => ?_)
              · have hF := hF.trans (if_pos c_130)
                refine lv_aload_n hx hb dX7_writes_142 rfl (lv_at hl 0 rfl) ?_
                refine va_get (D := (dC, dI)) (ci := 7) (v := .int mo_step) (C := RX7) (T := TX7) (N := 41) hx hb hts hiX7 hown hK hP 0 rfl rfl 32 (by decide) (hts _ kFX7_148) (fun _ h9 => h9) rfl dX7_writes_143 ?_
                refine lv_iconst (v := 2) hx hb dX7_writes_146 (by decide) ?_
                refine vj_join (j := 155) (rest := []) (Hyp := fun z H locs => z = (if mo_step = (2:Int32) then (1:Int32) else (0:Int32)) ∧ va_P (dC, dI) vwCl (wwX7 q_mo q_mra q_mrA q_mrc q_mrk q_mpi q_mwc q_mwo q_mco q_mpo q_mky q_mla q_mcn q_mct k_mra k_mrA k_mrc k_mrk k_mpi k_mwc k_mwo k_mco k_mpo k_mky k_mla k_mcn k_mct mo_port mo_line mo_cycle mo_raised mo_idle mo_bad mo_glyph mo_fetched mo_rows mo_flags2 mo_enabled mo_a mo_x mo_y mo_s mo_flags mo_p mo_jammed mo_code mo_step mo_low mo_high mo_old mo_latest mo_cycles mo_stolen mo_interrupts mo_accesses f_mra f_mrA f_mrc f_mrk f_mpi f_mwc f_mwo f_mco f_mpo f_mky f_mla f_mcn f_mct) H ∧ va_S A s.heap H locs) (fun z H locs hh => ?_) (fun J155 => ?_)
                · obtain ⟨hz, hP, hS⟩ := hh
                  subst hz
                  exact W.zret (v := (if mo_step = (2:Int32) then (1:Int32) else (0:Int32))) hx hb hr (nb_if rfl rfl) (fun t ht hW => ⟨⟨(if mo_step = (2:Int32) then (1:Int32) else (0:Int32)), (), rfl, hF.symm, by rw [ht]; exact hP, va_K.moved hW.alike hK, hD⟩, hS.F ht⟩) hS.2.2 dX7_writes_155
                · refine lv_icmp_ne (tgt := 154) hx hb dX7_writes_147 (by decide) (fun c_147 => ?_) (fun c_147 => ?_)
                  · refine lv_iconst (v := 0) hx hb dX7_writes_154 (by decide) ?_
                    exact J155 _ _ _ ⟨by rw [if_neg c_147], hP, hS⟩
                  · refine lv_iconst (v := 1) hx hb dX7_writes_150 (by decide) ?_
                    refine lv_goto (tgt := 155) hx hb dX7_writes_151 (by decide) ?_
                    exact J155 _ _ _ ⟨by rw [if_pos c_147], hP, hS⟩
              · have hF := hF.trans (if_neg c_130)
                refine lv_aload_n hx hb dX7_writes_133 rfl (lv_at hl 0 rfl) ?_
                refine va_get (D := (dC, dI)) (ci := 7) (v := .int mo_code) (C := RX7) (T := TX7) (N := 41) hx hb hts hiX7 hown hK hP 0 rfl rfl 31 (by decide) (hts _ kFX7_167) (fun _ h9 => h9) rfl dX7_writes_134 ?_
                refine lv_bipush (v := 72) hx hb dX7_writes_137 (by decide) ?_
                refine lv_icmp_ne (tgt := 156) hx hb dX7_writes_139 (by decide) (fun c_139 => ?_) (fun c_139 => ?_)
                · have hF := hF.trans (if_neg c_139)
                  refine lv_aload_n hx hb dX7_writes_156 rfl (lv_at hl 0 rfl) ?_
                  refine va_get (D := (dC, dI)) (ci := 7) (v := .int mo_code) (C := RX7) (T := TX7) (N := 41) hx hb hts hiX7 hown hK hP 0 rfl rfl 31 (by decide) (hts _ kFX7_167) (fun _ h9 => h9) rfl dX7_writes_157 ?_
                  refine lv_sipush (v := 230) hx hb dX7_writes_160 (by decide) ?_
                  refine vj_join (j := 206) (rest := []) (Hyp := fun z H locs => z = (if mo_code = (230:Int32) then (if mo_step < (3:Int32) then (0:Int32) else (if (4:Int32) < mo_step then (0:Int32) else (1:Int32))) else (if mo_code = (198:Int32) then (if mo_step < (3:Int32) then (0:Int32) else (if (4:Int32) < mo_step then (0:Int32) else (1:Int32))) else (if mo_code = (32:Int32) then (if mo_step < (3:Int32) then (0:Int32) else (if (4:Int32) < mo_step then (0:Int32) else (1:Int32))) else (0:Int32)))) ∧ va_P (dC, dI) vwCl (wwX7 q_mo q_mra q_mrA q_mrc q_mrk q_mpi q_mwc q_mwo q_mco q_mpo q_mky q_mla q_mcn q_mct k_mra k_mrA k_mrc k_mrk k_mpi k_mwc k_mwo k_mco k_mpo k_mky k_mla k_mcn k_mct mo_port mo_line mo_cycle mo_raised mo_idle mo_bad mo_glyph mo_fetched mo_rows mo_flags2 mo_enabled mo_a mo_x mo_y mo_s mo_flags mo_p mo_jammed mo_code mo_step mo_low mo_high mo_old mo_latest mo_cycles mo_stolen mo_interrupts mo_accesses f_mra f_mrA f_mrc f_mrk f_mpi f_mwc f_mwo f_mco f_mpo f_mky f_mla f_mcn f_mct) H ∧ va_S A s.heap H locs) (fun z H locs hh => ?_) (fun J206 => ?_)
                  · obtain ⟨hz, hP, hS⟩ := hh
                    subst hz
                    exact W.zret (v := (if mo_code = (230:Int32) then (if mo_step < (3:Int32) then (0:Int32) else (if (4:Int32) < mo_step then (0:Int32) else (1:Int32))) else (if mo_code = (198:Int32) then (if mo_step < (3:Int32) then (0:Int32) else (if (4:Int32) < mo_step then (0:Int32) else (1:Int32))) else (if mo_code = (32:Int32) then (if mo_step < (3:Int32) then (0:Int32) else (if (4:Int32) < mo_step then (0:Int32) else (1:Int32))) else (0:Int32))))) hx hb hr (nb_if (nb_if rfl (nb_if rfl rfl)) (nb_if (nb_if rfl (nb_if rfl rfl)) (nb_if (nb_if rfl (nb_if rfl rfl)) rfl))) (fun t ht hW => ⟨⟨(if mo_code = (230:Int32) then (if mo_step < (3:Int32) then (0:Int32) else (if (4:Int32) < mo_step then (0:Int32) else (1:Int32))) else (if mo_code = (198:Int32) then (if mo_step < (3:Int32) then (0:Int32) else (if (4:Int32) < mo_step then (0:Int32) else (1:Int32))) else (if mo_code = (32:Int32) then (if mo_step < (3:Int32) then (0:Int32) else (if (4:Int32) < mo_step then (0:Int32) else (1:Int32))) else (0:Int32)))), (), rfl, hF.symm, by rw [ht]; exact hP, va_K.moved hW.alike hK, hD⟩, hS.F ht⟩) hS.2.2 dX7_writes_206
                  · refine lv_icmp_eq (tgt := 185) hx hb dX7_writes_163 (by decide) (fun c_163 => ?_) (fun c_163 => ?_)
                    · refine lv_aload_n hx hb dX7_writes_185 rfl (lv_at hl 0 rfl) ?_
                      refine va_get (D := (dC, dI)) (ci := 7) (v := .int mo_step) (C := RX7) (T := TX7) (N := 41) hx hb hts hiX7 hown hK hP 0 rfl rfl 32 (by decide) (hts _ kFX7_148) (fun _ h9 => h9) rfl dX7_writes_186 ?_
                      refine lv_iconst (v := 3) hx hb dX7_writes_189 (by decide) ?_
                      refine lv_icmp_lt (tgt := 205) hx hb dX7_writes_190 (by decide) (fun c_190 => ?_) (fun c_190 => ?_)
                      · refine lv_iconst (v := 0) hx hb dX7_writes_205 (by decide) ?_
                        exact J206 _ _ _ ⟨by rw [if_pos c_163, if_pos c_190], hP, hS⟩
                      · refine lv_aload_n hx hb dX7_writes_193 rfl (lv_at hl 0 rfl) ?_
                        refine va_get (D := (dC, dI)) (ci := 7) (v := .int mo_step) (C := RX7) (T := TX7) (N := 41) hx hb hts hiX7 hown hK hP 0 rfl rfl 32 (by decide) (hts _ kFX7_148) (fun _ h9 => h9) rfl dX7_writes_194 ?_
                        refine lv_iconst (v := 4) hx hb dX7_writes_197 (by decide) ?_
                        refine lv_icmp_gt (tgt := 205) hx hb dX7_writes_198 (by decide) (fun c_198 => ?_) (fun c_198 => ?_)
                        · refine lv_iconst (v := 0) hx hb dX7_writes_205 (by decide) ?_
                          exact J206 _ _ _ ⟨by rw [if_pos c_163, if_neg c_190, if_pos c_198], hP, hS⟩
                        · refine lv_iconst (v := 1) hx hb dX7_writes_201 (by decide) ?_
                          refine lv_goto (tgt := 206) hx hb dX7_writes_202 (by decide) ?_
                          exact J206 _ _ _ ⟨by rw [if_pos c_163, if_neg c_190, if_neg c_198], hP, hS⟩
                    · refine lv_aload_n hx hb dX7_writes_166 rfl (lv_at hl 0 rfl) ?_
                      refine va_get (D := (dC, dI)) (ci := 7) (v := .int mo_code) (C := RX7) (T := TX7) (N := 41) hx hb hts hiX7 hown hK hP 0 rfl rfl 31 (by decide) (hts _ kFX7_167) (fun _ h9 => h9) rfl dX7_writes_167 ?_
                      refine lv_sipush (v := 198) hx hb dX7_writes_170 (by decide) ?_
                      refine lv_icmp_eq (tgt := 185) hx hb dX7_writes_173 (by decide) (fun c_173 => ?_) (fun c_173 => ?_)
                      · refine lv_aload_n hx hb dX7_writes_185 rfl (lv_at hl 0 rfl) ?_
                        refine va_get (D := (dC, dI)) (ci := 7) (v := .int mo_step) (C := RX7) (T := TX7) (N := 41) hx hb hts hiX7 hown hK hP 0 rfl rfl 32 (by decide) (hts _ kFX7_148) (fun _ h9 => h9) rfl dX7_writes_186 ?_
                        refine lv_iconst (v := 3) hx hb dX7_writes_189 (by decide) ?_
                        refine lv_icmp_lt (tgt := 205) hx hb dX7_writes_190 (by decide) (fun c_190 => ?_) (fun c_190 => ?_)
                        · refine lv_iconst (v := 0) hx hb dX7_writes_205 (by decide) ?_
                          exact J206 _ _ _ ⟨by rw [if_neg c_163, if_pos c_173, if_pos c_190], hP, hS⟩
                        · refine lv_aload_n hx hb dX7_writes_193 rfl (lv_at hl 0 rfl) ?_
                          refine va_get (D := (dC, dI)) (ci := 7) (v := .int mo_step) (C := RX7) (T := TX7) (N := 41) hx hb hts hiX7 hown hK hP 0 rfl rfl 32 (by decide) (hts _ kFX7_148) (fun _ h9 => h9) rfl dX7_writes_194 ?_
                          refine lv_iconst (v := 4) hx hb dX7_writes_197 (by decide) ?_
                          refine lv_icmp_gt (tgt := 205) hx hb dX7_writes_198 (by decide) (fun c_198 => ?_) (fun c_198 => ?_)
                          · refine lv_iconst (v := 0) hx hb dX7_writes_205 (by decide) ?_
                            exact J206 _ _ _ ⟨by rw [if_neg c_163, if_pos c_173, if_neg c_190, if_pos c_198], hP, hS⟩
                          · refine lv_iconst (v := 1) hx hb dX7_writes_201 (by decide) ?_
                            refine lv_goto (tgt := 206) hx hb dX7_writes_202 (by decide) ?_
                            exact J206 _ _ _ ⟨by rw [if_neg c_163, if_pos c_173, if_neg c_190, if_neg c_198], hP, hS⟩
                      · refine lv_aload_n hx hb dX7_writes_176 rfl (lv_at hl 0 rfl) ?_
                        refine va_get (D := (dC, dI)) (ci := 7) (v := .int mo_code) (C := RX7) (T := TX7) (N := 41) hx hb hts hiX7 hown hK hP 0 rfl rfl 31 (by decide) (hts _ kFX7_167) (fun _ h9 => h9) rfl dX7_writes_177 ?_
                        refine lv_bipush (v := 32) hx hb dX7_writes_180 (by decide) ?_
                        refine lv_icmp_ne (tgt := 205) hx hb dX7_writes_182 (by decide) (fun c_182 => ?_) (fun c_182 => ?_)
                        · refine lv_iconst (v := 0) hx hb dX7_writes_205 (by decide) ?_
                          exact J206 _ _ _ ⟨by rw [if_neg c_163, if_neg c_173, if_neg c_182], hP, hS⟩
                        · refine lv_aload_n hx hb dX7_writes_185 rfl (lv_at hl 0 rfl) ?_
                          refine va_get (D := (dC, dI)) (ci := 7) (v := .int mo_step) (C := RX7) (T := TX7) (N := 41) hx hb hts hiX7 hown hK hP 0 rfl rfl 32 (by decide) (hts _ kFX7_148) (fun _ h9 => h9) rfl dX7_writes_186 ?_
                          refine lv_iconst (v := 3) hx hb dX7_writes_189 (by decide) ?_
                          refine lv_icmp_lt (tgt := 205) hx hb dX7_writes_190 (by decide) (fun c_190 => ?_) (fun c_190 => ?_)
                          · refine lv_iconst (v := 0) hx hb dX7_writes_205 (by decide) ?_
                            exact J206 _ _ _ ⟨by rw [if_neg c_163, if_neg c_173, if_pos c_182, if_pos c_190], hP, hS⟩
                          · refine lv_aload_n hx hb dX7_writes_193 rfl (lv_at hl 0 rfl) ?_
                            refine va_get (D := (dC, dI)) (ci := 7) (v := .int mo_step) (C := RX7) (T := TX7) (N := 41) hx hb hts hiX7 hown hK hP 0 rfl rfl 32 (by decide) (hts _ kFX7_148) (fun _ h9 => h9) rfl dX7_writes_194 ?_
                            refine lv_iconst (v := 4) hx hb dX7_writes_197 (by decide) ?_
                            refine lv_icmp_gt (tgt := 205) hx hb dX7_writes_198 (by decide) (fun c_198 => ?_) (fun c_198 => ?_)
                            · refine lv_iconst (v := 0) hx hb dX7_writes_205 (by decide) ?_
                              exact J206 _ _ _ ⟨by rw [if_neg c_163, if_neg c_173, if_pos c_182, if_neg c_190, if_pos c_198], hP, hS⟩
                            · refine lv_iconst (v := 1) hx hb dX7_writes_201 (by decide) ?_
                              refine lv_goto (tgt := 206) hx hb dX7_writes_202 (by decide) ?_
                              exact J206 _ _ _ ⟨by rw [if_neg c_163, if_neg c_173, if_pos c_182, if_neg c_190, if_neg c_198], hP, hS⟩
                · have hF := hF.trans (if_pos c_139)
                  refine lv_aload_n hx hb dX7_writes_142 rfl (lv_at hl 0 rfl) ?_
                  refine va_get (D := (dC, dI)) (ci := 7) (v := .int mo_step) (C := RX7) (T := TX7) (N := 41) hx hb hts hiX7 hown hK hP 0 rfl rfl 32 (by decide) (hts _ kFX7_148) (fun _ h9 => h9) rfl dX7_writes_143 ?_
                  refine lv_iconst (v := 2) hx hb dX7_writes_146 (by decide) ?_
                  refine vj_join (j := 155) (rest := []) (Hyp := fun z H locs => z = (if mo_step = (2:Int32) then (1:Int32) else (0:Int32)) ∧ va_P (dC, dI) vwCl (wwX7 q_mo q_mra q_mrA q_mrc q_mrk q_mpi q_mwc q_mwo q_mco q_mpo q_mky q_mla q_mcn q_mct k_mra k_mrA k_mrc k_mrk k_mpi k_mwc k_mwo k_mco k_mpo k_mky k_mla k_mcn k_mct mo_port mo_line mo_cycle mo_raised mo_idle mo_bad mo_glyph mo_fetched mo_rows mo_flags2 mo_enabled mo_a mo_x mo_y mo_s mo_flags mo_p mo_jammed mo_code mo_step mo_low mo_high mo_old mo_latest mo_cycles mo_stolen mo_interrupts mo_accesses f_mra f_mrA f_mrc f_mrk f_mpi f_mwc f_mwo f_mco f_mpo f_mky f_mla f_mcn f_mct) H ∧ va_S A s.heap H locs) (fun z H locs hh => ?_) (fun J155 => ?_)
                  · obtain ⟨hz, hP, hS⟩ := hh
                    subst hz
                    exact W.zret (v := (if mo_step = (2:Int32) then (1:Int32) else (0:Int32))) hx hb hr (nb_if rfl rfl) (fun t ht hW => ⟨⟨(if mo_step = (2:Int32) then (1:Int32) else (0:Int32)), (), rfl, hF.symm, by rw [ht]; exact hP, va_K.moved hW.alike hK, hD⟩, hS.F ht⟩) hS.2.2 dX7_writes_155
                  · refine lv_icmp_ne (tgt := 154) hx hb dX7_writes_147 (by decide) (fun c_147 => ?_) (fun c_147 => ?_)
                    · refine lv_iconst (v := 0) hx hb dX7_writes_154 (by decide) ?_
                      exact J155 _ _ _ ⟨by rw [if_neg c_147], hP, hS⟩
                    · refine lv_iconst (v := 1) hx hb dX7_writes_150 (by decide) ?_
                      refine lv_goto (tgt := 155) hx hb dX7_writes_151 (by decide) ?_
                      exact J155 _ _ _ ⟨by rw [if_pos c_147], hP, hS⟩
          · have hF := hF.trans (if_pos c_96)
            refine lv_aload_n hx hb dX7_writes_99 rfl (lv_at hl 0 rfl) ?_
            refine va_get (D := (dC, dI)) (ci := 7) (v := .int mo_step) (C := RX7) (T := TX7) (N := 41) hx hb hts hiX7 hown hK hP 0 rfl rfl 32 (by decide) (hts _ kFX7_148) (fun _ h9 => h9) rfl dX7_writes_100 ?_
            refine lv_iconst (v := 4) hx hb dX7_writes_103 (by decide) ?_
            refine vj_join (j := 112) (rest := []) (Hyp := fun z H locs => z = (if mo_step = (4:Int32) then (1:Int32) else (0:Int32)) ∧ va_P (dC, dI) vwCl (wwX7 q_mo q_mra q_mrA q_mrc q_mrk q_mpi q_mwc q_mwo q_mco q_mpo q_mky q_mla q_mcn q_mct k_mra k_mrA k_mrc k_mrk k_mpi k_mwc k_mwo k_mco k_mpo k_mky k_mla k_mcn k_mct mo_port mo_line mo_cycle mo_raised mo_idle mo_bad mo_glyph mo_fetched mo_rows mo_flags2 mo_enabled mo_a mo_x mo_y mo_s mo_flags mo_p mo_jammed mo_code mo_step mo_low mo_high mo_old mo_latest mo_cycles mo_stolen mo_interrupts mo_accesses f_mra f_mrA f_mrc f_mrk f_mpi f_mwc f_mwo f_mco f_mpo f_mky f_mla f_mcn f_mct) H ∧ va_S A s.heap H locs) (fun z H locs hh => ?_) (fun J112 => ?_)
            · obtain ⟨hz, hP, hS⟩ := hh
              subst hz
              exact W.zret (v := (if mo_step = (4:Int32) then (1:Int32) else (0:Int32))) hx hb hr (nb_if rfl rfl) (fun t ht hW => ⟨⟨(if mo_step = (4:Int32) then (1:Int32) else (0:Int32)), (), rfl, hF.symm, by rw [ht]; exact hP, va_K.moved hW.alike hK, hD⟩, hS.F ht⟩) hS.2.2 dX7_writes_112
            · refine lv_icmp_ne (tgt := 111) hx hb dX7_writes_104 (by decide) (fun c_104 => ?_) (fun c_104 => ?_)
              · refine lv_iconst (v := 0) hx hb dX7_writes_111 (by decide) ?_
                exact J112 _ _ _ ⟨by rw [if_neg c_104], hP, hS⟩
              · refine lv_iconst (v := 1) hx hb dX7_writes_107 (by decide) ?_
                refine lv_goto (tgt := 112) hx hb dX7_writes_108 (by decide) ?_
                exact J112 _ _ _ ⟨by rw [if_pos c_104], hP, hS⟩
        · have hF := hF.trans (if_pos c_72)
          refine lv_aload_n hx hb dX7_writes_75 rfl (lv_at hl 0 rfl) ?_
          refine va_get (D := (dC, dI)) (ci := 7) (v := .int mo_step) (C := RX7) (T := TX7) (N := 41) hx hb hts hiX7 hown hK hP 0 rfl rfl 32 (by decide) (hts _ kFX7_148) (fun _ h9 => h9) rfl dX7_writes_76 ?_
          refine lv_iconst (v := 3) hx hb dX7_writes_79 (by decide) ?_
          refine vj_join (j := 88) (rest := []) (Hyp := fun z H locs => z = (if mo_step = (3:Int32) then (1:Int32) else (0:Int32)) ∧ va_P (dC, dI) vwCl (wwX7 q_mo q_mra q_mrA q_mrc q_mrk q_mpi q_mwc q_mwo q_mco q_mpo q_mky q_mla q_mcn q_mct k_mra k_mrA k_mrc k_mrk k_mpi k_mwc k_mwo k_mco k_mpo k_mky k_mla k_mcn k_mct mo_port mo_line mo_cycle mo_raised mo_idle mo_bad mo_glyph mo_fetched mo_rows mo_flags2 mo_enabled mo_a mo_x mo_y mo_s mo_flags mo_p mo_jammed mo_code mo_step mo_low mo_high mo_old mo_latest mo_cycles mo_stolen mo_interrupts mo_accesses f_mra f_mrA f_mrc f_mrk f_mpi f_mwc f_mwo f_mco f_mpo f_mky f_mla f_mcn f_mct) H ∧ va_S A s.heap H locs) (fun z H locs hh => ?_) (fun J88 => ?_)
          · obtain ⟨hz, hP, hS⟩ := hh
            subst hz
            exact W.zret (v := (if mo_step = (3:Int32) then (1:Int32) else (0:Int32))) hx hb hr (nb_if rfl rfl) (fun t ht hW => ⟨⟨(if mo_step = (3:Int32) then (1:Int32) else (0:Int32)), (), rfl, hF.symm, by rw [ht]; exact hP, va_K.moved hW.alike hK, hD⟩, hS.F ht⟩) hS.2.2 dX7_writes_88
          · refine lv_icmp_ne (tgt := 87) hx hb dX7_writes_80 (by decide) (fun c_80 => ?_) (fun c_80 => ?_)
            · refine lv_iconst (v := 0) hx hb dX7_writes_87 (by decide) ?_
              exact J88 _ _ _ ⟨by rw [if_neg c_80], hP, hS⟩
            · refine lv_iconst (v := 1) hx hb dX7_writes_83 (by decide) ?_
              refine lv_goto (tgt := 88) hx hb dX7_writes_84 (by decide) ?_
              exact J88 _ _ _ ⟨by rw [if_pos c_80], hP, hS⟩
      · have hF := hF.trans (if_pos c_48)
        refine lv_aload_n hx hb dX7_writes_51 rfl (lv_at hl 0 rfl) ?_
        refine va_get (D := (dC, dI)) (ci := 7) (v := .int mo_step) (C := RX7) (T := TX7) (N := 41) hx hb hts hiX7 hown hK hP 0 rfl rfl 32 (by decide) (hts _ kFX7_148) (fun _ h9 => h9) rfl dX7_writes_52 ?_
        refine lv_iconst (v := 2) hx hb dX7_writes_55 (by decide) ?_
        refine vj_join (j := 64) (rest := []) (Hyp := fun z H locs => z = (if mo_step = (2:Int32) then (1:Int32) else (0:Int32)) ∧ va_P (dC, dI) vwCl (wwX7 q_mo q_mra q_mrA q_mrc q_mrk q_mpi q_mwc q_mwo q_mco q_mpo q_mky q_mla q_mcn q_mct k_mra k_mrA k_mrc k_mrk k_mpi k_mwc k_mwo k_mco k_mpo k_mky k_mla k_mcn k_mct mo_port mo_line mo_cycle mo_raised mo_idle mo_bad mo_glyph mo_fetched mo_rows mo_flags2 mo_enabled mo_a mo_x mo_y mo_s mo_flags mo_p mo_jammed mo_code mo_step mo_low mo_high mo_old mo_latest mo_cycles mo_stolen mo_interrupts mo_accesses f_mra f_mrA f_mrc f_mrk f_mpi f_mwc f_mwo f_mco f_mpo f_mky f_mla f_mcn f_mct) H ∧ va_S A s.heap H locs) (fun z H locs hh => ?_) (fun J64 => ?_)
        · obtain ⟨hz, hP, hS⟩ := hh
          subst hz
          exact W.zret (v := (if mo_step = (2:Int32) then (1:Int32) else (0:Int32))) hx hb hr (nb_if rfl rfl) (fun t ht hW => ⟨⟨(if mo_step = (2:Int32) then (1:Int32) else (0:Int32)), (), rfl, hF.symm, by rw [ht]; exact hP, va_K.moved hW.alike hK, hD⟩, hS.F ht⟩) hS.2.2 dX7_writes_64
        · refine lv_icmp_ne (tgt := 63) hx hb dX7_writes_56 (by decide) (fun c_56 => ?_) (fun c_56 => ?_)
          · refine lv_iconst (v := 0) hx hb dX7_writes_63 (by decide) ?_
            exact J64 _ _ _ ⟨by rw [if_neg c_56], hP, hS⟩
          · refine lv_iconst (v := 1) hx hb dX7_writes_59 (by decide) ?_
            refine lv_goto (tgt := 64) hx hb dX7_writes_60 (by decide) ?_
            exact J64 _ _ _ ⟨by rw [if_pos c_56], hP, hS⟩
    · have hF := hF.trans (if_pos c_16)
      refine lv_aload_n hx hb dX7_writes_19 rfl (lv_at hl 0 rfl) ?_
      refine va_get (D := (dC, dI)) (ci := 7) (v := .int mo_step) (C := RX7) (T := TX7) (N := 41) hx hb hts hiX7 hown hK hP 0 rfl rfl 32 (by decide) (hts _ kFX7_148) (fun _ h9 => h9) rfl dX7_writes_20 ?_
      refine lv_iconst (v := 2) hx hb dX7_writes_23 (by decide) ?_
      refine vj_join (j := 40) (rest := []) (Hyp := fun z H locs => z = (if mo_step < (2:Int32) then (0:Int32) else (if (4:Int32) < mo_step then (0:Int32) else (1:Int32))) ∧ va_P (dC, dI) vwCl (wwX7 q_mo q_mra q_mrA q_mrc q_mrk q_mpi q_mwc q_mwo q_mco q_mpo q_mky q_mla q_mcn q_mct k_mra k_mrA k_mrc k_mrk k_mpi k_mwc k_mwo k_mco k_mpo k_mky k_mla k_mcn k_mct mo_port mo_line mo_cycle mo_raised mo_idle mo_bad mo_glyph mo_fetched mo_rows mo_flags2 mo_enabled mo_a mo_x mo_y mo_s mo_flags mo_p mo_jammed mo_code mo_step mo_low mo_high mo_old mo_latest mo_cycles mo_stolen mo_interrupts mo_accesses f_mra f_mrA f_mrc f_mrk f_mpi f_mwc f_mwo f_mco f_mpo f_mky f_mla f_mcn f_mct) H ∧ va_S A s.heap H locs) (fun z H locs hh => ?_) (fun J40 => ?_)
      · obtain ⟨hz, hP, hS⟩ := hh
        subst hz
        exact W.zret (v := (if mo_step < (2:Int32) then (0:Int32) else (if (4:Int32) < mo_step then (0:Int32) else (1:Int32)))) hx hb hr (nb_if rfl (nb_if rfl rfl)) (fun t ht hW => ⟨⟨(if mo_step < (2:Int32) then (0:Int32) else (if (4:Int32) < mo_step then (0:Int32) else (1:Int32))), (), rfl, hF.symm, by rw [ht]; exact hP, va_K.moved hW.alike hK, hD⟩, hS.F ht⟩) hS.2.2 dX7_writes_40
      · refine lv_icmp_lt (tgt := 39) hx hb dX7_writes_24 (by decide) (fun c_24 => ?_) (fun c_24 => ?_)
        · refine lv_iconst (v := 0) hx hb dX7_writes_39 (by decide) ?_
          exact J40 _ _ _ ⟨by rw [if_pos c_24], hP, hS⟩
        · refine lv_aload_n hx hb dX7_writes_27 rfl (lv_at hl 0 rfl) ?_
          refine va_get (D := (dC, dI)) (ci := 7) (v := .int mo_step) (C := RX7) (T := TX7) (N := 41) hx hb hts hiX7 hown hK hP 0 rfl rfl 32 (by decide) (hts _ kFX7_148) (fun _ h9 => h9) rfl dX7_writes_28 ?_
          refine lv_iconst (v := 4) hx hb dX7_writes_31 (by decide) ?_
          refine lv_icmp_gt (tgt := 39) hx hb dX7_writes_32 (by decide) (fun c_32 => ?_) (fun c_32 => ?_)
          · refine lv_iconst (v := 0) hx hb dX7_writes_39 (by decide) ?_
            exact J40 _ _ _ ⟨by rw [if_neg c_24, if_pos c_32], hP, hS⟩
          · refine lv_iconst (v := 1) hx hb dX7_writes_35 (by decide) ?_
            refine lv_goto (tgt := 40) hx hb dX7_writes_36 (by decide) ?_
            exact J40 _ _ _ ⟨by rw [if_neg c_24, if_neg c_32], hP, hS⟩
  · have hF := hF.trans (if_pos c_4)
    refine lv_iconst (v := 0) hx hb dX7_writes_7 (by decide) ?_
    exact W.zret (v := (0:Int32)) hx hb hr rfl (fun t ht hW => ⟨⟨(0:Int32), (), rfl, hF.symm, by rw [ht]; exact hP, va_K.moved hW.alike hK, hD⟩, hS.F ht⟩) hS.2.2 dX7_writes_8
