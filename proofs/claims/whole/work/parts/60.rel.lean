-- how two states belong together
/-- the processor's place in its instruction -/
def RelK (kd st lo mlo hi mhi ch old ms p : Int32) : Prop :=
  (kd = 3 ∧ st = 1) ∨ (kd = 4 ∧ st = 1) ∨ (kd = 5 ∧ (st = 1 ∨ (st = 2 ∧ lo = mlo))) ∨
  (kd = 6 ∧ (st = 1 ∨ (st = 2 ∧ lo = mlo) ∨ (st = 3 ∧ lo = mlo ∧ hi = mhi))) ∨
  (kd = 7 ∧ (st = 1 ∨ (st = 2 ∧ lo = mlo) ∨ ((st = 3 ∨ st = 4) ∧ lo = mlo ∧ hi = mhi))) ∨
  (kd = 8 ∧ (st = 1 ∨ (st = 2 ∧ lo = mlo) ∨ ((st = 3 ∨ st = 4) ∧ lo = mlo ∧ ch = old ∧ vp_in old 256))) ∨
  (kd = 9 ∧ (st = 1 ∨ (st = 2 ∧ lo = mlo) ∨ (st = 3 ∧ old = ((p + ms) &&& 65535)))) ∨
  (kd = 10 ∧ (st = 1 ∨ (st = 2 ∧ lo = mlo))) ∨
  (kd = 11 ∧ (st = 1 ∨ ((st = 2 ∨ st = 3 ∨ st = 4 ∨ st = 5) ∧ lo = mlo))) ∨
  (kd = 12 ∧ (st = 1 ∨ st = 2 ∨ st = 3 ∨ st = 5 ∨ (st = 4 ∧ lo = mlo))) ∨
  (kd = 13 ∧ (st = 1 ∨ st = 2 ∨ st = 3 ∨ st = 4 ∨ st = 5)) ∨ (kd = 14 ∧ (st = 1 ∨ st = 2)) ∨ (kd = 15 ∧ (st = 1 ∨ st = 2 ∨ st = 3))
def RelP (jm st kd cd mcd lo mlo hi mhi ch old ms p : Int32) : Prop :=
  (jm = 1 ∨ (jm = 0 ∧ ((st = 0 ∧ kd = 0) ∨ (kd = 2 ∧ mcd = 256 ∧ (st = 1 ∨ st = 2 ∨ st = 3 ∨ st = 4 ∨ st = 5 ∨ (st = 6 ∧ lo = mlo))) ∨ (mcd = cd ∧ vp_in cd 256 ∧ kd = fX3_kindOf cd ∧ RelK kd st lo mlo hi mhi ch old ms p))))
/-- what of the picture chip is held otherwise: the bad line, the glyph line -/
def RelG (cy bad mbad idle gl mgl : Int32) : Prop :=
  (cy = 0 ∨ ((cy = 1 ∨ cy = 2 ∨ cy = 3) ∧ mbad = 0) ∨ (vp_in (cy - 4) 20 ∧ bad = mbad)) ∧ (idle = 0 → gl = mgl ∧ vp_in mgl 8) ∧ vp_in gl 8 ∧ vp_in mgl 9

/-- line, cycle, rows fetched -/
def RelF (ln cy fe : Int32) : Prop := ∃ l c f : Nat, ln = nI l ∧ cy = nI c ∧ fe = nI f ∧ l < 40 ∧ c < 24 ∧ (f ≤ l ∨ (15 ≤ c ∧ f ≤ l + 1) ∨ (l = 0 ∧ c = 0 ∧ f ≤ 40))
def Rel (bo_cyclesInAll pr_stuck pr_waits pr_interruptsBegun pr_kind pr_step pr_code pr_low pr_high pr_changed pr_missing rg_a rg_x rg_y rg_s rg_flags rg_p bu_port bu_latest pi_line pi_cycle pi_control pi_compareLine pi_ground pi_border pi_base pi_flag pi_enabled pi_idle pi_bad pi_glyphLine pi_rowToFetch ic_rows ic_keysSeen ic_flags ic_enabled ta_controlBits ta_control ta_count ta_latch tb_controlBits tb_control tb_count tb_latch mo_port mo_line mo_cycle mo_raised mo_idle mo_bad mo_glyph mo_fetched mo_rows mo_flags2 mo_enabled mo_a mo_x mo_y mo_s mo_flags mo_p mo_jammed mo_code mo_step mo_low mo_high mo_old mo_latest mo_cycles mo_stolen mo_interrupts mo_accesses : Int32) (f_ra f_rA f_rc f_rk f_po f_co f_wc f_wo f_ky f_mra f_mrA f_mrc f_mrk f_mpi f_mwc f_mwo f_mco f_mpo f_mky f_mla f_mcn f_mct : Nat → Int32) : Prop :=
  mo_cycles = bo_cyclesInAll ∧ mo_jammed = pr_stuck ∧ mo_stolen = pr_waits ∧ mo_interrupts = pr_interruptsBegun ∧ mo_step = pr_step ∧ mo_a = rg_a ∧ mo_x = rg_x ∧ mo_y = rg_y ∧ mo_s = rg_s ∧ mo_flags = rg_flags ∧ mo_p = rg_p ∧ mo_port = bu_port ∧ mo_latest = bu_latest ∧ mo_line = pi_line ∧ mo_cycle = pi_cycle ∧ pi_control = f_mpi 0 ∧ pi_compareLine = f_mpi 1 ∧ pi_ground = f_mpi 2 ∧ pi_border = f_mpi 3 ∧ pi_base = f_mpi 6 ∧ mo_raised = pi_flag ∧ pi_enabled = f_mpi 5 ∧ mo_idle = pi_idle ∧ pi_rowToFetch = mo_fetched - mo_fetched / 3 * 3 ∧ mo_rows = ic_rows ∧ ic_keysSeen = kbv mo_rows f_mky 8 ∧ mo_flags2 = ic_flags ∧ mo_enabled = ic_enabled ∧ ta_controlBits = 9 ∧ ta_control = f_mct 0 ∧ ta_count = f_mcn 0 ∧ ta_latch = f_mla 0 ∧ tb_controlBits = 73 ∧ tb_control = f_mct 1 ∧ tb_count = f_mcn 1 ∧ tb_latch = f_mla 1 ∧ f_mra = f_ra ∧ f_mrA = f_rA ∧ f_mrc = f_rc ∧ f_mrk = f_rk ∧ f_mpo = f_po ∧ f_mco = f_co ∧ f_mwc = f_wc ∧ f_mwo = f_wo ∧ f_mky = f_ky ∧
  RelP mo_jammed mo_step pr_kind pr_code mo_code pr_low mo_low pr_high mo_high pr_changed mo_old pr_missing mo_p ∧ RelG mo_cycle pi_bad mo_bad mo_idle pi_glyphLine mo_glyph ∧
  (mo_raised = 0 ∨ mo_raised = 1) ∧ vp_in mo_a 256 ∧ vp_in mo_x 256 ∧ vp_in mo_y 256 ∧ vp_in mo_s 256 ∧ vp_in mo_flags 256 ∧ vp_in mo_p 65536 ∧ vp_in mo_port 8 ∧ RelF mo_line mo_cycle mo_fetched ∧ vp_in mo_low 256 ∧ vp_in mo_high 256 ∧ vp_in mo_rows 256 ∧ vp_in mo_flags2 4 ∧ Byt f_mpi ∧ (f_mpi 5 = 0 ∨ f_mpi 5 = 1) ∧ vp_in (f_mpi 6) 16 ∧ (∀ i, vp_in (f_mcn i) 65536) ∧ (∀ i, vp_in (f_mla i) 65536) ∧ (∀ i, vp_in (f_mct i) 128) ∧ Byt f_mra ∧ Byt f_mrA ∧ Byt f_mrc ∧ Byt f_mrk ∧ Byt f_mwc ∧ Byt f_mco
