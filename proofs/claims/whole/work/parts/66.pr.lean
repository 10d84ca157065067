theorem wr_aux : ∀ n : Nat, n < 256 → ∀ k : Nat, k < 6 → 1 ≤ k → (fX3_kindOf (nI n) = 8 → k < 5) → fX3_writesNext (fX3_kindOf (nI n)) (nI k) (nI n) = fX7_writes (nI n) (nI k) := by decide +kernel
theorem wr_c {cd kd : Int32} (hcd : vp_in cd 256) (hk : fX3_kindOf cd = kd) (k : Nat) (h1 : 1 ≤ k) (h2 : k < 6) (h8 : kd = 8 → k < 5) : fX3_writesNext kd (nI k) cd = fX7_writes cd (nI k) := by
  obtain ⟨n, hn, rfl⟩ := by_of hcd
  rw [← hk] at h8 ⊢
  exact wr_aux n hn k h2 h1 h8
theorem e3_1 {w ib cd lo hi ch ms mlo mhi old a x y s fl p po lt ln rs ro f2 en ac : Int32} {ra rA rc rk pi co ky la cn ct : Nat → Int32} (hcd : vp_in cd 256) (hk : fX3_kindOf cd = 3) (hM : MI po ln rs ro f2 ra rA rc rk pi co la cn ct) (hI : RI a x y s fl p mlo mhi) : QQ ac ln rA rc rk ky (A7 w ib 1 cd mlo mhi old a x y s fl p po lt ln rs ro f2 en ac ra rA rc rk pi co ky la cn ct) (A3 w ib 3 1 cd lo hi ch ms a x y s fl p po lt ln rs ro f2 en ra rA rc rk pi co ky la cn ct) ∧ fX3_writesNext 3 1 cd = fX7_writes cd 1 := by
  refine ⟨?_, (wr_c hcd hk 1 (by decide) (by decide) (by decide))⟩
  rcases kf3 hcd hk with (rfl | rfl | rfl | rfl | rfl | rfl | rfl) | (rfl | rfl | rfl | rfl | rfl | rfl | rfl | rfl | rfl | rfl)
  · exact c3_10 hM hI
  · exact c3_24 hM hI
  · exact c3_56 hM hI
  · exact c3_74 hM hI
  · exact c3_88 hM hI
  · exact c3_120 hM hI
  · exact c3_136 hM hI
  · exact c3_138 hM hI
  · exact c3_152 hM hI
  · exact c3_168 hM hI
  · exact c3_170 hM hI
  · exact c3_200 hM hI
  · exact c3_202 hM hI
  · exact c3_216 hM hI
  · exact c3_232 hM hI
  · exact c3_234 hM hI
  · exact c3_248 hM hI
theorem e4_1 {w ib cd lo hi ch ms mlo mhi old a x y s fl p po lt ln rs ro f2 en ac : Int32} {ra rA rc rk pi co ky la cn ct : Nat → Int32} (hcd : vp_in cd 256) (hk : fX3_kindOf cd = 4) (hM : MI po ln rs ro f2 ra rA rc rk pi co la cn ct) (hI : RI a x y s fl p mlo mhi) : QQ ac ln rA rc rk ky (A7 w ib 1 cd mlo mhi old a x y s fl p po lt ln rs ro f2 en ac ra rA rc rk pi co ky la cn ct) (A3 w ib 4 1 cd lo hi ch ms a x y s fl p po lt ln rs ro f2 en ra rA rc rk pi co ky la cn ct) ∧ fX3_writesNext 4 1 cd = fX7_writes cd 1 := by
  refine ⟨?_, (wr_c hcd hk 1 (by decide) (by decide) (by decide))⟩
  rcases kf4 hcd hk with rfl | rfl | rfl | rfl | ⟨k1, k2, k3, k4, k5, k6, k7⟩
  · exact c4_160 hM hI
  · exact c4_162 hM hI
  · exact c4_192 hM hI
  · exact c4_224 hM hI
  · exact c4_a k1 k2 k3 k4 k5 k6 k7 hM hI
theorem e5_1 {w ib cd lo hi ch ms mlo mhi old a x y s fl p po lt ln rs ro f2 en ac : Int32} {ra rA rc rk pi co ky la cn ct : Nat → Int32} (hcd : vp_in cd 256) (hk : fX3_kindOf cd = 5) (hM : MI po ln rs ro f2 ra rA rc rk pi co la cn ct) (hI : RI a x y s fl p mlo mhi) : QQ ac ln rA rc rk ky (A7 w ib 1 cd mlo mhi old a x y s fl p po lt ln rs ro f2 en ac ra rA rc rk pi co ky la cn ct) (A3 w ib 5 1 cd lo hi ch ms a x y s fl p po lt ln rs ro f2 en ra rA rc rk pi co ky la cn ct) ∧ fX3_writesNext 5 1 cd = fX7_writes cd 1 := by
  refine ⟨?_, (wr_c hcd hk 1 (by decide) (by decide) (by decide))⟩
  rcases kf5 hcd hk with rfl | rfl | ⟨k1, k2, k3, k4, n1, n2⟩
  · exact c5_1_132 hM hI
  · exact c5_1_134 hM hI
  · exact c5_1_a hcd hk k1 k2 k3 k4 n1 n2 hM hI
theorem e5_2 {w ib cd hi ch ms mlo mhi old a x y s fl p po lt ln rs ro f2 en ac : Int32} {ra rA rc rk pi co ky la cn ct : Nat → Int32} (hcd : vp_in cd 256) (hk : fX3_kindOf cd = 5) (hM : MI po ln rs ro f2 ra rA rc rk pi co la cn ct) (hI : RI a x y s fl p mlo mhi) : QQ ac ln rA rc rk ky (A7 w ib 2 cd mlo mhi old a x y s fl p po lt ln rs ro f2 en ac ra rA rc rk pi co ky la cn ct) (A3 w ib 5 2 cd mlo hi ch ms a x y s fl p po lt ln rs ro f2 en ra rA rc rk pi co ky la cn ct) ∧ fX3_writesNext 5 2 cd = fX7_writes cd 2 := by
  refine ⟨?_, (wr_c hcd hk 2 (by decide) (by decide) (by decide))⟩
  rcases kf5 hcd hk with rfl | rfl | ⟨k1, k2, k3, k4, n1, n2⟩
  · exact c5_2_132 hM hI
  · exact c5_2_134 hM hI
  · exact c5_2_a hcd hk k1 k2 k3 k4 n1 n2 hM hI
theorem e6_1 {w ib cd lo hi ch ms mlo mhi old a x y s fl p po lt ln rs ro f2 en ac : Int32} {ra rA rc rk pi co ky la cn ct : Nat → Int32} (hcd : vp_in cd 256) (hk : fX3_kindOf cd = 6) (hM : MI po ln rs ro f2 ra rA rc rk pi co la cn ct) (hI : RI a x y s fl p mlo mhi) : QQ ac ln rA rc rk ky (A7 w ib 1 cd mlo mhi old a x y s fl p po lt ln rs ro f2 en ac ra rA rc rk pi co ky la cn ct) (A3 w ib 6 1 cd lo hi ch ms a x y s fl p po lt ln rs ro f2 en ra rA rc rk pi co ky la cn ct) ∧ fX3_writesNext 6 1 cd = fX7_writes cd 1 := by
  refine ⟨?_, (wr_c hcd hk 1 (by decide) (by decide) (by decide))⟩
  obtain ⟨k1, k2, k3, k4, k5, n1, n2⟩ := kf6 hcd hk
  exact c6_1 hcd hk k1 k2 k3 k4 k5 n1 n2 hM hI
theorem e6_2 {w ib cd hi ch ms mlo mhi old a x y s fl p po lt ln rs ro f2 en ac : Int32} {ra rA rc rk pi co ky la cn ct : Nat → Int32} (hcd : vp_in cd 256) (hk : fX3_kindOf cd = 6) (hM : MI po ln rs ro f2 ra rA rc rk pi co la cn ct) (hI : RI a x y s fl p mlo mhi) : QQ ac ln rA rc rk ky (A7 w ib 2 cd mlo mhi old a x y s fl p po lt ln rs ro f2 en ac ra rA rc rk pi co ky la cn ct) (A3 w ib 6 2 cd mlo hi ch ms a x y s fl p po lt ln rs ro f2 en ra rA rc rk pi co ky la cn ct) ∧ fX3_writesNext 6 2 cd = fX7_writes cd 2 := by
  refine ⟨?_, (wr_c hcd hk 2 (by decide) (by decide) (by decide))⟩
  obtain ⟨k1, k2, k3, k4, k5, n1, n2⟩ := kf6 hcd hk
  exact c6_2 hcd hk k1 k2 k3 k4 k5 n1 n2 hM hI
theorem e6_3 {w ib cd ch ms mlo mhi old a x y s fl p po lt ln rs ro f2 en ac : Int32} {ra rA rc rk pi co ky la cn ct : Nat → Int32} (hcd : vp_in cd 256) (hk : fX3_kindOf cd = 6) (hM : MI po ln rs ro f2 ra rA rc rk pi co la cn ct) (hI : RI a x y s fl p mlo mhi) : QQ ac ln rA rc rk ky (A7 w ib 3 cd mlo mhi old a x y s fl p po lt ln rs ro f2 en ac ra rA rc rk pi co ky la cn ct) (A3 w ib 6 3 cd mlo mhi ch ms a x y s fl p po lt ln rs ro f2 en ra rA rc rk pi co ky la cn ct) ∧ fX3_writesNext 6 3 cd = fX7_writes cd 3 := by
  refine ⟨?_, (wr_c hcd hk 3 (by decide) (by decide) (by decide))⟩
  obtain ⟨k1, k2, k3, k4, k5, n1, n2⟩ := kf6 hcd hk
  exact c6_3 hcd hk k1 k2 k3 k4 k5 n1 n2 hM hI
theorem e7_1 {w ib cd lo hi ch ms mlo mhi old a x y s fl p po lt ln rs ro f2 en ac : Int32} {ra rA rc rk pi co ky la cn ct : Nat → Int32} (hcd : vp_in cd 256) (hk : fX3_kindOf cd = 7) (hM : MI po ln rs ro f2 ra rA rc rk pi co la cn ct) (hI : RI a x y s fl p mlo mhi) : QQ ac ln rA rc rk ky (A7 w ib 1 cd mlo mhi old a x y s fl p po lt ln rs ro f2 en ac ra rA rc rk pi co ky la cn ct) (A3 w ib 7 1 cd lo hi ch ms a x y s fl p po lt ln rs ro f2 en ra rA rc rk pi co ky la cn ct) ∧ fX3_writesNext 7 1 cd = fX7_writes cd 1 := by
  refine ⟨?_, (wr_c hcd hk 1 (by decide) (by decide) (by decide))⟩
  obtain ⟨k1, k2, k3, k4, k5, n1, n2⟩ := kf7 hcd hk
  exact c7_1 hcd hk k1 k2 k3 k4 k5 n1 n2 hM hI
theorem e7_2 {w ib cd hi ch ms mlo mhi old a x y s fl p po lt ln rs ro f2 en ac : Int32} {ra rA rc rk pi co ky la cn ct : Nat → Int32} (hcd : vp_in cd 256) (hk : fX3_kindOf cd = 7) (hM : MI po ln rs ro f2 ra rA rc rk pi co la cn ct) (hI : RI a x y s fl p mlo mhi) : QQ ac ln rA rc rk ky (A7 w ib 2 cd mlo mhi old a x y s fl p po lt ln rs ro f2 en ac ra rA rc rk pi co ky la cn ct) (A3 w ib 7 2 cd mlo hi ch ms a x y s fl p po lt ln rs ro f2 en ra rA rc rk pi co ky la cn ct) ∧ fX3_writesNext 7 2 cd = fX7_writes cd 2 := by
  refine ⟨?_, (wr_c hcd hk 2 (by decide) (by decide) (by decide))⟩
  obtain ⟨k1, k2, k3, k4, k5, n1, n2⟩ := kf7 hcd hk
  exact c7_2 hcd hk k1 k2 k3 k4 k5 n1 n2 hM hI
theorem e7_3 {w ib cd ch ms mlo mhi old a x y s fl p po lt ln rs ro f2 en ac : Int32} {ra rA rc rk pi co ky la cn ct : Nat → Int32} (hcd : vp_in cd 256) (hk : fX3_kindOf cd = 7) (hM : MI po ln rs ro f2 ra rA rc rk pi co la cn ct) (hI : RI a x y s fl p mlo mhi) : QQ ac ln rA rc rk ky (A7 w ib 3 cd mlo mhi old a x y s fl p po lt ln rs ro f2 en ac ra rA rc rk pi co ky la cn ct) (A3 w ib 7 3 cd mlo mhi ch ms a x y s fl p po lt ln rs ro f2 en ra rA rc rk pi co ky la cn ct) ∧ fX3_writesNext 7 3 cd = fX7_writes cd 3 := by
  refine ⟨?_, (wr_c hcd hk 3 (by decide) (by decide) (by decide))⟩
  obtain ⟨k1, k2, k3, k4, k5, n1, n2⟩ := kf7 hcd hk
  by_cases hx : (255:Int32) < mlo + x
  · exact c7_3_c hcd hk k1 k2 k3 k4 k5 n1 n2 hx hM hI
  · rcases kf7b hcd hk with ⟨k6, k7⟩ | ⟨k6, k7, k8⟩
    · exact c7_3_s hcd hk k1 k2 k3 k4 k5 n1 n2 hx k6 k7 hM hI
    · exact c7_3_r hcd hk k1 k2 k3 k4 k5 n1 n2 hx k6 k7 k8 hM hI
theorem e7_4 {w ib cd ch ms mlo mhi old a x y s fl p po lt ln rs ro f2 en ac : Int32} {ra rA rc rk pi co ky la cn ct : Nat → Int32} (hcd : vp_in cd 256) (hk : fX3_kindOf cd = 7) (hM : MI po ln rs ro f2 ra rA rc rk pi co la cn ct) (hI : RI a x y s fl p mlo mhi) : QQ ac ln rA rc rk ky (A7 w ib 4 cd mlo mhi old a x y s fl p po lt ln rs ro f2 en ac ra rA rc rk pi co ky la cn ct) (A3 w ib 7 4 cd mlo mhi ch ms a x y s fl p po lt ln rs ro f2 en ra rA rc rk pi co ky la cn ct) ∧ fX3_writesNext 7 4 cd = fX7_writes cd 4 := by
  refine ⟨?_, (wr_c hcd hk 4 (by decide) (by decide) (by decide))⟩
  obtain ⟨k1, k2, k3, k4, k5, n1, n2⟩ := kf7 hcd hk
  exact c7_4 hcd hk k1 k2 k3 k4 k5 n1 n2 hM hI
theorem e8_1 {w ib cd lo hi ch ms mlo mhi old a x y s fl p po lt ln rs ro f2 en ac : Int32} {ra rA rc rk pi co ky la cn ct : Nat → Int32} (hcd : vp_in cd 256) (hk : fX3_kindOf cd = 8) (hM : MI po ln rs ro f2 ra rA rc rk pi co la cn ct) (hI : RI a x y s fl p mlo mhi) : QQ ac ln rA rc rk ky (A7 w ib 1 cd mlo mhi old a x y s fl p po lt ln rs ro f2 en ac ra rA rc rk pi co ky la cn ct) (A3 w ib 8 1 cd lo hi ch ms a x y s fl p po lt ln rs ro f2 en ra rA rc rk pi co ky la cn ct) ∧ fX3_writesNext 8 1 cd = fX7_writes cd 1 := by
  refine ⟨?_, (wr_c hcd hk 1 (by decide) (by decide) (by decide))⟩
  rcases kf8 hcd hk with rfl | rfl
  · exact c8_1_198 hM hI
  · exact c8_1_230 hM hI
theorem e8_2 {w ib cd hi ch ms mlo mhi old a x y s fl p po lt ln rs ro f2 en ac : Int32} {ra rA rc rk pi co ky la cn ct : Nat → Int32} (hcd : vp_in cd 256) (hk : fX3_kindOf cd = 8) (hM : MI po ln rs ro f2 ra rA rc rk pi co la cn ct) (hI : RI a x y s fl p mlo mhi) : QQ ac ln rA rc rk ky (A7 w ib 2 cd mlo mhi old a x y s fl p po lt ln rs ro f2 en ac ra rA rc rk pi co ky la cn ct) (A3 w ib 8 2 cd mlo hi ch ms a x y s fl p po lt ln rs ro f2 en ra rA rc rk pi co ky la cn ct) ∧ fX3_writesNext 8 2 cd = fX7_writes cd 2 := by
  refine ⟨?_, (wr_c hcd hk 2 (by decide) (by decide) (by decide))⟩
  rcases kf8 hcd hk with rfl | rfl
  · exact c8_2_198 hM hI
  · exact c8_2_230 hM hI
theorem e8_3 {w ib cd hi ms mlo mhi old a x y s fl p po lt ln rs ro f2 en ac : Int32} {ra rA rc rk pi co ky la cn ct : Nat → Int32} (hcd : vp_in cd 256) (hk : fX3_kindOf cd = 8) (ho : vp_in old 256) (hM : MI po ln rs ro f2 ra rA rc rk pi co la cn ct) (hI : RI a x y s fl p mlo mhi) : QQ ac ln rA rc rk ky (A7 w ib 3 cd mlo mhi old a x y s fl p po lt ln rs ro f2 en ac ra rA rc rk pi co ky la cn ct) (A3 w ib 8 3 cd mlo hi old ms a x y s fl p po lt ln rs ro f2 en ra rA rc rk pi co ky la cn ct) ∧ fX3_writesNext 8 3 cd = fX7_writes cd 3 := by
  refine ⟨?_, (wr_c hcd hk 3 (by decide) (by decide) (by decide))⟩
  rcases kf8 hcd hk with rfl | rfl
  · exact c8_3_198 ho hM hI
  · exact c8_3_230 ho hM hI
theorem e8_4 {w ib cd hi ms mlo mhi old a x y s fl p po lt ln rs ro f2 en ac : Int32} {ra rA rc rk pi co ky la cn ct : Nat → Int32} (hcd : vp_in cd 256) (hk : fX3_kindOf cd = 8) (ho : vp_in old 256) (hM : MI po ln rs ro f2 ra rA rc rk pi co la cn ct) (hI : RI a x y s fl p mlo mhi) : QQ ac ln rA rc rk ky (A7 w ib 4 cd mlo mhi old a x y s fl p po lt ln rs ro f2 en ac ra rA rc rk pi co ky la cn ct) (A3 w ib 8 4 cd mlo hi old ms a x y s fl p po lt ln rs ro f2 en ra rA rc rk pi co ky la cn ct) ∧ fX3_writesNext 8 4 cd = fX7_writes cd 4 := by
  refine ⟨?_, (wr_c hcd hk 4 (by decide) (by decide) (by decide))⟩
  rcases kf8 hcd hk with rfl | rfl
  · exact c8_4_198 ho hM hI
  · exact c8_4_230 ho hM hI
theorem e9_1 {w ib cd lo hi ch ms mlo mhi old a x y s fl p po lt ln rs ro f2 en ac : Int32} {ra rA rc rk pi co ky la cn ct : Nat → Int32} (hcd : vp_in cd 256) (hk : fX3_kindOf cd = 9) (hM : MI po ln rs ro f2 ra rA rc rk pi co la cn ct) (hI : RI a x y s fl p mlo mhi) : QQ ac ln rA rc rk ky (A7 w ib 1 cd mlo mhi old a x y s fl p po lt ln rs ro f2 en ac ra rA rc rk pi co ky la cn ct) (A3 w ib 9 1 cd lo hi ch ms a x y s fl p po lt ln rs ro f2 en ra rA rc rk pi co ky la cn ct) ∧ fX3_writesNext 9 1 cd = fX7_writes cd 1 := by
  refine ⟨?_, (wr_c hcd hk 1 (by decide) (by decide) (by decide))⟩
  obtain ⟨k1, k2, k3⟩ := kf9 hcd hk
  exact c9_1 hcd hk k1 k2 k3 hM hI
theorem e9_2 {w ib cd hi ch ms mlo mhi old a x y s fl p po lt ln rs ro f2 en ac : Int32} {ra rA rc rk pi co ky la cn ct : Nat → Int32} (hcd : vp_in cd 256) (hk : fX3_kindOf cd = 9) (hM : MI po ln rs ro f2 ra rA rc rk pi co la cn ct) (hI : RI a x y s fl p mlo mhi) : QQ ac ln rA rc rk ky (A7 w ib 2 cd mlo mhi old a x y s fl p po lt ln rs ro f2 en ac ra rA rc rk pi co ky la cn ct) (A3 w ib 9 2 cd mlo hi ch ms a x y s fl p po lt ln rs ro f2 en ra rA rc rk pi co ky la cn ct) ∧ fX3_writesNext 9 2 cd = fX7_writes cd 2 := by
  refine ⟨?_, (wr_c hcd hk 2 (by decide) (by decide) (by decide))⟩
  obtain ⟨k1, k2, k3⟩ := kf9 hcd hk
  exact c9_2 hcd hk k1 k2 k3 hM hI
theorem e9_3 {w ib cd lo hi ch ms mlo mhi old a x y s fl p po lt ln rs ro f2 en ac : Int32} {ra rA rc rk pi co ky la cn ct : Nat → Int32} (hcd : vp_in cd 256) (hk : fX3_kindOf cd = 9) (ho : old = ((p + ms) &&& 65535)) (hM : MI po ln rs ro f2 ra rA rc rk pi co la cn ct) (hI : RI a x y s fl p mlo mhi) : QQ ac ln rA rc rk ky (A7 w ib 3 cd mlo mhi old a x y s fl p po lt ln rs ro f2 en ac ra rA rc rk pi co ky la cn ct) (A3 w ib 9 3 cd lo hi ch ms a x y s fl p po lt ln rs ro f2 en ra rA rc rk pi co ky la cn ct) ∧ fX3_writesNext 9 3 cd = fX7_writes cd 3 := by
  refine ⟨?_, (wr_c hcd hk 3 (by decide) (by decide) (by decide))⟩
  obtain ⟨k1, k2, k3⟩ := kf9 hcd hk
  exact c9_3 hcd hk k1 k2 k3 ho hM hI
theorem e10_1 {w ib cd lo hi ch ms mlo mhi old a x y s fl p po lt ln rs ro f2 en ac : Int32} {ra rA rc rk pi co ky la cn ct : Nat → Int32} (hcd : vp_in cd 256) (hk : fX3_kindOf cd = 10) (hM : MI po ln rs ro f2 ra rA rc rk pi co la cn ct) (hI : RI a x y s fl p mlo mhi) : QQ ac ln rA rc rk ky (A7 w ib 1 cd mlo mhi old a x y s fl p po lt ln rs ro f2 en ac ra rA rc rk pi co ky la cn ct) (A3 w ib 10 1 cd lo hi ch ms a x y s fl p po lt ln rs ro f2 en ra rA rc rk pi co ky la cn ct) ∧ fX3_writesNext 10 1 cd = fX7_writes cd 1 := by
  refine ⟨?_, (wr_c hcd hk 1 (by decide) (by decide) (by decide))⟩
  obtain rfl := kf10 hcd hk
  exact c10_1 hM hI
theorem e10_2 {w ib cd hi ch ms mlo mhi old a x y s fl p po lt ln rs ro f2 en ac : Int32} {ra rA rc rk pi co ky la cn ct : Nat → Int32} (hcd : vp_in cd 256) (hk : fX3_kindOf cd = 10) (hM : MI po ln rs ro f2 ra rA rc rk pi co la cn ct) (hI : RI a x y s fl p mlo mhi) : QQ ac ln rA rc rk ky (A7 w ib 2 cd mlo mhi old a x y s fl p po lt ln rs ro f2 en ac ra rA rc rk pi co ky la cn ct) (A3 w ib 10 2 cd mlo hi ch ms a x y s fl p po lt ln rs ro f2 en ra rA rc rk pi co ky la cn ct) ∧ fX3_writesNext 10 2 cd = fX7_writes cd 2 := by
  refine ⟨?_, (wr_c hcd hk 2 (by decide) (by decide) (by decide))⟩
  obtain rfl := kf10 hcd hk
  exact c10_2 hM hI
theorem e11_1 {w ib cd lo hi ch ms mlo mhi old a x y s fl p po lt ln rs ro f2 en ac : Int32} {ra rA rc rk pi co ky la cn ct : Nat → Int32} (hcd : vp_in cd 256) (hk : fX3_kindOf cd = 11) (hM : MI po ln rs ro f2 ra rA rc rk pi co la cn ct) (hI : RI a x y s fl p mlo mhi) : QQ ac ln rA rc rk ky (A7 w ib 1 cd mlo mhi old a x y s fl p po lt ln rs ro f2 en ac ra rA rc rk pi co ky la cn ct) (A3 w ib 11 1 cd lo hi ch ms a x y s fl p po lt ln rs ro f2 en ra rA rc rk pi co ky la cn ct) ∧ fX3_writesNext 11 1 cd = fX7_writes cd 1 := by
  refine ⟨?_, (wr_c hcd hk 1 (by decide) (by decide) (by decide))⟩
  obtain rfl := kf11 hcd hk
  exact c11_1 hM hI
theorem e11_2 {w ib cd hi ch ms mlo mhi old a x y s fl p po lt ln rs ro f2 en ac : Int32} {ra rA rc rk pi co ky la cn ct : Nat → Int32} (hcd : vp_in cd 256) (hk : fX3_kindOf cd = 11) (hM : MI po ln rs ro f2 ra rA rc rk pi co la cn ct) (hI : RI a x y s fl p mlo mhi) : QQ ac ln rA rc rk ky (A7 w ib 2 cd mlo mhi old a x y s fl p po lt ln rs ro f2 en ac ra rA rc rk pi co ky la cn ct) (A3 w ib 11 2 cd mlo hi ch ms a x y s fl p po lt ln rs ro f2 en ra rA rc rk pi co ky la cn ct) ∧ fX3_writesNext 11 2 cd = fX7_writes cd 2 := by
  refine ⟨?_, (wr_c hcd hk 2 (by decide) (by decide) (by decide))⟩
  obtain rfl := kf11 hcd hk
  exact c11_2 hM hI
theorem e11_3 {w ib cd hi ch ms mlo mhi old a x y s fl p po lt ln rs ro f2 en ac : Int32} {ra rA rc rk pi co ky la cn ct : Nat → Int32} (hcd : vp_in cd 256) (hk : fX3_kindOf cd = 11) (hM : MI po ln rs ro f2 ra rA rc rk pi co la cn ct) (hI : RI a x y s fl p mlo mhi) : QQ ac ln rA rc rk ky (A7 w ib 3 cd mlo mhi old a x y s fl p po lt ln rs ro f2 en ac ra rA rc rk pi co ky la cn ct) (A3 w ib 11 3 cd mlo hi ch ms a x y s fl p po lt ln rs ro f2 en ra rA rc rk pi co ky la cn ct) ∧ fX3_writesNext 11 3 cd = fX7_writes cd 3 := by
  refine ⟨?_, (wr_c hcd hk 3 (by decide) (by decide) (by decide))⟩
  obtain rfl := kf11 hcd hk
  exact c11_3 hM hI
theorem e11_4 {w ib cd hi ch ms mlo mhi old a x y s fl p po lt ln rs ro f2 en ac : Int32} {ra rA rc rk pi co ky la cn ct : Nat → Int32} (hcd : vp_in cd 256) (hk : fX3_kindOf cd = 11) (hM : MI po ln rs ro f2 ra rA rc rk pi co la cn ct) (hI : RI a x y s fl p mlo mhi) : QQ ac ln rA rc rk ky (A7 w ib 4 cd mlo mhi old a x y s fl p po lt ln rs ro f2 en ac ra rA rc rk pi co ky la cn ct) (A3 w ib 11 4 cd mlo hi ch ms a x y s fl p po lt ln rs ro f2 en ra rA rc rk pi co ky la cn ct) ∧ fX3_writesNext 11 4 cd = fX7_writes cd 4 := by
  refine ⟨?_, (wr_c hcd hk 4 (by decide) (by decide) (by decide))⟩
  obtain rfl := kf11 hcd hk
  exact c11_4 hM hI
theorem e11_5 {w ib cd hi ch ms mlo mhi old a x y s fl p po lt ln rs ro f2 en ac : Int32} {ra rA rc rk pi co ky la cn ct : Nat → Int32} (hcd : vp_in cd 256) (hk : fX3_kindOf cd = 11) (hM : MI po ln rs ro f2 ra rA rc rk pi co la cn ct) (hI : RI a x y s fl p mlo mhi) : QQ ac ln rA rc rk ky (A7 w ib 5 cd mlo mhi old a x y s fl p po lt ln rs ro f2 en ac ra rA rc rk pi co ky la cn ct) (A3 w ib 11 5 cd mlo hi ch ms a x y s fl p po lt ln rs ro f2 en ra rA rc rk pi co ky la cn ct) ∧ fX3_writesNext 11 5 cd = fX7_writes cd 5 := by
  refine ⟨?_, (wr_c hcd hk 5 (by decide) (by decide) (by decide))⟩
  obtain rfl := kf11 hcd hk
  exact c11_5 hM hI
theorem e12_1 {w ib cd lo hi ch ms mlo mhi old a x y s fl p po lt ln rs ro f2 en ac : Int32} {ra rA rc rk pi co ky la cn ct : Nat → Int32} (hcd : vp_in cd 256) (hk : fX3_kindOf cd = 12) (hM : MI po ln rs ro f2 ra rA rc rk pi co la cn ct) (hI : RI a x y s fl p mlo mhi) : QQ ac ln rA rc rk ky (A7 w ib 1 cd mlo mhi old a x y s fl p po lt ln rs ro f2 en ac ra rA rc rk pi co ky la cn ct) (A3 w ib 12 1 cd lo hi ch ms a x y s fl p po lt ln rs ro f2 en ra rA rc rk pi co ky la cn ct) ∧ fX3_writesNext 12 1 cd = fX7_writes cd 1 := by
  refine ⟨?_, (wr_c hcd hk 1 (by decide) (by decide) (by decide))⟩
  obtain rfl := kf12 hcd hk
  exact c12_1 hM hI
theorem e12_2 {w ib cd lo hi ch ms mlo mhi old a x y s fl p po lt ln rs ro f2 en ac : Int32} {ra rA rc rk pi co ky la cn ct : Nat → Int32} (hcd : vp_in cd 256) (hk : fX3_kindOf cd = 12) (hM : MI po ln rs ro f2 ra rA rc rk pi co la cn ct) (hI : RI a x y s fl p mlo mhi) : QQ ac ln rA rc rk ky (A7 w ib 2 cd mlo mhi old a x y s fl p po lt ln rs ro f2 en ac ra rA rc rk pi co ky la cn ct) (A3 w ib 12 2 cd lo hi ch ms a x y s fl p po lt ln rs ro f2 en ra rA rc rk pi co ky la cn ct) ∧ fX3_writesNext 12 2 cd = fX7_writes cd 2 := by
  refine ⟨?_, (wr_c hcd hk 2 (by decide) (by decide) (by decide))⟩
  obtain rfl := kf12 hcd hk
  exact c12_2 hM hI
theorem e12_3 {w ib cd lo hi ch ms mlo mhi old a x y s fl p po lt ln rs ro f2 en ac : Int32} {ra rA rc rk pi co ky la cn ct : Nat → Int32} (hcd : vp_in cd 256) (hk : fX3_kindOf cd = 12) (hM : MI po ln rs ro f2 ra rA rc rk pi co la cn ct) (hI : RI a x y s fl p mlo mhi) : QQ ac ln rA rc rk ky (A7 w ib 3 cd mlo mhi old a x y s fl p po lt ln rs ro f2 en ac ra rA rc rk pi co ky la cn ct) (A3 w ib 12 3 cd lo hi ch ms a x y s fl p po lt ln rs ro f2 en ra rA rc rk pi co ky la cn ct) ∧ fX3_writesNext 12 3 cd = fX7_writes cd 3 := by
  refine ⟨?_, (wr_c hcd hk 3 (by decide) (by decide) (by decide))⟩
  obtain rfl := kf12 hcd hk
  exact c12_3 hM hI
theorem e12_4 {w ib cd hi ch ms mlo mhi old a x y s fl p po lt ln rs ro f2 en ac : Int32} {ra rA rc rk pi co ky la cn ct : Nat → Int32} (hcd : vp_in cd 256) (hk : fX3_kindOf cd = 12) (hM : MI po ln rs ro f2 ra rA rc rk pi co la cn ct) (hI : RI a x y s fl p mlo mhi) : QQ ac ln rA rc rk ky (A7 w ib 4 cd mlo mhi old a x y s fl p po lt ln rs ro f2 en ac ra rA rc rk pi co ky la cn ct) (A3 w ib 12 4 cd mlo hi ch ms a x y s fl p po lt ln rs ro f2 en ra rA rc rk pi co ky la cn ct) ∧ fX3_writesNext 12 4 cd = fX7_writes cd 4 := by
  refine ⟨?_, (wr_c hcd hk 4 (by decide) (by decide) (by decide))⟩
  obtain rfl := kf12 hcd hk
  exact c12_4 hM hI
theorem e12_5 {w ib cd lo hi ch ms mlo mhi old a x y s fl p po lt ln rs ro f2 en ac : Int32} {ra rA rc rk pi co ky la cn ct : Nat → Int32} (hcd : vp_in cd 256) (hk : fX3_kindOf cd = 12) (hM : MI po ln rs ro f2 ra rA rc rk pi co la cn ct) (hI : RI a x y s fl p mlo mhi) : QQ ac ln rA rc rk ky (A7 w ib 5 cd mlo mhi old a x y s fl p po lt ln rs ro f2 en ac ra rA rc rk pi co ky la cn ct) (A3 w ib 12 5 cd lo hi ch ms a x y s fl p po lt ln rs ro f2 en ra rA rc rk pi co ky la cn ct) ∧ fX3_writesNext 12 5 cd = fX7_writes cd 5 := by
  refine ⟨?_, (wr_c hcd hk 5 (by decide) (by decide) (by decide))⟩
  obtain rfl := kf12 hcd hk
  exact c12_5 hM hI
theorem e13_1 {w ib cd lo hi ch ms mlo mhi old a x y s fl p po lt ln rs ro f2 en ac : Int32} {ra rA rc rk pi co ky la cn ct : Nat → Int32} (hcd : vp_in cd 256) (hk : fX3_kindOf cd = 13) (hM : MI po ln rs ro f2 ra rA rc rk pi co la cn ct) (hI : RI a x y s fl p mlo mhi) : QQ ac ln rA rc rk ky (A7 w ib 1 cd mlo mhi old a x y s fl p po lt ln rs ro f2 en ac ra rA rc rk pi co ky la cn ct) (A3 w ib 13 1 cd lo hi ch ms a x y s fl p po lt ln rs ro f2 en ra rA rc rk pi co ky la cn ct) ∧ fX3_writesNext 13 1 cd = fX7_writes cd 1 := by
  refine ⟨?_, (wr_c hcd hk 1 (by decide) (by decide) (by decide))⟩
  obtain rfl := kf13 hcd hk
  exact c13_1 hM hI
theorem e13_2 {w ib cd lo hi ch ms mlo mhi old a x y s fl p po lt ln rs ro f2 en ac : Int32} {ra rA rc rk pi co ky la cn ct : Nat → Int32} (hcd : vp_in cd 256) (hk : fX3_kindOf cd = 13) (hM : MI po ln rs ro f2 ra rA rc rk pi co la cn ct) (hI : RI a x y s fl p mlo mhi) : QQ ac ln rA rc rk ky (A7 w ib 2 cd mlo mhi old a x y s fl p po lt ln rs ro f2 en ac ra rA rc rk pi co ky la cn ct) (A3 w ib 13 2 cd lo hi ch ms a x y s fl p po lt ln rs ro f2 en ra rA rc rk pi co ky la cn ct) ∧ fX3_writesNext 13 2 cd = fX7_writes cd 2 := by
  refine ⟨?_, (wr_c hcd hk 2 (by decide) (by decide) (by decide))⟩
  obtain rfl := kf13 hcd hk
  exact c13_2 hM hI
theorem e13_3 {w ib cd lo hi ch ms mlo mhi old a x y s fl p po lt ln rs ro f2 en ac : Int32} {ra rA rc rk pi co ky la cn ct : Nat → Int32} (hcd : vp_in cd 256) (hk : fX3_kindOf cd = 13) (hM : MI po ln rs ro f2 ra rA rc rk pi co la cn ct) (hI : RI a x y s fl p mlo mhi) : QQ ac ln rA rc rk ky (A7 w ib 3 cd mlo mhi old a x y s fl p po lt ln rs ro f2 en ac ra rA rc rk pi co ky la cn ct) (A3 w ib 13 3 cd lo hi ch ms a x y s fl p po lt ln rs ro f2 en ra rA rc rk pi co ky la cn ct) ∧ fX3_writesNext 13 3 cd = fX7_writes cd 3 := by
  refine ⟨?_, (wr_c hcd hk 3 (by decide) (by decide) (by decide))⟩
  obtain rfl := kf13 hcd hk
  exact c13_3 hM hI
theorem e13_4 {w ib cd lo hi ch ms mlo mhi old a x y s fl p po lt ln rs ro f2 en ac : Int32} {ra rA rc rk pi co ky la cn ct : Nat → Int32} (hcd : vp_in cd 256) (hk : fX3_kindOf cd = 13) (hM : MI po ln rs ro f2 ra rA rc rk pi co la cn ct) (hI : RI a x y s fl p mlo mhi) : QQ ac ln rA rc rk ky (A7 w ib 4 cd mlo mhi old a x y s fl p po lt ln rs ro f2 en ac ra rA rc rk pi co ky la cn ct) (A3 w ib 13 4 cd lo hi ch ms a x y s fl p po lt ln rs ro f2 en ra rA rc rk pi co ky la cn ct) ∧ fX3_writesNext 13 4 cd = fX7_writes cd 4 := by
  refine ⟨?_, (wr_c hcd hk 4 (by decide) (by decide) (by decide))⟩
  obtain rfl := kf13 hcd hk
  exact c13_4 hM hI
theorem e13_5 {w ib cd lo hi ch ms mlo mhi old a x y s fl p po lt ln rs ro f2 en ac : Int32} {ra rA rc rk pi co ky la cn ct : Nat → Int32} (hcd : vp_in cd 256) (hk : fX3_kindOf cd = 13) (hM : MI po ln rs ro f2 ra rA rc rk pi co la cn ct) (hI : RI a x y s fl p mlo mhi) : QQ ac ln rA rc rk ky (A7 w ib 5 cd mlo mhi old a x y s fl p po lt ln rs ro f2 en ac ra rA rc rk pi co ky la cn ct) (A3 w ib 13 5 cd lo hi ch ms a x y s fl p po lt ln rs ro f2 en ra rA rc rk pi co ky la cn ct) ∧ fX3_writesNext 13 5 cd = fX7_writes cd 5 := by
  refine ⟨?_, (wr_c hcd hk 5 (by decide) (by decide) (by decide))⟩
  obtain rfl := kf13 hcd hk
  exact c13_5 hM hI
theorem e14_1 {w ib cd lo hi ch ms mlo mhi old a x y s fl p po lt ln rs ro f2 en ac : Int32} {ra rA rc rk pi co ky la cn ct : Nat → Int32} (hcd : vp_in cd 256) (hk : fX3_kindOf cd = 14) (hM : MI po ln rs ro f2 ra rA rc rk pi co la cn ct) (hI : RI a x y s fl p mlo mhi) : QQ ac ln rA rc rk ky (A7 w ib 1 cd mlo mhi old a x y s fl p po lt ln rs ro f2 en ac ra rA rc rk pi co ky la cn ct) (A3 w ib 14 1 cd lo hi ch ms a x y s fl p po lt ln rs ro f2 en ra rA rc rk pi co ky la cn ct) ∧ fX3_writesNext 14 1 cd = fX7_writes cd 1 := by
  refine ⟨?_, (wr_c hcd hk 1 (by decide) (by decide) (by decide))⟩
  obtain rfl := kf14 hcd hk
  exact c14_1 hM hI
theorem e14_2 {w ib cd lo hi ch ms mlo mhi old a x y s fl p po lt ln rs ro f2 en ac : Int32} {ra rA rc rk pi co ky la cn ct : Nat → Int32} (hcd : vp_in cd 256) (hk : fX3_kindOf cd = 14) (hM : MI po ln rs ro f2 ra rA rc rk pi co la cn ct) (hI : RI a x y s fl p mlo mhi) : QQ ac ln rA rc rk ky (A7 w ib 2 cd mlo mhi old a x y s fl p po lt ln rs ro f2 en ac ra rA rc rk pi co ky la cn ct) (A3 w ib 14 2 cd lo hi ch ms a x y s fl p po lt ln rs ro f2 en ra rA rc rk pi co ky la cn ct) ∧ fX3_writesNext 14 2 cd = fX7_writes cd 2 := by
  refine ⟨?_, (wr_c hcd hk 2 (by decide) (by decide) (by decide))⟩
  obtain rfl := kf14 hcd hk
  exact c14_2 hM hI
theorem e15_1 {w ib cd lo hi ch ms mlo mhi old a x y s fl p po lt ln rs ro f2 en ac : Int32} {ra rA rc rk pi co ky la cn ct : Nat → Int32} (hcd : vp_in cd 256) (hk : fX3_kindOf cd = 15) (hM : MI po ln rs ro f2 ra rA rc rk pi co la cn ct) (hI : RI a x y s fl p mlo mhi) : QQ ac ln rA rc rk ky (A7 w ib 1 cd mlo mhi old a x y s fl p po lt ln rs ro f2 en ac ra rA rc rk pi co ky la cn ct) (A3 w ib 15 1 cd lo hi ch ms a x y s fl p po lt ln rs ro f2 en ra rA rc rk pi co ky la cn ct) ∧ fX3_writesNext 15 1 cd = fX7_writes cd 1 := by
  refine ⟨?_, (wr_c hcd hk 1 (by decide) (by decide) (by decide))⟩
  obtain rfl := kf15 hcd hk
  exact c15_1 hM hI
theorem e15_2 {w ib cd lo hi ch ms mlo mhi old a x y s fl p po lt ln rs ro f2 en ac : Int32} {ra rA rc rk pi co ky la cn ct : Nat → Int32} (hcd : vp_in cd 256) (hk : fX3_kindOf cd = 15) (hM : MI po ln rs ro f2 ra rA rc rk pi co la cn ct) (hI : RI a x y s fl p mlo mhi) : QQ ac ln rA rc rk ky (A7 w ib 2 cd mlo mhi old a x y s fl p po lt ln rs ro f2 en ac ra rA rc rk pi co ky la cn ct) (A3 w ib 15 2 cd lo hi ch ms a x y s fl p po lt ln rs ro f2 en ra rA rc rk pi co ky la cn ct) ∧ fX3_writesNext 15 2 cd = fX7_writes cd 2 := by
  refine ⟨?_, (wr_c hcd hk 2 (by decide) (by decide) (by decide))⟩
  obtain rfl := kf15 hcd hk
  exact c15_2 hM hI
theorem e15_3 {w ib cd lo hi ch ms mlo mhi old a x y s fl p po lt ln rs ro f2 en ac : Int32} {ra rA rc rk pi co ky la cn ct : Nat → Int32} (hcd : vp_in cd 256) (hk : fX3_kindOf cd = 15) (hM : MI po ln rs ro f2 ra rA rc rk pi co la cn ct) (hI : RI a x y s fl p mlo mhi) : QQ ac ln rA rc rk ky (A7 w ib 3 cd mlo mhi old a x y s fl p po lt ln rs ro f2 en ac ra rA rc rk pi co ky la cn ct) (A3 w ib 15 3 cd lo hi ch ms a x y s fl p po lt ln rs ro f2 en ra rA rc rk pi co ky la cn ct) ∧ fX3_writesNext 15 3 cd = fX7_writes cd 3 := by
  refine ⟨?_, (wr_c hcd hk 3 (by decide) (by decide) (by decide))⟩
  obtain rfl := kf15 hcd hk
  exact c15_3 hM hI
theorem wn_0 (cd mcd : Int32) : fX3_writesNext 0 0 cd = fX7_writes mcd 0 := by
  unfold fX3_writesNext fX7_writes
  simp (disch := decide) only [if_pos, if_neg]
theorem wn_21 (cd : Int32) : fX3_writesNext 2 1 cd = fX7_writes 256 1 := by
  unfold fX3_writesNext fX7_writes
  simp (disch := decide) only [if_pos, if_neg]
theorem wn_22 (cd : Int32) : fX3_writesNext 2 2 cd = fX7_writes 256 2 := by
  unfold fX3_writesNext fX7_writes
  simp (disch := decide) only [if_pos, if_neg]
theorem wn_23 (cd : Int32) : fX3_writesNext 2 3 cd = fX7_writes 256 3 := by
  unfold fX3_writesNext fX7_writes
  simp (disch := decide) only [if_pos, if_neg]
theorem wn_24 (cd : Int32) : fX3_writesNext 2 4 cd = fX7_writes 256 4 := by
  unfold fX3_writesNext fX7_writes
  simp (disch := decide) only [if_pos, if_neg]
theorem wn_25 (cd : Int32) : fX3_writesNext 2 5 cd = fX7_writes 256 5 := by
  unfold fX3_writesNext fX7_writes
  simp (disch := decide) only [if_pos, if_neg]
theorem wn_26 (cd : Int32) : fX3_writesNext 2 6 cd = fX7_writes 256 6 := by
  unfold fX3_writesNext fX7_writes
  simp (disch := decide) only [if_pos, if_neg]
theorem ks_eq {w ib kd st mcd cd lo hi ch ms mlo mhi old a x y s fl p po lt ln rs ro f2 en ac : Int32} {ra rA rc rk pi co ky la cn ct : Nat → Int32} (hP : (st = 0 ∧ kd = 0) ∨ (kd = 2 ∧ mcd = 256 ∧ (st = 1 ∨ st = 2 ∨ st = 3 ∨ st = 4 ∨ st = 5 ∨ (st = 6 ∧ lo = mlo))) ∨ (mcd = cd ∧ vp_in cd 256 ∧ kd = fX3_kindOf cd ∧ RelK kd st lo mlo hi mhi ch old ms p)) (hM : MI po ln rs ro f2 ra rA rc rk pi co la cn ct) (hI : RI a x y s fl p mlo mhi) : QQ ac ln rA rc rk ky (A7 w ib st mcd mlo mhi old a x y s fl p po lt ln rs ro f2 en ac ra rA rc rk pi co ky la cn ct) (A3 w ib kd st cd lo hi ch ms a x y s fl p po lt ln rs ro f2 en ra rA rc rk pi co ky la cn ct) ∧ fX3_writesNext kd st cd = fX7_writes mcd st := by
  rcases hP with ⟨rfl, rfl⟩ | ⟨rfl, rfl, h⟩ | ⟨rfl, hcd, hk, h⟩
  · exact ⟨c0_0 hM hI, wn_0 _ _⟩
  · rcases h with rfl | rfl | rfl | rfl | rfl | ⟨rfl, rfl⟩
    · exact ⟨c2_1 hM hI, wn_21 _⟩
    · exact ⟨c2_2 hM hI, wn_22 _⟩
    · exact ⟨c2_3 hM hI, wn_23 _⟩
    · exact ⟨c2_4 hM hI, wn_24 _⟩
    · exact ⟨c2_5 hM hI, wn_25 _⟩
    · exact ⟨c2_6 hM hI, wn_26 _⟩
  · unfold RelK at h
    rcases h with h | h | h | h | h | h | h | h | h | h | h | h | h
    · rcases h with ⟨rfl, rfl⟩
      · exact e3_1 hcd hk.symm hM hI
    · rcases h with ⟨rfl, rfl⟩
      · exact e4_1 hcd hk.symm hM hI
    · rcases h with ⟨rfl, rfl | ⟨rfl, rfl⟩⟩
      · exact e5_1 hcd hk.symm hM hI
      · exact e5_2 hcd hk.symm hM hI
    · rcases h with ⟨rfl, rfl | ⟨rfl, rfl⟩ | ⟨rfl, rfl, rfl⟩⟩
      · exact e6_1 hcd hk.symm hM hI
      · exact e6_2 hcd hk.symm hM hI
      · exact e6_3 hcd hk.symm hM hI
    · rcases h with ⟨rfl, rfl | ⟨rfl, rfl⟩ | ⟨rfl | rfl, rfl, rfl⟩⟩
      · exact e7_1 hcd hk.symm hM hI
      · exact e7_2 hcd hk.symm hM hI
      · exact e7_3 hcd hk.symm hM hI
      · exact e7_4 hcd hk.symm hM hI
    · rcases h with ⟨rfl, rfl | ⟨rfl, rfl⟩ | ⟨rfl | rfl, rfl, rfl, ho⟩⟩
      · exact e8_1 hcd hk.symm hM hI
      · exact e8_2 hcd hk.symm hM hI
      · exact e8_3 hcd hk.symm ho hM hI
      · exact e8_4 hcd hk.symm ho hM hI
    · rcases h with ⟨rfl, rfl | ⟨rfl, rfl⟩ | ⟨rfl, ho⟩⟩
      · exact e9_1 hcd hk.symm hM hI
      · exact e9_2 hcd hk.symm hM hI
      · exact e9_3 hcd hk.symm ho hM hI
    · rcases h with ⟨rfl, rfl | ⟨rfl, rfl⟩⟩
      · exact e10_1 hcd hk.symm hM hI
      · exact e10_2 hcd hk.symm hM hI
    · rcases h with ⟨rfl, rfl | ⟨rfl | rfl | rfl | rfl, rfl⟩⟩
      · exact e11_1 hcd hk.symm hM hI
      · exact e11_2 hcd hk.symm hM hI
      · exact e11_3 hcd hk.symm hM hI
      · exact e11_4 hcd hk.symm hM hI
      · exact e11_5 hcd hk.symm hM hI
    · rcases h with ⟨rfl, rfl | rfl | rfl | rfl | ⟨rfl, rfl⟩⟩
      · exact e12_1 hcd hk.symm hM hI
      · exact e12_2 hcd hk.symm hM hI
      · exact e12_3 hcd hk.symm hM hI
      · exact e12_5 hcd hk.symm hM hI
      · exact e12_4 hcd hk.symm hM hI
    · rcases h with ⟨rfl, rfl | rfl | rfl | rfl | rfl⟩
      · exact e13_1 hcd hk.symm hM hI
      · exact e13_2 hcd hk.symm hM hI
      · exact e13_3 hcd hk.symm hM hI
      · exact e13_4 hcd hk.symm hM hI
      · exact e13_5 hcd hk.symm hM hI
    · rcases h with ⟨rfl, rfl | rfl⟩
      · exact e14_1 hcd hk.symm hM hI
      · exact e14_2 hcd hk.symm hM hI
    · rcases h with ⟨rfl, rfl | rfl | rfl⟩
      · exact e15_1 hcd hk.symm hM hI
      · exact e15_2 hcd hk.symm hM hI
      · exact e15_3 hcd hk.symm hM hI
theorem mkN {W w ib kd st cd lo hi ch ms a x y s fl p po lt ln rs ro f2 en : Int32} {ra rA rc rk pi co ky la cn ct : Nat → Int32} (h : W = 0 ∨ ¬ fX3_writesNext kd st cd = 0) : fX3_makeAccess W 0 w ib kd st cd lo hi ch ms a x y s fl p po lt ln (pi 0) (pi 1) (pi 2) (pi 3) (pi 6) rs (pi 5) ro (kbv ro ky 8) f2 en 9 (ct 0) (cn 0) (la 0) 73 (ct 1) (cn 1) (la 1) ra rA rc rk co ky = A3 w ib kd st cd lo hi ch ms a x y s fl p po lt ln rs ro f2 en ra rA rc rk pi co ky la cn ct := by
  by_cases h1 : W = 0
  · subst h1
    rfl
  · have h2 := h.resolve_left h1
    unfold A3 fX3_makeAccess
    simp only [h1, h2, ↓reduceIte]
theorem pcN {cy bad w ib mcd st mlo mhi old a x y s fl p po lt ln rs ro f2 en ac : Int32} {ra rA rc rk pi co ky la cn ct : Nat → Int32} (h : fX7_wanted cy bad = 0 ∨ ¬ fX7_writes mcd st = 0) : fX7_processorCycle po ln cy rs bad ro f2 en a x y s fl p 0 mcd st mlo mhi old lt w ib ac ra rA rc rk pi co ky la cn ct = A7 w ib st mcd mlo mhi old a x y s fl p po lt ln rs ro f2 en ac ra rA rc rk pi co ky la cn ct := by
  have hz : fX7_wanted 0 0 = 0 := by decide
  unfold A7 fX7_processorCycle
  by_cases h1 : fX7_wanted cy bad = 0
  · simp only [h1, hz, ↓reduceIte]
  · have h2 := h.resolve_left h1
    simp only [h1, h2, hz, ↓reduceIte]
theorem pr_eq {cy bad jm w ib kd st mcd cd lo hi ch ms mlo mhi old a x y s fl p po lt ln rs ro f2 en ac : Int32} {ra rA rc rk pi co ky la cn ct : Nat → Int32} (hP : RelP jm st kd cd mcd lo mlo hi mhi ch old ms p) (hI : RI a x y s fl p mlo mhi) (hM : MI po ln rs ro f2 ra rA rc rk pi co la cn ct) : QQ ac ln rA rc rk ky (fX7_processorCycle po ln cy rs bad ro f2 en a x y s fl p jm mcd st mlo mhi old lt w ib ac ra rA rc rk pi co ky la cn ct) (fX3_makeAccess (fX7_wanted cy bad) jm w ib kd st cd lo hi ch ms a x y s fl p po lt ln (pi 0) (pi 1) (pi 2) (pi 3) (pi 6) rs (pi 5) ro (kbv ro ky 8) f2 en 9 (ct 0) (cn 0) (la 0) 73 (ct 1) (cn 1) (la 1) ra rA rc rk co ky) := by
  have hP0 := hP
  rcases hP with rfl | ⟨rfl, hP⟩
  · unfold fX7_processorCycle fX3_makeAccess
    rw [if_neg (show ¬ (1:Int32) = 0 by decide), if_neg (show ¬ (1:Int32) = 0 by decide)]
    exact QQ_mk (Or.inl ⟨rfl, rfl⟩) hP0 hI hM
  · obtain ⟨hq, hw⟩ := ks_eq (w := w) (ib := ib) (lt := lt) (en := en) (ac := ac) (ky := ky) hP hM hI
    by_cases h1 : fX7_wanted cy bad = 0
    · rw [mkN (Or.inl h1), pcN (Or.inl h1)]
      exact hq
    · by_cases h2 : fX3_writesNext kd st cd = 0
      · have h3 : fX7_writes mcd st = 0 := by rw [← hw]; exact h2
        unfold fX7_processorCycle fX3_makeAccess
        simp only [h1, h2, h3, ↓reduceIte]
        exact QQ_mk (Or.inl ⟨rfl, rfl⟩) hP0 hI hM
      · rw [mkN (Or.inr h2), pcN (Or.inr (by rw [← hw]; exact h2))]
        exact hq
