def q_12 (n : Int32) : Bool := decide ((1 : Int32) ≤ n ∧ n ≤ 12)
theorem v_m_w12 (xs : List Int32) (m : am_Mm) (n : Int32) : am_V xs 1 141 [.int n, .int 1, .int 12] m (am_qi (bB (q_12 n)) (· = m)) := by
  have := v_m_within xs m n 1 12
  rwa [bI_B (b := q_12 n) decide_eq_true_iff.symm] at this
theorem q_12_of {n : Int32} (h : q_12 n = true) : ∃ j, 1 ≤ j ∧ j < 13 ∧ n = nI j := by
  obtain ⟨h1, h2⟩ := of_decide_eq_true h
  obtain ⟨j, hj, rfl⟩ := nI_of (x := n) (fun q => absurd (Int32.lt_of_le_of_lt h1 q) (by decide))
  have e1 := (nI_leI (a := 1) (b := j) (by omega) hj).mp h1
  have e2 := (nI_leI (a := j) (b := 12) hj (by omega)).mp h2
  exact ⟨j, e1, by omega, rfl⟩
theorem q_12_nI {j : Nat} (h1 : 1 ≤ j) (h2 : j < 13) : q_12 (nI j) = true := decide_eq_true ⟨(nI_leI (a := 1) (b := j) (by omega) (by omega)).mpr h1, (nI_leI (a := j) (b := 12) (by omega) (by omega)).mpr (by omega)⟩
def f_best (T : q_T) (n u : Int32) : Int32 × q_T := if u = 0 ∨ q_is (u - 10) (T.1 153 0) = true then (if q_12 n = true then ((if u = 0 then f_crew T n.toNatClampNeg else nI (f_lan T (u.toNatClampNeg - 10) n.toNatClampNeg)), T) else (-2, T)) else (-1, T)
set_option maxRecDepth 100000 in
set_option maxHeartbeats 4000000 in
theorem v_m_best (xs : List Int32) {T : q_T} {m : am_Mm} (h : q_Rm T m) (hY : q_Y 0 T) (n : Int32) (u : Int32) : am_V xs 11 193 [.ref 153, .int n, .int u] m (am_qi (f_best T n u).1 (q_G (f_best T n u).2 m)) := by
  have hB := hY.1
  have hF : q_FC m m := q_FC.rf
  have hn : T.1 153 0 < 7 := hB 153 0
  refine am_V_of ky_193 (Nat.le_of_ble_eq_true rfl) ?_
  show am_P xs 10 m_best 0 [some (.ref 153), some (.int n), some (.int u)] [] m _
  refine w_iload_n (pc' := 1) rfl rfl rfl ?_
  refine w_if_eq (t := 17) (pc' := 4) rfl (by decide) rfl (fun h1 => ?_) (fun h1 => ?_)
  · obtain rfl : u = nI 0 := h1
    refine w_iload_n (pc' := 18) rfl rfl rfl ?_
    refine w_iconst (pc' := 19) 1 rfl rfl ic_1 ?_
    refine w_bipush (pc' := 21) 12 rfl rfl bp_12 ?_
    refine w_cS3i (pc' := 24) (v_m_w12 xs m n) (by decide) rfl rfl rfl (Or.inl rfl) (Nat.le_of_ble_eq_true rfl) (fun m' hm' => ?_)
    rw [show m' = m from hm']
    clear hm' m'
    refine w_if_ne (t := 30) (pc' := 27) rfl (by decide) rfl (fun h24 => ?_) (fun h24 => ?_)
    · obtain ⟨j1, hj1a, hj1, rfl⟩ := q_12_of (bB_n0.mp h24)
      refine w_iload_n (pc' := 31) rfl rfl rfl ?_
      refine w_if_ne (t := 42) (pc' := 34) rfl (by decide) rfl (fun h31 => ?_) (fun h31 => ?_)
      · exact absurd h31 (by decide)
      · have g3 : 0 = 0 := (nI_eq (a := 0) (b := 0) (by omega) (by omega)).mp h31
        refine w_aload_n (pc' := 35) rfl rfl rfl rfl ?_
        refine w_iload_n (pc' := 36) rfl rfl rfl ?_
        refine w_cV1i (pc' := 39) (v_m_crew xs h hY (n := j1) (by omega)) (by decide) rfl rfl rfl (Nat.le_of_ble_eq_true rfl) sh_153 rfl (fun m1 hm' => ?_)
        obtain ⟨h_1, hG_1⟩ := hm'
        have hF_1 := hF.tr hG_1
        refine w_goto (pc' := 51) rfl (by decide) ?_
        refine w_iret rfl rfl rfl ?_
        have hf : f_best T (nI j1) (nI 0) = ((f_crew T j1), T) := by simp [f_best, nI_0, q_12_nI hj1a hj1, nI_clamp (show j1 < 2 ^ 31 by omega), eq_true g3]
        rw [hf]
        exact ⟨rfl, h_1, hF_1⟩
    · have hN4 := bB_0.mp h24
      refine w_bipush (pc' := 29) (-2) rfl rfl bp_m2 ?_
      refine w_iret rfl rfl rfl ?_
      have hf : f_best T n (nI 0) = (-2, T) := by simp [f_best, nI_0, hN4]
      rw [hf]
      exact ⟨rfl, h, hF⟩
  · have hu : ¬ u = 0 := h1
    refine w_aload_n (pc' := 5) rfl rfl rfl rfl ?_
    refine w_iload_n (pc' := 6) rfl rfl rfl ?_
    refine w_bipush (pc' := 8) 10 rfl rfl bp_10 ?_
    refine w_isub (pc' := 9) rfl rfl ?_
    skip
    refine w_cV1i (pc' := 12) (v_m_one xs h (by omega) (u - 10)) (by decide) rfl rfl rfl (Nat.le_of_ble_eq_true rfl) sh_153 rfl (fun m' hm' => ?_)
    rw [show m' = m from hm']
    clear hm' m'
    refine w_if_ne (t := 17) (pc' := 15) rfl (by decide) rfl (fun h12 => ?_) (fun h12 => ?_)
    · obtain ⟨j5, hj5, ej5⟩ := q_is_of (bB_n0.mp h12) (by omega)
      obtain rfl : u = nI (j5 + 10) := by
        rw [← nI_add, ← ej5]
        exact (Int32.sub_add_cancel u 10).symm
      refine w_iload_n (pc' := 18) rfl rfl rfl ?_
      refine w_iconst (pc' := 19) 1 rfl rfl ic_1 ?_
      refine w_bipush (pc' := 21) 12 rfl rfl bp_12 ?_
      refine w_cS3i (pc' := 24) (v_m_w12 xs m n) (by decide) rfl rfl rfl (Or.inl rfl) (Nat.le_of_ble_eq_true rfl) (fun m' hm' => ?_)
      rw [show m' = m from hm']
      clear hm' m'
      refine w_if_ne (t := 30) (pc' := 27) rfl (by decide) rfl (fun h24 => ?_) (fun h24 => ?_)
      · obtain ⟨j6, hj6a, hj6, rfl⟩ := q_12_of (bB_n0.mp h24)
        refine w_iload_n (pc' := 31) rfl rfl rfl ?_
        refine w_if_ne (t := 42) (pc' := 34) rfl (by decide) rfl (fun h31 => ?_) (fun h31 => ?_)
        · have g7 : ¬ (j5 + 10) = 0 := fun q => h31 ((nI_eq (a := (j5 + 10)) (b := 0) (by omega) (by omega)).mpr q)
          refine w_aload_n (pc' := 43) rfl rfl rfl rfl ?_
          refine w_iload_n (pc' := 44) rfl rfl rfl ?_
          refine w_bipush (pc' := 46) 10 rfl rfl bp_10 ?_
          refine w_isub (pc' := 47) rfl rfl ?_
          rw [show nI ((j5 + 10)) - (10 : Int32) = nI ((j5 + 10) - 10) from nI_subN (a := (j5 + 10)) (b := 10) (by omega)]
          refine w_iload_n (pc' := 48) rfl rfl rfl ?_
          refine w_cV2i (pc' := 51) (v_m_landing xs h hY (p := ((j5 + 10) - 10)) (n := j6) (by omega) (by omega)) (by decide) rfl rfl rfl (Nat.le_of_ble_eq_true rfl) sh_153 rfl (fun m2 hm' => ?_)
          obtain ⟨h_2, hG_2⟩ := hm'
          have hF_2 := hF.tr hG_2
          refine w_iret rfl rfl rfl ?_
          have hf : f_best T (nI j6) (nI (j5 + 10)) = (nI ((f_lan T (((j5 + 10) - 10)) j6)), T) := by simp [f_best, hu, ej5, q_is_nI (n := T.1 153 0) hj5 (by omega), nI_clamp (show j5 < 2 ^ 31 by omega), nI_clamp (show (j5 + 10) < 2 ^ 31 by omega), q_12_nI hj6a hj6, nI_clamp (show j6 < 2 ^ 31 by omega), g7]
          rw [hf]
          exact ⟨rfl, h_2, hF_2⟩
        · have g8 : (j5 + 10) = 0 := (nI_eq (a := (j5 + 10)) (b := 0) (by omega) (by omega)).mp h31
          omega
      · have hN9 := bB_0.mp h24
        refine w_bipush (pc' := 29) (-2) rfl rfl bp_m2 ?_
        refine w_iret rfl rfl rfl ?_
        have hf : f_best T n (nI (j5 + 10)) = (-2, T) := by simp [f_best, hu, ej5, q_is_nI (n := T.1 153 0) hj5 (by omega), nI_clamp (show j5 < 2 ^ 31 by omega), nI_clamp (show (j5 + 10) < 2 ^ 31 by omega), hN9]
        rw [hf]
        exact ⟨rfl, h, hF⟩
    · have hN10 := bB_0.mp h12
      refine w_iconst (pc' := 16) (-1) rfl rfl ic_m1 ?_
      refine w_iret rfl rfl rfl ?_
      have hf : f_best T n u = (-1, T) := by simp [f_best, hu, hN10]
      rw [hf]
      exact ⟨rfl, h, hF⟩
def f_told (T : q_T) (u : Int32) : Int32 × q_T := if q_is (u - 10) 16 = true then (nI (T.1 162 (u.toNatClampNeg - 10)), T) else if q_is (u - 30) 16 = true then (bto T 162 (u.toNatClampNeg - 30) 8 0 0, T) else if u = 0 then (nI (T.1 153 11), T) else if u = 1 then (nI (f_know T), T) else if u = 2 then (nI (T.1 153 10), T) else if u = 3 then (f_ad T, T) else if u = 4 then (f_who T, T) else (-1, T)
set_option maxRecDepth 100000 in
set_option maxHeartbeats 4000000 in
theorem v_m_told (xs : List Int32) {T : q_T} {m : am_Mm} (h : q_Rm T m) (hY : q_Y 0 T) (u : Int32) : am_V xs 11 186 [.ref 153, .int u] m (am_qi (f_told T u).1 (q_G (f_told T u).2 m)) := by
  have hB := hY.1
  have hF : q_FC m m := q_FC.rf
  have hn : T.1 153 0 < 7 := hB 153 0
  refine am_V_of ky_186 (Nat.le_of_ble_eq_true rfl) ?_
  show am_P xs 10 m_told 0 [some (.ref 153), some (.int u)] [] m _
  refine w_iload_n (pc' := 1) rfl rfl rfl ?_
  refine w_bipush (pc' := 3) 10 rfl rfl bp_10 ?_
  refine w_isub (pc' := 4) rfl rfl ?_
  skip
  refine w_cS1i (pc' := 7) (v_m_cell xs m (u - 10)) (by decide) rfl rfl rfl (Or.inl rfl) (Nat.le_of_ble_eq_true rfl) (fun m' hm' => ?_)
  rw [show m' = m from hm']
  clear hm' m'
  refine w_if_eq (t := 20) (pc' := 10) rfl (by decide) rfl (fun h7 => ?_) (fun h7 => ?_)
  · have hN10 := bB_0.mp h7
    refine w_iload_n (pc' := 21) rfl rfl rfl ?_
    refine w_bipush (pc' := 23) 30 rfl rfl bp_30 ?_
    refine w_isub (pc' := 24) rfl rfl ?_
    skip
    refine w_cS1i (pc' := 27) (v_m_cell xs m (u - 30)) (by decide) rfl rfl rfl (Or.inl rfl) (Nat.le_of_ble_eq_true rfl) (fun m' hm' => ?_)
    rw [show m' = m from hm']
    clear hm' m'
    refine w_if_eq (t := 39) (pc' := 30) rfl (by decide) rfl (fun h27 => ?_) (fun h27 => ?_)
    · have hN30 := bB_0.mp h27
      refine w_iload_n (pc' := 40) rfl rfl rfl ?_
      refine w_tsw (t := 101) rfl rfl (fun hD3 => ?_) (fun z3 hl3 hh3 hz3 => ?_)
      · have eD3_0 : ¬ u = 0 := fun q => by rw [q] at hD3; revert hD3; decide
        have eD3_1 : ¬ u = 1 := fun q => by rw [q] at hD3; revert hD3; decide
        have eD3_2 : ¬ u = 2 := fun q => by rw [q] at hD3; revert hD3; decide
        have eD3_3 : ¬ u = 3 := fun q => by rw [q] at hD3; revert hD3; decide
        have eD3_4 : ¬ u = 4 := fun q => by rw [q] at hD3; revert hD3; decide
        refine w_iconst (pc' := 102) (-1) rfl rfl ic_m1 ?_
        refine w_iret rfl rfl rfl ?_
        have hf : f_told T u = (-1, T) := by unfold f_told; rw [if_neg (by rw [hN10]; decide), if_neg (by rw [hN30]; decide), if_neg eD3_0, if_neg eD3_1, if_neg eD3_2, if_neg eD3_3, if_neg eD3_4]
        rw [hf]
        exact ⟨rfl, h, hF⟩
      · rcases (show z3 = 0 ∨ z3 = 1 ∨ z3 = 2 ∨ z3 = 3 ∨ z3 = 4 by omega) with rfl | rfl | rfl | rfl | rfl
        · refine ⟨36, 76, rfl, rfl, ?_⟩
          have e3 : u = 0 := ts_eq hz3 (by decide)
          refine w_aload_n (pc' := 77) rfl rfl rfl rfl ?_
          refine w_getI (pc' := 80) rfl rfl rfl sh_153 rfl ?_
          rw [show m.1 153 11 = nI (T.1 153 (11)) from (rf_11 h :)]
          refine w_iret rfl rfl rfl ?_
          have hf : f_told T u = (nI (T.1 153 (11)), T) := by unfold f_told; rw [if_neg (by rw [hN10]; decide), if_neg (by rw [hN30]; decide), e3]; rfl
          rw [hf]
          exact ⟨rfl, h, hF⟩
        · refine ⟨41, 81, rfl, rfl, ?_⟩
          have e3 : u = 1 := ts_eq hz3 (by decide)
          refine w_aload_n (pc' := 82) rfl rfl rfl rfl ?_
          refine w_cV0i (pc' := 85) (v_m_know xs h hB hY.2.1) (by decide) rfl rfl rfl (Nat.le_of_ble_eq_true rfl) sh_153 rfl (fun m' hm' => ?_)
          rw [show m' = m from hm']
          clear hm' m'
          refine w_iret rfl rfl rfl ?_
          have hf : f_told T u = (nI (f_know T), T) := by unfold f_told; rw [if_neg (by rw [hN10]; decide), if_neg (by rw [hN30]; decide), e3]; rfl
          rw [hf]
          exact ⟨rfl, h, hF⟩
        · refine ⟨46, 86, rfl, rfl, ?_⟩
          have e3 : u = 2 := ts_eq hz3 (by decide)
          refine w_aload_n (pc' := 87) rfl rfl rfl rfl ?_
          refine w_getI (pc' := 90) rfl rfl rfl sh_153 rfl ?_
          rw [show m.1 153 10 = nI (T.1 153 (10)) from (rf_10 h :)]
          have b4 : (T.1 153 (10)) < 65536 := hB 153 (10)
          refine w_iret rfl rfl rfl ?_
          have hf : f_told T u = (nI (T.1 153 (10)), T) := by unfold f_told; rw [if_neg (by rw [hN10]; decide), if_neg (by rw [hN30]; decide), e3]; rfl
          rw [hf]
          exact ⟨rfl, h, hF⟩
        · refine ⟨51, 91, rfl, rfl, ?_⟩
          have e3 : u = 3 := ts_eq hz3 (by decide)
          refine w_aload_n (pc' := 92) rfl rfl rfl rfl ?_
          refine w_cV0i (pc' := 95) (v_m_allDone xs h hB) (by decide) rfl rfl rfl (Nat.le_of_ble_eq_true rfl) sh_153 rfl (fun m' hm' => ?_)
          rw [show m' = m from hm']
          clear hm' m'
          refine w_iret rfl rfl rfl ?_
          have hf : f_told T u = ((f_ad T), T) := by unfold f_told; rw [if_neg (by rw [hN10]; decide), if_neg (by rw [hN30]; decide), e3]; rfl
          rw [hf]
          exact ⟨rfl, h, hF⟩
        · refine ⟨56, 96, rfl, rfl, ?_⟩
          have e3 : u = 4 := ts_eq hz3 (by decide)
          refine w_aload_n (pc' := 97) rfl rfl rfl rfl ?_
          refine w_cV0i (pc' := 100) (v_m_whole xs h hY) (by decide) rfl rfl rfl (Nat.le_of_ble_eq_true rfl) sh_153 rfl (fun m1 hm' => ?_)
          obtain ⟨h_1, hG_1⟩ := hm'
          have hF_1 := hF.tr hG_1
          refine w_iret rfl rfl rfl ?_
          have hf : f_told T u = ((f_who T), T) := by unfold f_told; rw [if_neg (by rw [hN10]; decide), if_neg (by rw [hN30]; decide), e3]; rfl
          rw [hf]
          exact ⟨rfl, h_1, hF_1⟩
    · obtain ⟨j5, hj5, ej5⟩ := q_is_of (bB_n0.mp h27) (by omega)
      obtain rfl : u = nI (j5 + 30) := by
        rw [← nI_add, ← ej5]
        exact (Int32.sub_add_cancel u 30).symm
      refine w_aload_n (pc' := 31) rfl rfl rfl rfl ?_
      refine w_iload_n (pc' := 32) rfl rfl rfl ?_
      refine w_bipush (pc' := 34) 30 rfl rfl bp_30 ?_
      refine w_isub (pc' := 35) rfl rfl ?_
      rw [show nI ((j5 + 30)) - (30 : Int32) = nI ((j5 + 30) - 30) from nI_subN (a := (j5 + 30)) (b := 30) (by omega)]
      refine w_cV1i (pc' := 38) (v_m_marksOf xs h hY (c := ((j5 + 30) - 30)) (by omega)) (by decide) rfl rfl rfl (Nat.le_of_ble_eq_true rfl) sh_153 rfl (fun m2 hm' => ?_)
      obtain ⟨h_2, hG_2⟩ := hm'
      have hF_2 := hF.tr hG_2
      refine w_iret rfl rfl rfl ?_
      have hf : f_told T (nI (j5 + 30)) = ((bto T 162 (((j5 + 30) - 30)) 8 0 0), T) := by unfold f_told; rw [if_neg (by rw [hN10]; decide), if_pos (by rw [ej5]; exact q_is_nI hj5 (by omega)), nI_clamp (by omega)]
      rw [hf]
      exact ⟨rfl, h_2, hF_2⟩
  · obtain ⟨j6, hj6, ej6⟩ := q_is_of (bB_n0.mp h7) (by omega)
    obtain rfl : u = nI (j6 + 10) := by
      rw [← nI_add, ← ej6]
      exact (Int32.sub_add_cancel u 10).symm
    refine w_aload_n (pc' := 11) rfl rfl rfl rfl ?_
    refine w_getC (pc' := 14) rfl rfl rfl sh_153 rfl ?_
    refine w_iload_n (pc' := 15) rfl rfl rfl ?_
    refine w_bipush (pc' := 17) 10 rfl rfl bp_10 ?_
    refine w_isub (pc' := 18) rfl rfl ?_
    rw [show nI ((j6 + 10)) - (10 : Int32) = nI ((j6 + 10) - 10) from nI_subN (a := (j6 + 10)) (b := 10) (by omega)]
    refine w_iald (j := (((j6 + 10) - 10))) (pc' := 19) rfl rfl sh_162 rfl (by omega) (by decide) ?_
    rw [show m.1 162 ((j6 + 10) - 10) = nI (T.1 162 (((j6 + 10) - 10))) from (rd_162 h _ :)]
    have b7 : (T.1 162 (((j6 + 10) - 10))) < 8 := hB 162 (((j6 + 10) - 10))
    refine w_iret rfl rfl rfl ?_
    have hf : f_told T (nI (j6 + 10)) = (nI ((T.1 162 (((j6 + 10) - 10)))), T) := by simp [f_told, ej6, q_is_nI (n := 16) hj6 (by omega), nI_clamp (show j6 < 2 ^ 31 by omega), nI_clamp (show (j6 + 10) < 2 ^ 31 by omega)]
    rw [hf]
    exact ⟨rfl, h, hF⟩
def f_of (T : q_T) (d u : Int32) : Int32 × q_T := if q_is d (T.1 153 0) = true then (if u = 0 then (nI (T.1 154 d.toNatClampNeg), T) else if u = 1 then (nI (T.1 155 d.toNatClampNeg), T) else if u = 2 then (nI (T.1 156 d.toNatClampNeg), T) else if u = 3 then (nI (T.1 157 d.toNatClampNeg), T) else if u = 4 then (nI (T.1 158 d.toNatClampNeg), T) else if u = 5 then (nI (T.1 159 d.toNatClampNeg), T) else if u = 6 then (f_feel T d.toNatClampNeg, T) else if u = 7 then (nI (f_way T d.toNatClampNeg), T) else if u = 8 then (f_came T d.toNatClampNeg false, T) else if u = 9 then (f_came T d.toNatClampNeg true, T) else if u = 10 then (f_look T d.toNatClampNeg, T) else if u = 11 then (bto T 156 d.toNatClampNeg 16 0 0, T) else (-10001, T)) else (-10001, T)
set_option maxRecDepth 100000 in
set_option maxHeartbeats 4000000 in
theorem v_m_of (xs : List Int32) {T : q_T} {m : am_Mm} (h : q_Rm T m) (hY : q_Y 0 T) (d : Int32) (u : Int32) : am_V xs 11 143 [.ref 153, .int d, .int u] m (am_qi (f_of T d u).1 (q_G (f_of T d u).2 m)) := by
  have hB := hY.1
  have hF : q_FC m m := q_FC.rf
  have hn : T.1 153 0 < 7 := hB 153 0
  refine am_V_of ky_143 (Nat.le_of_ble_eq_true rfl) ?_
  show am_P xs 10 m_of 0 [some (.ref 153), some (.int d), some (.int u)] [] m _
  refine w_aload_n (pc' := 1) rfl rfl rfl rfl ?_
  refine w_iload_n (pc' := 2) rfl rfl rfl ?_
  refine w_cV1i (pc' := 5) (v_m_one xs h (by omega) _) (by decide) rfl rfl rfl (Nat.le_of_ble_eq_true rfl) sh_153 rfl (fun m' hm' => ?_)
  rw [show m' = m from hm']
  clear hm' m'
  refine w_if_ne (t := 12) (pc' := 8) rfl (by decide) rfl (fun h5 => ?_) (fun h5 => ?_)
  · obtain ⟨j1, hj1, rfl⟩ := q_is_of (bB_n0.mp h5) (by omega)
    refine w_iload_n (pc' := 13) rfl rfl rfl ?_
    refine w_tsw (t := 156) rfl rfl (fun hD2 => ?_) (fun z2 hl2 hh2 hz2 => ?_)
    · have eD2_0 : ¬ u = 0 := fun q => by rw [q] at hD2; revert hD2; decide
      have eD2_1 : ¬ u = 1 := fun q => by rw [q] at hD2; revert hD2; decide
      have eD2_2 : ¬ u = 2 := fun q => by rw [q] at hD2; revert hD2; decide
      have eD2_3 : ¬ u = 3 := fun q => by rw [q] at hD2; revert hD2; decide
      have eD2_4 : ¬ u = 4 := fun q => by rw [q] at hD2; revert hD2; decide
      have eD2_5 : ¬ u = 5 := fun q => by rw [q] at hD2; revert hD2; decide
      have eD2_6 : ¬ u = 6 := fun q => by rw [q] at hD2; revert hD2; decide
      have eD2_7 : ¬ u = 7 := fun q => by rw [q] at hD2; revert hD2; decide
      have eD2_8 : ¬ u = 8 := fun q => by rw [q] at hD2; revert hD2; decide
      have eD2_9 : ¬ u = 9 := fun q => by rw [q] at hD2; revert hD2; decide
      have eD2_10 : ¬ u = 10 := fun q => by rw [q] at hD2; revert hD2; decide
      have eD2_11 : ¬ u = 11 := fun q => by rw [q] at hD2; revert hD2; decide
      refine w_sipush (pc' := 159) (-10001) rfl rfl sp_m10001 ?_
      refine w_iret rfl rfl rfl ?_
      have hf : f_of T (nI j1) u = (-10001, T) := by simp [f_of, q_is_nI (n := T.1 153 0) hj1 (by omega), nI_clamp (show j1 < 2 ^ 31 by omega), eD2_0, eD2_1, eD2_2, eD2_3, eD2_4, eD2_5, eD2_6, eD2_7, eD2_8, eD2_9, eD2_10, eD2_11]
      rw [hf]
      exact ⟨rfl, h, hF⟩
    · rcases (show z2 = 0 ∨ z2 = 1 ∨ z2 = 2 ∨ z2 = 3 ∨ z2 = 4 ∨ z2 = 5 ∨ z2 = 6 ∨ z2 = 7 ∨ z2 = 8 ∨ z2 = 9 ∨ z2 = 10 ∨ z2 = 11 by omega) with rfl | rfl | rfl | rfl | rfl | rfl | rfl | rfl | rfl | rfl | rfl | rfl
      · refine ⟨63, 76, rfl, rfl, ?_⟩
        have e2 : u = 0 := ts_eq hz2 (by decide)
        refine w_aload_n (pc' := 77) rfl rfl rfl rfl ?_
        refine w_getC (pc' := 80) rfl rfl rfl sh_153 rfl ?_
        refine w_iload_n (pc' := 81) rfl rfl rfl ?_
        refine w_iald (j := (j1)) (pc' := 82) rfl rfl sh_154 rfl (by omega) (by decide) ?_
        rw [show m.1 154 j1 = nI (T.1 154 (j1)) from (rd_154 h _ :)]
        have b3 : (T.1 154 (j1)) < 7 := hB 154 (j1)
        refine w_iret rfl rfl rfl ?_
        have hf : f_of T (nI j1) u = (nI ((T.1 154 (j1))), T) := by simp [f_of, q_is_nI (n := T.1 153 0) hj1 (by omega), nI_clamp (show j1 < 2 ^ 31 by omega), e2]
        rw [hf]
        exact ⟨rfl, h, hF⟩
      · refine ⟨70, 83, rfl, rfl, ?_⟩
        have e2 : u = 1 := ts_eq hz2 (by decide)
        refine w_aload_n (pc' := 84) rfl rfl rfl rfl ?_
        refine w_getC (pc' := 87) rfl rfl rfl sh_153 rfl ?_
        refine w_iload_n (pc' := 88) rfl rfl rfl ?_
        refine w_iald (j := (j1)) (pc' := 89) rfl rfl sh_155 rfl (by omega) (by decide) ?_
        rw [show m.1 155 j1 = nI (T.1 155 (j1)) from (rd_155 h _ :)]
        have b4 : (T.1 155 (j1)) < 10 := hB 155 (j1)
        refine w_iret rfl rfl rfl ?_
        have hf : f_of T (nI j1) u = (nI ((T.1 155 (j1))), T) := by simp [f_of, q_is_nI (n := T.1 153 0) hj1 (by omega), nI_clamp (show j1 < 2 ^ 31 by omega), e2]
        rw [hf]
        exact ⟨rfl, h, hF⟩
      · refine ⟨77, 90, rfl, rfl, ?_⟩
        have e2 : u = 2 := ts_eq hz2 (by decide)
        refine w_aload_n (pc' := 91) rfl rfl rfl rfl ?_
        refine w_getC (pc' := 94) rfl rfl rfl sh_153 rfl ?_
        refine w_iload_n (pc' := 95) rfl rfl rfl ?_
        refine w_iald (j := (j1)) (pc' := 96) rfl rfl sh_156 rfl (by omega) (by decide) ?_
        rw [show m.1 156 j1 = nI (T.1 156 (j1)) from (rd_156 h _ :)]
        have b5 : (T.1 156 (j1)) < 16 := hB 156 (j1)
        refine w_iret rfl rfl rfl ?_
        have hf : f_of T (nI j1) u = (nI ((T.1 156 (j1))), T) := by simp [f_of, q_is_nI (n := T.1 153 0) hj1 (by omega), nI_clamp (show j1 < 2 ^ 31 by omega), e2]
        rw [hf]
        exact ⟨rfl, h, hF⟩
      · refine ⟨84, 97, rfl, rfl, ?_⟩
        have e2 : u = 3 := ts_eq hz2 (by decide)
        refine w_aload_n (pc' := 98) rfl rfl rfl rfl ?_
        refine w_getC (pc' := 101) rfl rfl rfl sh_153 rfl ?_
        refine w_iload_n (pc' := 102) rfl rfl rfl ?_
        refine w_iald (j := (j1)) (pc' := 103) rfl rfl sh_157 rfl (by omega) (by decide) ?_
        rw [show m.1 157 j1 = nI (T.1 157 (j1)) from (rd_157 h _ :)]
        have b6 : (T.1 157 (j1)) < 9 := hB 157 (j1)
        refine w_iret rfl rfl rfl ?_
        have hf : f_of T (nI j1) u = (nI ((T.1 157 (j1))), T) := by simp [f_of, q_is_nI (n := T.1 153 0) hj1 (by omega), nI_clamp (show j1 < 2 ^ 31 by omega), e2]
        rw [hf]
        exact ⟨rfl, h, hF⟩
      · refine ⟨91, 104, rfl, rfl, ?_⟩
        have e2 : u = 4 := ts_eq hz2 (by decide)
        refine w_aload_n (pc' := 105) rfl rfl rfl rfl ?_
        refine w_getC (pc' := 108) rfl rfl rfl sh_153 rfl ?_
        refine w_iload_n (pc' := 109) rfl rfl rfl ?_
        refine w_iald (j := (j1)) (pc' := 110) rfl rfl sh_158 rfl (by omega) (by decide) ?_
        rw [show m.1 158 j1 = nI (T.1 158 (j1)) from (rd_158 h _ :)]
        have b7 : (T.1 158 (j1)) < 2 := hB 158 (j1)
        refine w_iret rfl rfl rfl ?_
        have hf : f_of T (nI j1) u = (nI ((T.1 158 (j1))), T) := by simp [f_of, q_is_nI (n := T.1 153 0) hj1 (by omega), nI_clamp (show j1 < 2 ^ 31 by omega), e2]
        rw [hf]
        exact ⟨rfl, h, hF⟩
      · refine ⟨98, 111, rfl, rfl, ?_⟩
        have e2 : u = 5 := ts_eq hz2 (by decide)
        refine w_aload_n (pc' := 112) rfl rfl rfl rfl ?_
        refine w_getC (pc' := 115) rfl rfl rfl sh_153 rfl ?_
        refine w_iload_n (pc' := 116) rfl rfl rfl ?_
        refine w_iald (j := (j1)) (pc' := 117) rfl rfl sh_159 rfl (by omega) (by decide) ?_
        rw [show m.1 159 j1 = nI (T.1 159 (j1)) from (rd_159 h _ :)]
        refine w_iret rfl rfl rfl ?_
        have hf : f_of T (nI j1) u = (nI ((T.1 159 (j1))), T) := by simp [f_of, q_is_nI (n := T.1 153 0) hj1 (by omega), nI_clamp (show j1 < 2 ^ 31 by omega), e2]
        rw [hf]
        exact ⟨rfl, h, hF⟩
      · refine ⟨105, 118, rfl, rfl, ?_⟩
        have e2 : u = 6 := ts_eq hz2 (by decide)
        refine w_aload_n (pc' := 119) rfl rfl rfl rfl ?_
        refine w_iload_n (pc' := 120) rfl rfl rfl ?_
        refine w_cV1i (pc' := 123) (v_m_feel xs h hB hY.2.1 hY.2.2.1 (by have := hY.2.2.2.1; omega) (p := j1) (by omega)) (by decide) rfl rfl rfl (Nat.le_of_ble_eq_true rfl) sh_153 rfl (fun m1 hm' => ?_)
        have h_1 := hm'.Rm h
        have hF_1 := hF.tr hm'.FC
        refine w_iret rfl rfl rfl ?_
        have hf : f_of T (nI j1) u = ((f_feel T j1), T) := by simp [f_of, q_is_nI (n := T.1 153 0) hj1 (by omega), nI_clamp (show j1 < 2 ^ 31 by omega), e2]
        rw [hf]
        exact ⟨rfl, h_1, hF_1⟩
      · refine ⟨111, 124, rfl, rfl, ?_⟩
        have e2 : u = 7 := ts_eq hz2 (by decide)
        refine w_aload_n (pc' := 125) rfl rfl rfl rfl ?_
        refine w_iload_n (pc' := 126) rfl rfl rfl ?_
        refine w_cV1i (pc' := 129) (v_m_wayOf xs h hB hY.2.1 hY.2.2.1 (by have := hY.2.2.2.1; omega) (p := j1) (by omega)) (by decide) rfl rfl rfl (Nat.le_of_ble_eq_true rfl) sh_153 rfl (fun m2 hm' => ?_)
        have h_2 := hm'.Rm h
        have hF_2 := hF.tr hm'.FC
        refine w_iret rfl rfl rfl ?_
        have hf : f_of T (nI j1) u = (nI ((f_way T j1)), T) := by simp [f_of, q_is_nI (n := T.1 153 0) hj1 (by omega), nI_clamp (show j1 < 2 ^ 31 by omega), e2]
        rw [hf]
        exact ⟨rfl, h_2, hF_2⟩
      · refine ⟨117, 130, rfl, rfl, ?_⟩
        have e2 : u = 8 := ts_eq hz2 (by decide)
        refine w_aload_n (pc' := 131) rfl rfl rfl rfl ?_
        refine w_iload_n (pc' := 132) rfl rfl rfl ?_
        refine w_iconst (pc' := 133) 0 rfl rfl ic_0 ?_
        refine w_cV2i (pc' := 136) (v_m_came xs h hB (p := j1) (by omega) false) (by decide) rfl rfl rfl (Nat.le_of_ble_eq_true rfl) sh_153 rfl (fun m' hm' => ?_)
        rw [show m' = m from hm']
        clear hm' m'
        refine w_iret rfl rfl rfl ?_
        have hf : f_of T (nI j1) u = ((f_came T j1 false), T) := by simp [f_of, q_is_nI (n := T.1 153 0) hj1 (by omega), nI_clamp (show j1 < 2 ^ 31 by omega), e2]
        rw [hf]
        exact ⟨rfl, h, hF⟩
      · refine ⟨124, 137, rfl, rfl, ?_⟩
        have e2 : u = 9 := ts_eq hz2 (by decide)
        refine w_aload_n (pc' := 138) rfl rfl rfl rfl ?_
        refine w_iload_n (pc' := 139) rfl rfl rfl ?_
        refine w_iconst (pc' := 140) 1 rfl rfl ic_1 ?_
        refine w_cV2i (pc' := 143) (v_m_came xs h hB (p := j1) (by omega) true) (by decide) rfl rfl rfl (Nat.le_of_ble_eq_true rfl) sh_153 rfl (fun m' hm' => ?_)
        rw [show m' = m from hm']
        clear hm' m'
        refine w_iret rfl rfl rfl ?_
        have hf : f_of T (nI j1) u = ((f_came T j1 true), T) := by simp [f_of, q_is_nI (n := T.1 153 0) hj1 (by omega), nI_clamp (show j1 < 2 ^ 31 by omega), e2]
        rw [hf]
        exact ⟨rfl, h, hF⟩
      · refine ⟨131, 144, rfl, rfl, ?_⟩
        have e2 : u = 10 := ts_eq hz2 (by decide)
        refine w_aload_n (pc' := 145) rfl rfl rfl rfl ?_
        refine w_iload_n (pc' := 146) rfl rfl rfl ?_
        refine w_cV1i (pc' := 149) (v_m_look xs h hB (p := j1) (by omega)) (by decide) rfl rfl rfl (Nat.le_of_ble_eq_true rfl) sh_153 rfl (fun m' hm' => ?_)
        rw [show m' = m from hm']
        clear hm' m'
        refine w_iret rfl rfl rfl ?_
        have hf : f_of T (nI j1) u = ((f_look T j1), T) := by simp [f_of, q_is_nI (n := T.1 153 0) hj1 (by omega), nI_clamp (show j1 < 2 ^ 31 by omega), e2]
        rw [hf]
        exact ⟨rfl, h, hF⟩
      · refine ⟨137, 150, rfl, rfl, ?_⟩
        have e2 : u = 11 := ts_eq hz2 (by decide)
        refine w_aload_n (pc' := 151) rfl rfl rfl rfl ?_
        refine w_iload_n (pc' := 152) rfl rfl rfl ?_
        refine w_cV1i (pc' := 155) (v_m_places xs h hY (p := j1) (by omega)) (by decide) rfl rfl rfl (Nat.le_of_ble_eq_true rfl) sh_153 rfl (fun m3 hm' => ?_)
        obtain ⟨h_3, hG_3⟩ := hm'
        have hF_3 := hF.tr hG_3
        refine w_iret rfl rfl rfl ?_
        have hf : f_of T (nI j1) u = ((bto T 156 j1 16 0 0), T) := by simp [f_of, q_is_nI (n := T.1 153 0) hj1 (by omega), nI_clamp (show j1 < 2 ^ 31 by omega), e2]
        rw [hf]
        exact ⟨rfl, h_3, hF_3⟩
  · have hN8 := bB_0.mp h5
    refine w_sipush (pc' := 11) (-10001) rfl rfl sp_m10001 ?_
    refine w_iret rfl rfl rfl ?_
    have hf : f_of T d u = (-10001, T) := by simp [f_of, hN8]
    rw [hf]
    exact ⟨rfl, h, hF⟩
theorem q_go_59 {W : Nat → Nat} {kn : Nat} : ∀ (r k x : Nat) (T : q_T), k + r ≤ x → (q_go W kn r k T).1 159 x = T.1 159 x := by
  intro r
  induction r with
  | zero => exact fun _ _ _ _ => rfl
  | succ r ih =>
    intro k x T hk
    rw [q_go, ih (k + 1) x _ (by omega)]
    split
    · rfl
    · by_cases e : x < 6
      · exact f_gb_o (by omega) (by omega) (by omega) (by omega) (by omega) (by omega)
      · exact f_gb_o (by omega) (by omega) (by omega) (by omega) (by omega) (by omega)
/-- DREW, told anew -/
def q_mr (T : q_T) (D : Nat → Nat) : q_T := (fun c x => if c = 159 then D x else T.1 c x, T.2)
theorem q_mr_u {T : q_T} {D D' : Nat → Nat} {k v : Nat} (h : ∀ x, D' x = if x = k then v else D x) : q_Tu (q_mr T D) 159 k v = q_mr T D' := by
  refine Prod.ext ?_ rfl
  funext c x
  show (if c = 159 ∧ x = k then v else if c = 159 then D x else T.1 c x) = if c = 159 then D' x else T.1 c x
  by_cases e : c = 159
  · rw [if_pos e, if_pos e, h x]
    by_cases f : x = k
    · rw [if_pos ⟨e, f⟩, if_pos f]
    · rw [if_neg (fun z => f z.2), if_neg f]
  · rw [if_neg (fun z => e z.1), if_neg e, if_neg e]
theorem q_mr_T {T : q_T} {D : Nat → Nat} (h : ∀ x, D x = T.1 159 x) : q_mr T D = T := by
  refine Prod.ext ?_ rfl
  funext c x
  show (if c = 159 then D x else T.1 c x) = T.1 c x
  split
  · rename_i e
    rw [e, h x]
  · rfl
theorem q_mr_Y {T : q_T} {D : Nat → Nat} {h h' : Nat} (hY : q_Y h T) (hD : ∀ x, D x ≤ 9999 + h') (hh : T.1 153 11 ≤ 9999 + h') (hs : h' < 10000) : q_Y h' (q_mr T D) := by
  obtain ⟨hB, hO, hV, hr, hd⟩ := hY
  refine ⟨fun c x => ?_, hO, hV, hh, hD⟩
  show (if c = 159 then D x else T.1 c x) < _
  split
  · rename_i e
    rw [e]
    have := hD x
    show _ < 2 ^ 40
    omega
  · exact hB c x
def q_cap (T : q_T) (k : Nat) : Nat → Nat := fun x => if x < k then min 9999 (T.1 159 x) else T.1 159 x
def f_cap (T : q_T) : q_T := q_mr T (q_cap T (T.1 153 0))
theorem f_cap_Y {T : q_T} (hY : q_Y 0 T) (hh : T.1 153 11 + 1 ≤ 9999) : q_Y 0 (f_cap (f_gh T)) := by
  have h1 := f_gh_Y hY (by omega)
  have h2 := f_gh_hour hY (by omega)
  refine q_mr_Y h1 (fun x => ?_) (by omega) (by omega)
  unfold q_cap
  split
  · omega
  · rename_i e
    have e1 := hY.2.2.2.2 x
    have e2 : (f_gh T).1 159 x = (q_ge T).1 159 x := q_Tu_ne (by omega)
    have e4 : (f_gh T).1 153 0 = T.1 153 0 := (f_gh_As hY (by omega)).2.1 153 0 (by omega) (by omega)
    have e3 : (q_ge T).1 159 x = T.1 159 x := q_go_59 _ _ _ _ (by omega)
    omega
def f_pn : Nat → q_T → q_T
  | 0, T => T
  | n + 1, T => f_pn n (f_cap (f_gh T))
def f_pass (T : q_T) (n : Int32) : Int32 × q_T := if q_is n 61 = true then (if T.1 153 11 + n.toNatClampNeg ≤ 9999 then (nI ((f_pn n.toNatClampNeg T).1 153 11), f_pn n.toNatClampNeg T) else (-3, T)) else (-2, T)
set_option maxRecDepth 100000 in
set_option maxHeartbeats 4000000 in
theorem lp_cap (xs : List Int32) {T : q_T} {m0 : am_Mm} {h0 : Nat} (hY : q_Y h0 T) (hh0 : h0 < 1000) {n i : Nat} {Q : am_Q} (hK : ∀ m, q_Rm (f_cap T) m → q_FC m0 m → am_P xs 6 m_pass 73 [some (.ref 153), some (.int (nI n)), some (.int (nI i)), some (.int (nI (T.1 153 0)))] [] m Q) : ∀ (r k : Nat), k + r = T.1 153 0 → ∀ (m : am_Mm), q_Rm (q_mr T (q_cap T k)) m → q_FC m0 m → am_P xs 6 m_pass 41 [some (.ref 153), some (.int (nI n)), some (.int (nI i)), some (.int (nI k))] [] m (Q) := by
  intro r
  induction r with
  | zero =>
    intro k hk m h hF
    have b0 : T.1 153 0 < 7 := hY.1 153 0
    have hd9 := hY.2.2.2.2 k
    refine w_iload_n (pc' := 42) rfl rfl rfl ?_
    refine w_aload_n (pc' := 43) rfl rfl rfl rfl ?_
    refine w_getI (pc' := 46) rfl rfl rfl sh_153 rfl ?_
    rw [show m.1 153 0 = nI ((q_mr T (q_cap T k)).1 153 (0)) from (rf_0 h :)]
    rw [show (q_mr T (q_cap T k)).1 153 0 = T.1 153 0 from rfl]
    refine w_ic_ge (t := 73) (pc' := 49) rfl (by decide) rfl (fun h46 => ?_) (fun h46 => ?_)
    · have g1 : (T.1 153 0) ≤ k := (nI_leI (a := (T.1 153 0)) (b := k) (by omega) (by omega)).mp h46
      obtain rfl : k = T.1 153 0 := by omega
      exact hK m h hF
    · have g2 : ¬ (T.1 153 0) ≤ k := fun q => h46 ((nI_leI (a := (T.1 153 0)) (b := k) (by omega) (by omega)).mpr q)
      omega
  | succ r ih =>
    intro k hk m h hF
    have b0 : T.1 153 0 < 7 := hY.1 153 0
    have hd9 := hY.2.2.2.2 k
    refine w_iload_n (pc' := 42) rfl rfl rfl ?_
    refine w_aload_n (pc' := 43) rfl rfl rfl rfl ?_
    refine w_getI (pc' := 46) rfl rfl rfl sh_153 rfl ?_
    rw [show m.1 153 0 = nI ((q_mr T (q_cap T k)).1 153 (0)) from (rf_0 h :)]
    rw [show (q_mr T (q_cap T k)).1 153 0 = T.1 153 0 from rfl]
    refine w_ic_ge (t := 73) (pc' := 49) rfl (by decide) rfl (fun h46 => ?_) (fun h46 => ?_)
    · have g1 : (T.1 153 0) ≤ k := (nI_leI (a := (T.1 153 0)) (b := k) (by omega) (by omega)).mp h46
      omega
    · have g2 : ¬ (T.1 153 0) ≤ k := fun q => h46 ((nI_leI (a := (T.1 153 0)) (b := k) (by omega) (by omega)).mpr q)
      refine w_aload_n (pc' := 50) rfl rfl rfl rfl ?_
      refine w_getC (pc' := 53) rfl rfl rfl sh_153 rfl ?_
      refine w_iload_n (pc' := 54) rfl rfl rfl ?_
      refine w_sipush (pc' := 57) 9999 rfl rfl sp_9999 ?_
      refine w_aload_n (pc' := 58) rfl rfl rfl rfl ?_
      refine w_getC (pc' := 61) rfl rfl rfl sh_153 rfl ?_
      refine w_iload_n (pc' := 62) rfl rfl rfl ?_
      refine w_iald (j := (k)) (pc' := 63) rfl rfl sh_159 rfl (by omega) (by decide) ?_
      rw [show m.1 159 k = nI (T.1 159 k) from (rd_159 h k).trans (congrArg nI (if_neg (show ¬ k < k by omega)))]
      refine w_cS2i (pc' := 66) (v_jm_min0 xs m (a := 9999) (b := T.1 159 k) (by omega) (by omega)) (by decide) rfl rfl rfl (Or.inl rfl) (Nat.le_of_ble_eq_true rfl) (fun m' hm' => ?_)
      rw [show m' = m from hm']
      clear hm' m'
      refine w_iast (j := (k)) (pc' := 67) rfl rfl sh_159 rfl (by omega) (by decide) ?_
      refine w_gen (h.u (c := 159) (k := k) (x := (min 9999 (T.1 159 k))) rfl (y := _) (show _ = q_enc _ _ _ from rfl)) (hF.u (by decide)) (fun m1 h_1 hF_1 => ?_)
      refine w_iinc3 (pc' := 70) 1 rfl rfl ic_1 rfl ?_
      rw [nI_inc]
      refine w_goto (pc' := 41) rfl (by decide) ?_
      refine ih (k + 1) (by omega) _ ?_ hF_1
      have e0 := h_1
      rw [q_mr_u (D' := q_cap T (k + 1)) (fun x => ?_)] at e0
      · exact e0
      · unfold q_cap
        by_cases e : x = k
        · subst e
          rw [if_pos rfl, if_pos (by omega)]
        · rw [if_neg e]
          by_cases f : x < k
          · rw [if_pos f, if_pos (by omega)]
          · rw [if_neg f, if_neg (by omega)]
set_option maxRecDepth 100000 in
set_option maxHeartbeats 4000000 in
theorem lp_pass (xs : List Int32) {m0 : am_Mm} {n : Nat} (hn : n < 1000) : ∀ (r k : Nat), k + r = n → ∀ (T : q_T) (m : am_Mm) (l3 : Option Value), q_Rm T m → q_FC m0 m → q_Y 0 T → T.1 153 11 + r ≤ 9999 → am_P xs 6 m_pass 30 [some (.ref 153), some (.int (nI n)), some (.int (nI k)), l3] [] m (am_qi (nI ((f_pn r T).1 153 11)) (q_G (f_pn r T) m0)) := by
  intro r
  induction r with
  | zero =>
    intro k hk T m l3 h hF hY hr
    have hB := hY.1
    refine w_iload_n (pc' := 31) rfl rfl rfl ?_
    refine w_iload_n (pc' := 32) rfl rfl rfl ?_
    refine w_ic_ge (t := 79) (pc' := 35) rfl (by decide) rfl (fun h32 => ?_) (fun h32 => ?_)
    · have g1 : n ≤ k := (nI_leI (a := n) (b := k) (by omega) (by omega)).mp h32
      refine w_aload_n (pc' := 80) rfl rfl rfl rfl ?_
      refine w_getI (pc' := 83) rfl rfl rfl sh_153 rfl ?_
      rw [show m.1 153 11 = nI (T.1 153 (11)) from (rf_11 h :)]
      refine w_iret rfl rfl rfl ?_
      exact ⟨rfl, h, hF⟩
    · have g2 : ¬ n ≤ k := fun q => h32 ((nI_leI (a := n) (b := k) (by omega) (by omega)).mpr q)
      omega
  | succ r ih =>
    intro k hk T m l3 h hF hY hr
    have hB := hY.1
    refine w_iload_n (pc' := 31) rfl rfl rfl ?_
    refine w_iload_n (pc' := 32) rfl rfl rfl ?_
    refine w_ic_ge (t := 79) (pc' := 35) rfl (by decide) rfl (fun h32 => ?_) (fun h32 => ?_)
    · have g1 : n ≤ k := (nI_leI (a := n) (b := k) (by omega) (by omega)).mp h32
      omega
    · have g2 : ¬ n ≤ k := fun q => h32 ((nI_leI (a := n) (b := k) (by omega) (by omega)).mpr q)
      refine w_aload_n (pc' := 36) rfl rfl rfl rfl ?_
      refine w_cV0n (pc' := 39) (v_m_goesHour xs h hY.1 hY.2.1 hY.2.2.1 (by have := hY.2.2.2.1; omega) (fun i => by have := hY.2.2.2.2 i; omega)) (by decide) rfl rfl rfl (Nat.le_of_ble_eq_true rfl) sh_153 rfl (fun m1 hm' => ?_)
      obtain ⟨h_1, hG_1⟩ := hm'
      have hF_1 := hF.tr hG_1.FC
      refine w_iconst (pc' := 40) 0 rfl rfl ic_0 ?_
      refine w_ist3 (pc' := 41) rfl rfl rfl ?_
      refine lp_cap xs (f_gh_Y hY (by omega)) (by omega) (fun m2 h_2 hF_2 => ?_) ((f_gh T).1 153 0) 0 (by omega) m1 (by rw [q_mr_T (D := q_cap (f_gh T) 0) (fun x => if_neg (by omega))]; exact h_1) hF_1
      refine w_iinc2 (pc' := 76) 1 rfl rfl ic_1 rfl ?_
      rw [nI_inc]
      refine w_goto (pc' := 30) rfl (by decide) ?_
      have hx := f_gh_hour hY (by omega)
      exact ih (k + 1) (by omega) _ _ _ h_2 hF_2 (f_cap_Y hY (by omega)) (by show (f_gh T).1 153 11 + r ≤ 9999; omega)
set_option maxRecDepth 100000 in
set_option maxHeartbeats 4000000 in
theorem v_m_pass (xs : List Int32) {T : q_T} {m : am_Mm} (h : q_Rm T m) (hY : q_Y 0 T) (n : Int32) : am_V xs 7 190 [.ref 153, .int n] m (am_qi (f_pass T n).1 (q_G (f_pass T n).2 m)) := by
  have hB := hY.1
  have hF : q_FC m m := q_FC.rf
  have hn : T.1 153 0 < 7 := hB 153 0
  have hr9 := hY.2.2.2.1
  refine am_V_of ky_190 (Nat.le_of_ble_eq_true rfl) ?_
  show am_P xs 6 m_pass 0 [some (.ref 153), some (.int n), none, none] [] m _
  refine w_iload_n (pc' := 1) rfl rfl rfl ?_
  refine w_iconst (pc' := 2) 0 rfl rfl ic_0 ?_
  refine w_bipush (pc' := 4) 60 rfl rfl bp_60 ?_
  refine w_cS3i (pc' := 7) (v_m_win xs _ _ _ (61) (by omega) (by first | decide | rfl)) (by decide) rfl rfl rfl (Or.inl rfl) (Nat.le_of_ble_eq_true rfl) (fun m' hm' => ?_)
  rw [show m' = m from hm']
  clear hm' m'
  refine w_if_ne (t := 13) (pc' := 10) rfl (by decide) rfl (fun h7 => ?_) (fun h7 => ?_)
  · obtain ⟨j1, hj1, rfl⟩ := q_is_of (bB_n0.mp h7) (by omega)
    refine w_aload_n (pc' := 14) rfl rfl rfl rfl ?_
    refine w_getI (pc' := 17) rfl rfl rfl sh_153 rfl ?_
    rw [show m.1 153 11 = nI (T.1 153 (11)) from (rf_11 h :)]
    refine w_iload_n (pc' := 18) rfl rfl rfl ?_
    refine w_iadd (pc' := 19) rfl rfl ?_
    rw [show nI ((T.1 153 (11))) + nI (j1) = nI ((T.1 153 (11)) + j1) from nI_add _ _]
    refine w_sipush (pc' := 22) 9999 rfl rfl sp_9999 ?_
    refine w_ic_le (t := 28) (pc' := 25) rfl (by decide) rfl (fun h22 => ?_) (fun h22 => ?_)
    · have g2 : (T.1 153 (11)) + j1 ≤ 9999 := (nI_leI (a := (T.1 153 (11)) + j1) (b := 9999) (by omega) (by omega)).mp h22
      refine w_iconst (pc' := 29) 0 rfl rfl ic_0 ?_
      refine w_ist2 (pc' := 30) rfl rfl rfl ?_
      have hf : f_pass T (nI j1) = (nI ((f_pn j1 T).1 153 11), f_pn j1 T) := by unfold f_pass; rw [if_pos (q_is_nI hj1 (by omega)), nI_clamp (by omega), if_pos (by omega)]
      rw [hf]
      exact lp_pass xs (by omega) j1 0 (by omega) T m _ h q_FC.rf hY (by omega)
    · have g3 : ¬ (T.1 153 (11)) + j1 ≤ 9999 := fun q => h22 ((nI_leI (a := (T.1 153 (11)) + j1) (b := 9999) (by omega) (by omega)).mpr q)
      refine w_bipush (pc' := 27) (-3) rfl rfl bp_m3 ?_
      refine w_iret rfl rfl rfl ?_
      have hf : f_pass T (nI j1) = (-3, T) := by unfold f_pass; rw [if_pos (q_is_nI hj1 (by omega)), nI_clamp (by omega), if_neg (by omega)]
      rw [hf]
      exact ⟨rfl, h, hF⟩
  · have hN4 := bB_0.mp h7
    refine w_bipush (pc' := 12) (-2) rfl rfl bp_m2 ?_
    refine w_iret rfl rfl rfl ?_
    have hf : f_pass T n = (-2, T) := by simp [f_pass, hN4]
    rw [hf]
    exact ⟨rfl, h, hF⟩
