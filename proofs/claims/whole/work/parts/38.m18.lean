def f_on (T : q_T) (n u : Int32) : Int32 × q_T := if q_is u 2 = true ∨ q_is (u - 10) (T.1 153 0) = true then (if q_is n 61 = true then ((if u.toNatClampNeg = 0 then nI ((f_gn n.toNatClampNeg T).1 153 10) else if u.toNatClampNeg = 1 then f_ad (f_gn n.toNatClampNeg T) else nI ((f_gn n.toNatClampNeg T).1 156 (u.toNatClampNeg - 10))), T) else (-2, T)) else (-1, T)
set_option maxRecDepth 100000 in
set_option maxHeartbeats 4000000 in
theorem v_m_on (xs : List Int32) {T : q_T} {m : am_Mm} (h : q_Rm T m) (hY : q_Y 0 T) (n : Int32) (u : Int32) : am_V xs 8 191 [.ref 153, .int n, .int u] m (am_qi (f_on T n u).1 (q_G (f_on T n u).2 m)) := by
  have hB := hY.1
  have hF : q_FC m m := q_FC.rf
  have hn : T.1 153 0 < 7 := hB 153 0
  refine am_V_of ky_191 (Nat.le_of_ble_eq_true rfl) ?_
  show am_P xs 7 m_on 0 [some (.ref 153), some (.int n), some (.int u), none] [] m _
  refine w_iload_n (pc' := 1) rfl rfl rfl ?_
  refine w_iconst (pc' := 2) 0 rfl rfl ic_0 ?_
  refine w_iconst (pc' := 3) 1 rfl rfl ic_1 ?_
  refine w_cS3i (pc' := 6) (v_m_win xs _ _ _ (2) (by omega) (by first | decide | rfl)) (by decide) rfl rfl rfl (Or.inl rfl) (Nat.le_of_ble_eq_true rfl) (fun m' hm' => ?_)
  rw [show m' = m from hm']
  clear hm' m'
  refine w_if_ne (t := 22) (pc' := 9) rfl (by decide) rfl (fun h6 => ?_) (fun h6 => ?_)
  · obtain ⟨j1, hj1, rfl⟩ := q_is_of (bB_n0.mp h6) (by omega)
    refine w_iload_n (pc' := 23) rfl rfl rfl ?_
    refine w_iconst (pc' := 24) 0 rfl rfl ic_0 ?_
    refine w_bipush (pc' := 26) 60 rfl rfl bp_60 ?_
    refine w_cS3i (pc' := 29) (v_m_win xs _ _ _ (61) (by omega) (by first | decide | rfl)) (by decide) rfl rfl rfl (Or.inl rfl) (Nat.le_of_ble_eq_true rfl) (fun m' hm' => ?_)
    rw [show m' = m from hm']
    clear hm' m'
    refine w_if_ne (t := 35) (pc' := 32) rfl (by decide) rfl (fun h29 => ?_) (fun h29 => ?_)
    · obtain ⟨j2, hj2, rfl⟩ := q_is_of (bB_n0.mp h29) (by omega)
      refine w_aload_n (pc' := 36) rfl rfl rfl rfl ?_
      refine w_aload_n (pc' := 37) rfl rfl rfl rfl ?_
      refine w_getC (pc' := 40) rfl rfl rfl sh_153 rfl ?_
      refine w_cV1n (pc' := 43) (v_m_keep xs (c := 180) (by decide) sh_180) (by decide) rfl rfl rfl (Nat.le_of_ble_eq_true rfl) sh_153 rfl (fun m1 hm' => ?_)
      have K_1 : m1 = am_kp m 180 q_D := hm'
      have h_1 : q_Rm T m1 := by rw [K_1]; exact q_Rm_kp h
      have hF_1 : q_FB m1 m1 := q_FB.rf
      refine w_aload_n (pc' := 44) rfl rfl rfl rfl ?_
      refine w_iload_n (pc' := 45) rfl rfl rfl ?_
      refine w_cV1n (pc' := 48) (v_m_goesOn xs h_1 (n := j2) (h0 := 0) hY (by omega)) (by decide) rfl rfl rfl (Nat.le_of_ble_eq_true rfl) sh_153 rfl (fun m2 hm' => ?_)
      obtain ⟨h_2, hG_2⟩ := hm'
      have hF_2 := hF_1.tr hG_2
      have hI_2 := f_gn_inv (j2) (0) T hY (by omega)
      refine w_iload_n (pc' := 49) rfl rfl rfl ?_
      refine w_if_ne (t := 59) (pc' := 52) rfl (by decide) rfl (fun h49 => ?_) (fun h49 => ?_)
      · have g3 : ¬ j1 = 0 := fun q => h49 ((nI_eq (a := j1) (b := 0) (by omega) (by omega)).mpr q)
        refine w_iload_n (pc' := 60) rfl rfl rfl ?_
        refine w_iconst (pc' := 61) 1 rfl rfl ic_1 ?_
        refine w_ic_ne (t := 71) (pc' := 64) rfl (by decide) rfl (fun h61 => ?_) (fun h61 => ?_)
        · have g4 : ¬ j1 = 1 := fun q => h61 ((nI_eq (a := j1) (b := 1) (by omega) (by omega)).mpr q)
          omega
        · have g5 : j1 = 1 := (nI_eq (a := j1) (b := 1) (by omega) (by omega)).mp h61
          refine w_aload_n (pc' := 65) rfl rfl rfl rfl ?_
          refine w_cV0i (pc' := 68) (v_m_allDone xs h_2 hI_2.1.1) (by decide) rfl rfl rfl (Nat.le_of_ble_eq_true rfl) sh_153 rfl (fun m' hm' => ?_)
          rw [show m' = m2 from hm']
          clear hm' m'
          refine w_goto (pc' := 80) rfl (by decide) ?_
          refine w_ist3 (pc' := 81) rfl rfl rfl ?_
          refine w_aload_n (pc' := 82) rfl rfl rfl rfl ?_
          refine w_aload_n (pc' := 83) rfl rfl rfl rfl ?_
          refine w_getC (pc' := 86) rfl rfl rfl sh_153 rfl ?_
          refine w_cV1n (pc' := 89) (v_m_again xs (c := 180) (Or.inr rfl) sh_180) (by decide) rfl rfl rfl (Nat.le_of_ble_eq_true rfl) sh_153 rfl (fun m3 hm' => ?_)
          have R_3 : q_Rm T m3 ∧ q_FC m m3 := by rw [show m3 = am_ag m2 180 q_D from hm']; exact q_again h K_1 h_2 hF_2 (hI_2.2.1.Ag)
          have h_3 := R_3.1
          have hF_3 := hF.tr R_3.2
          refine w_iload_n (pc' := 90) rfl rfl rfl ?_
          refine w_iret rfl rfl rfl ?_
          have hf : f_on T (nI j2) (nI j1) = ((f_ad (f_gn (j2) T)), T) := by simp [f_on, q_is_nI (n := 2) hj1 (by omega), nI_clamp (show j1 < 2 ^ 31 by omega), q_is_nI (n := 61) hj2 (by omega), nI_clamp (show j2 < 2 ^ 31 by omega), g3, eq_true g5]
          rw [hf]
          exact ⟨rfl, h_3, hF_3⟩
      · have g6 : j1 = 0 := (nI_eq (a := j1) (b := 0) (by omega) (by omega)).mp h49
        refine w_aload_n (pc' := 53) rfl rfl rfl rfl ?_
        refine w_getI (pc' := 56) rfl rfl rfl sh_153 rfl ?_
        rw [show m2.1 153 10 = nI ((f_gn (j2) T).1 153 (10)) from (rf_10 h_2 :)]
        have b7 : ((f_gn (j2) T).1 153 (10)) < 65536 := hI_2.1.1 153 (10)
        refine w_goto (pc' := 80) rfl (by decide) ?_
        refine w_ist3 (pc' := 81) rfl rfl rfl ?_
        refine w_aload_n (pc' := 82) rfl rfl rfl rfl ?_
        refine w_aload_n (pc' := 83) rfl rfl rfl rfl ?_
        refine w_getC (pc' := 86) rfl rfl rfl sh_153 rfl ?_
        refine w_cV1n (pc' := 89) (v_m_again xs (c := 180) (Or.inr rfl) sh_180) (by decide) rfl rfl rfl (Nat.le_of_ble_eq_true rfl) sh_153 rfl (fun m4 hm' => ?_)
        have R_4 : q_Rm T m4 ∧ q_FC m m4 := by rw [show m4 = am_ag m2 180 q_D from hm']; exact q_again h K_1 h_2 hF_2 (hI_2.2.1.Ag)
        have h_4 := R_4.1
        have hF_4 := hF.tr R_4.2
        refine w_iload_n (pc' := 90) rfl rfl rfl ?_
        refine w_iret rfl rfl rfl ?_
        have hf : f_on T (nI j2) (nI j1) = (nI (((f_gn (j2) T).1 153 (10))), T) := by simp [f_on, q_is_nI (n := 2) hj1 (by omega), nI_clamp (show j1 < 2 ^ 31 by omega), q_is_nI (n := 61) hj2 (by omega), nI_clamp (show j2 < 2 ^ 31 by omega), eq_true g6]
        rw [hf]
        exact ⟨rfl, h_4, hF_4⟩
    · have hN8 := bB_0.mp h29
      refine w_bipush (pc' := 34) (-2) rfl rfl bp_m2 ?_
      refine w_iret rfl rfl rfl ?_
      have hf : f_on T n (nI j1) = (-2, T) := by simp [f_on, q_is_nI (n := 2) hj1 (by omega), nI_clamp (show j1 < 2 ^ 31 by omega), hN8]
      rw [hf]
      exact ⟨rfl, h, hF⟩
  · have hN9 := bB_0.mp h6
    refine w_aload_n (pc' := 10) rfl rfl rfl rfl ?_
    refine w_iload_n (pc' := 11) rfl rfl rfl ?_
    refine w_bipush (pc' := 13) 10 rfl rfl bp_10 ?_
    refine w_isub (pc' := 14) rfl rfl ?_
    skip
    refine w_cV1i (pc' := 17) (v_m_one xs h (by omega) (u - 10)) (by decide) rfl rfl rfl (Nat.le_of_ble_eq_true rfl) sh_153 rfl (fun m' hm' => ?_)
    rw [show m' = m from hm']
    clear hm' m'
    refine w_if_ne (t := 22) (pc' := 20) rfl (by decide) rfl (fun h17 => ?_) (fun h17 => ?_)
    · obtain ⟨j10, hj10, ej10⟩ := q_is_of (bB_n0.mp h17) (by omega)
      obtain rfl : u = nI (j10 + 10) := by
        rw [← nI_add, ← ej10]
        exact (Int32.sub_add_cancel u 10).symm
      refine w_iload_n (pc' := 23) rfl rfl rfl ?_
      refine w_iconst (pc' := 24) 0 rfl rfl ic_0 ?_
      refine w_bipush (pc' := 26) 60 rfl rfl bp_60 ?_
      refine w_cS3i (pc' := 29) (v_m_win xs _ _ _ (61) (by omega) (by first | decide | rfl)) (by decide) rfl rfl rfl (Or.inl rfl) (Nat.le_of_ble_eq_true rfl) (fun m' hm' => ?_)
      rw [show m' = m from hm']
      clear hm' m'
      refine w_if_ne (t := 35) (pc' := 32) rfl (by decide) rfl (fun h29 => ?_) (fun h29 => ?_)
      · obtain ⟨j11, hj11, rfl⟩ := q_is_of (bB_n0.mp h29) (by omega)
        refine w_aload_n (pc' := 36) rfl rfl rfl rfl ?_
        refine w_aload_n (pc' := 37) rfl rfl rfl rfl ?_
        refine w_getC (pc' := 40) rfl rfl rfl sh_153 rfl ?_
        refine w_cV1n (pc' := 43) (v_m_keep xs (c := 180) (by decide) sh_180) (by decide) rfl rfl rfl (Nat.le_of_ble_eq_true rfl) sh_153 rfl (fun m5 hm' => ?_)
        have K_5 : m5 = am_kp m 180 q_D := hm'
        have h_5 : q_Rm T m5 := by rw [K_5]; exact q_Rm_kp h
        have hF_5 : q_FB m5 m5 := q_FB.rf
        refine w_aload_n (pc' := 44) rfl rfl rfl rfl ?_
        refine w_iload_n (pc' := 45) rfl rfl rfl ?_
        refine w_cV1n (pc' := 48) (v_m_goesOn xs h_5 (n := j11) (h0 := 0) hY (by omega)) (by decide) rfl rfl rfl (Nat.le_of_ble_eq_true rfl) sh_153 rfl (fun m6 hm' => ?_)
        obtain ⟨h_6, hG_6⟩ := hm'
        have hF_6 := hF_5.tr hG_6
        have hI_6 := f_gn_inv (j11) (0) T hY (by omega)
        refine w_iload_n (pc' := 49) rfl rfl rfl ?_
        refine w_if_ne (t := 59) (pc' := 52) rfl (by decide) rfl (fun h49 => ?_) (fun h49 => ?_)
        · have g12 : ¬ (j10 + 10) = 0 := fun q => h49 ((nI_eq (a := (j10 + 10)) (b := 0) (by omega) (by omega)).mpr q)
          refine w_iload_n (pc' := 60) rfl rfl rfl ?_
          refine w_iconst (pc' := 61) 1 rfl rfl ic_1 ?_
          refine w_ic_ne (t := 71) (pc' := 64) rfl (by decide) rfl (fun h61 => ?_) (fun h61 => ?_)
          · have g13 : ¬ (j10 + 10) = 1 := fun q => h61 ((nI_eq (a := (j10 + 10)) (b := 1) (by omega) (by omega)).mpr q)
            refine w_aload_n (pc' := 72) rfl rfl rfl rfl ?_
            refine w_getC (pc' := 75) rfl rfl rfl sh_153 rfl ?_
            refine w_iload_n (pc' := 76) rfl rfl rfl ?_
            refine w_bipush (pc' := 78) 10 rfl rfl bp_10 ?_
            refine w_isub (pc' := 79) rfl rfl ?_
            rw [show nI ((j10 + 10)) - (10 : Int32) = nI ((j10 + 10) - 10) from nI_subN (a := (j10 + 10)) (b := 10) (by omega)]
            refine w_iald (j := (((j10 + 10) - 10))) (pc' := 80) rfl rfl sh_156 rfl (by omega) (by decide) ?_
            rw [show m6.1 156 ((j10 + 10) - 10) = nI ((f_gn (j11) T).1 156 (((j10 + 10) - 10))) from (rd_156 h_6 _ :)]
            have b14 : ((f_gn (j11) T).1 156 (((j10 + 10) - 10))) < 16 := hI_6.1.1 156 (((j10 + 10) - 10))
            refine w_ist3 (pc' := 81) rfl rfl rfl ?_
            refine w_aload_n (pc' := 82) rfl rfl rfl rfl ?_
            refine w_aload_n (pc' := 83) rfl rfl rfl rfl ?_
            refine w_getC (pc' := 86) rfl rfl rfl sh_153 rfl ?_
            refine w_cV1n (pc' := 89) (v_m_again xs (c := 180) (Or.inr rfl) sh_180) (by decide) rfl rfl rfl (Nat.le_of_ble_eq_true rfl) sh_153 rfl (fun m7 hm' => ?_)
            have R_7 : q_Rm T m7 ∧ q_FC m m7 := by rw [show m7 = am_ag m6 180 q_D from hm']; exact q_again h K_5 h_6 hF_6 (hI_6.2.1.Ag)
            have h_7 := R_7.1
            have hF_7 := hF.tr R_7.2
            refine w_iload_n (pc' := 90) rfl rfl rfl ?_
            refine w_iret rfl rfl rfl ?_
            have hf : f_on T (nI j11) (nI (j10 + 10)) = (nI (((f_gn (j11) T).1 156 (((j10 + 10) - 10)))), T) := by simp [f_on, hN9, ej10, q_is_nI (n := T.1 153 0) hj10 (by omega), nI_clamp (show j10 < 2 ^ 31 by omega), nI_clamp (show (j10 + 10) < 2 ^ 31 by omega), q_is_nI (n := 61) hj11 (by omega), nI_clamp (show j11 < 2 ^ 31 by omega), g12, g13]
            rw [hf]
            exact ⟨rfl, h_7, hF_7⟩
          · have g15 : (j10 + 10) = 1 := (nI_eq (a := (j10 + 10)) (b := 1) (by omega) (by omega)).mp h61
            omega
        · have g16 : (j10 + 10) = 0 := (nI_eq (a := (j10 + 10)) (b := 0) (by omega) (by omega)).mp h49
          omega
      · have hN17 := bB_0.mp h29
        refine w_bipush (pc' := 34) (-2) rfl rfl bp_m2 ?_
        refine w_iret rfl rfl rfl ?_
        have hf : f_on T n (nI (j10 + 10)) = (-2, T) := by simp [f_on, hN9, ej10, q_is_nI (n := T.1 153 0) hj10 (by omega), nI_clamp (show j10 < 2 ^ 31 by omega), nI_clamp (show (j10 + 10) < 2 ^ 31 by omega), hN17]
        rw [hf]
        exact ⟨rfl, h, hF⟩
    · have hN18 := bB_0.mp h17
      refine w_iconst (pc' := 21) (-1) rfl rfl ic_m1 ?_
      refine w_iret rfl rfl rfl ?_
      have hf : f_on T n u = (-1, T) := by simp [f_on, hN9, hN18]
      rw [hf]
      exact ⟨rfl, h, hF⟩
def f_bc1 (x : Int32) : Int32 := x - ((x.toUInt32 >>> ((1 : Int32).toUInt32 &&& Int32.toUInt32 31)).toInt32 &&& 1431655765)
def f_bc2 (x : Int32) : Int32 := (x &&& 858993459) + ((x.toUInt32 >>> ((2 : Int32).toUInt32 &&& Int32.toUInt32 31)).toInt32 &&& 858993459)
def f_bc3 (x : Int32) : Int32 := (x + (x.toUInt32 >>> ((4 : Int32).toUInt32 &&& Int32.toUInt32 31)).toInt32) &&& 252645135
def f_bc4 (x : Int32) : Int32 := x + (x.toUInt32 >>> ((8 : Int32).toUInt32 &&& Int32.toUInt32 31)).toInt32
def f_bc5 (x : Int32) : Int32 := x + (x.toUInt32 >>> ((16 : Int32).toUInt32 &&& Int32.toUInt32 31)).toInt32
def f_bc (x : Int32) : Int32 := f_bc5 (f_bc4 (f_bc3 (f_bc2 (f_bc1 x)))) &&& 63
set_option maxRecDepth 100000 in
set_option maxHeartbeats 4000000 in
theorem v_bitCount (xs : List Int32) (m : am_Mm) (x : Int32) : am_V xs 1 91 [.int x] m (am_qi (f_bc x) (· = m)) := by
  refine am_V_of ky_91 (Nat.le_of_ble_eq_true rfl) ?_
  show am_P xs 0 ji_bitCount 0 [some (.int x)] [] m _
  refine w_iload_n (pc' := 1) rfl rfl rfl ?_
  refine w_iload_n (pc' := 2) rfl rfl rfl ?_
  refine w_iconst (pc' := 3) 1 rfl rfl ic_1 ?_
  refine w_iushr (pc' := 4) rfl rfl ?_
  refine w_ldc_w (pc' := 7) rfl rfl rfl rfl ?_
  refine w_iand (pc' := 8) rfl rfl ?_
  refine w_isub (pc' := 9) rfl rfl ?_
  refine w_ist0 (pc' := 10) rfl rfl ?_
  refine w_iload_n (pc' := 11) rfl rfl rfl ?_
  refine w_ldc_w (pc' := 14) rfl rfl rfl rfl ?_
  refine w_iand (pc' := 15) rfl rfl ?_
  refine w_iload_n (pc' := 16) rfl rfl rfl ?_
  refine w_iconst (pc' := 17) 2 rfl rfl ic_2 ?_
  refine w_iushr (pc' := 18) rfl rfl ?_
  refine w_ldc_w (pc' := 21) rfl rfl rfl rfl ?_
  refine w_iand (pc' := 22) rfl rfl ?_
  refine w_iadd (pc' := 23) rfl rfl ?_
  refine w_ist0 (pc' := 24) rfl rfl ?_
  refine w_iload_n (pc' := 25) rfl rfl rfl ?_
  refine w_iload_n (pc' := 26) rfl rfl rfl ?_
  refine w_iconst (pc' := 27) 4 rfl rfl ic_4 ?_
  refine w_iushr (pc' := 28) rfl rfl ?_
  refine w_iadd (pc' := 29) rfl rfl ?_
  refine w_ldc_w (pc' := 32) rfl rfl rfl rfl ?_
  refine w_iand (pc' := 33) rfl rfl ?_
  refine w_ist0 (pc' := 34) rfl rfl ?_
  refine w_iload_n (pc' := 35) rfl rfl rfl ?_
  refine w_iload_n (pc' := 36) rfl rfl rfl ?_
  refine w_bipush (pc' := 38) 8 rfl rfl bp_8 ?_
  refine w_iushr (pc' := 39) rfl rfl ?_
  refine w_iadd (pc' := 40) rfl rfl ?_
  refine w_ist0 (pc' := 41) rfl rfl ?_
  refine w_iload_n (pc' := 42) rfl rfl rfl ?_
  refine w_iload_n (pc' := 43) rfl rfl rfl ?_
  refine w_bipush (pc' := 45) 16 rfl rfl bp_16 ?_
  refine w_iushr (pc' := 46) rfl rfl ?_
  refine w_iadd (pc' := 47) rfl rfl ?_
  refine w_ist0 (pc' := 48) rfl rfl ?_
  refine w_iload_n (pc' := 49) rfl rfl rfl ?_
  refine w_bipush (pc' := 51) 63 rfl rfl bp_63 ?_
  refine w_iand (pc' := 52) rfl rfl ?_
  refine w_iret rfl rfl rfl ?_
  exact ⟨rfl, rfl⟩
def f_db (n : Nat) (T : q_T) : Int32 := f_bc (nI ((f_gn n T).1 153 10))
set_option maxRecDepth 100000 in
set_option maxHeartbeats 4000000 in
theorem v_m_drawnBehind (xs : List Int32) {T : q_T} {m : am_Mm} (h : q_Rm T m) (hY : q_Y 0 T) {n : Nat} (hn : n < 100) : am_V xs 8 195 [.ref 153, .int (nI n)] m (am_qi (f_db n T) (q_G T m)) := by
  have hB := hY.1
  have hF : q_FC m m := q_FC.rf
  refine am_V_of ky_195 (Nat.le_of_ble_eq_true rfl) ?_
  show am_P xs 7 m_drawnBehind 0 [some (.ref 153), some (.int (nI n)), none] [] m _
  refine w_aload_n (pc' := 1) rfl rfl rfl rfl ?_
  refine w_aload_n (pc' := 2) rfl rfl rfl rfl ?_
  refine w_getC (pc' := 5) rfl rfl rfl sh_153 rfl ?_
  refine w_cV1n (pc' := 8) (v_m_keep xs (c := 180) (by decide) sh_180) (by decide) rfl rfl rfl (Nat.le_of_ble_eq_true rfl) sh_153 rfl (fun m1 hm' => ?_)
  have K_1 : m1 = am_kp m 180 q_D := hm'
  have h_1 : q_Rm T m1 := by rw [K_1]; exact q_Rm_kp h
  have hF_1 : q_FB m1 m1 := q_FB.rf
  refine w_aload_n (pc' := 9) rfl rfl rfl rfl ?_
  refine w_iload_n (pc' := 10) rfl rfl rfl ?_
  refine w_cV1n (pc' := 13) (v_m_goesOn xs h_1 (n := n) (h0 := 0) hY (by omega)) (by decide) rfl rfl rfl (Nat.le_of_ble_eq_true rfl) sh_153 rfl (fun m2 hm' => ?_)
  obtain ⟨h_2, hG_2⟩ := hm'
  have hF_2 := hF_1.tr hG_2
  have hI_2 := f_gn_inv (n) (0) T hY (by omega)
  refine w_aload_n (pc' := 14) rfl rfl rfl rfl ?_
  refine w_getI (pc' := 17) rfl rfl rfl sh_153 rfl ?_
  rw [show m2.1 153 10 = nI ((f_gn (n) T).1 153 (10)) from (rf_10 h_2 :)]
  have b1 : ((f_gn (n) T).1 153 (10)) < 65536 := hI_2.1.1 153 (10)
  refine w_cS1i (pc' := 20) (v_bitCount xs m2 _) (by decide) rfl rfl rfl (Or.inl rfl) (Nat.le_of_ble_eq_true rfl) (fun m' hm' => ?_)
  rw [show m' = m2 from hm']
  clear hm' m'
  refine w_ist2 (pc' := 21) rfl rfl rfl ?_
  refine w_aload_n (pc' := 22) rfl rfl rfl rfl ?_
  refine w_aload_n (pc' := 23) rfl rfl rfl rfl ?_
  refine w_getC (pc' := 26) rfl rfl rfl sh_153 rfl ?_
  refine w_cV1n (pc' := 29) (v_m_again xs (c := 180) (Or.inr rfl) sh_180) (by decide) rfl rfl rfl (Nat.le_of_ble_eq_true rfl) sh_153 rfl (fun m3 hm' => ?_)
  have R_3 : q_Rm T m3 ∧ q_FC m m3 := by rw [show m3 = am_ag m2 180 q_D from hm']; exact q_again h K_1 h_2 hF_2 (hI_2.2.1.Ag)
  have h_3 := R_3.1
  have hF_3 := hF.tr R_3.2
  refine w_iload_n (pc' := 30) rfl rfl rfl ?_
  refine w_iret rfl rfl rfl ?_
  exact ⟨rfl, h_3, hF_3⟩
theorem q_TT {T : q_T} {c k x y : Nat} : q_Tu (q_Tu T c k x) c k y = q_Tu T c k y := by
  refine Prod.ext ?_ rfl
  funext c' k'
  show (if c' = c ∧ k' = k then y else if c' = c ∧ k' = k then x else T.1 c' k') = if c' = c ∧ k' = k then y else T.1 c' k'
  split <;> rfl
theorem q_T1 {T : q_T} {c k x : Nat} (h : x = T.1 c k) : q_Tu T c k x = T := by
  subst h
  refine Prod.ext ?_ rfl
  funext c' k'
  show (if c' = c ∧ k' = k then T.1 c k else T.1 c' k') = T.1 c' k'
  split
  · rename_i e
    rw [e.1, e.2]
  · rfl
theorem q_Y.u {T : q_T} {h c k x : Nat} (hY : q_Y h T) (hx : x < q_B c k) (h1 : c ≠ 153) (h2 : c ≠ 159) : q_Y h (q_Tu T c k x) := by
  obtain ⟨hB, hO, hV, hr, hd⟩ := hY
  refine ⟨hB.u hx, ?_, hV, ?_, fun i => ?_⟩
  · unfold q_Bo
    rw [show (q_Tu T c k x).1 153 19 = T.1 153 19 from q_Tu_ne (fun q => h1 q.1.symm)]
    exact hO
  · rw [show (q_Tu T c k x).1 153 11 = T.1 153 11 from q_Tu_ne (fun q => h1 q.1.symm)]
    exact hr
  · rw [show (q_Tu T c k x).1 159 i = T.1 159 i from q_Tu_ne (fun q => h2 q.1.symm)]
    exact hd i
def lan (T : q_T) (p n : Nat) : Nat → Nat → Int32 → Nat → Nat
  | 0, _, _, f => f
  | r + 1, k, mo, f => if mo < f_db n (q_Tu T 156 p k) then lan T p n r (k + 1) (f_db n (q_Tu T 156 p k)) k else lan T p n r (k + 1) mo f
def f_lan (T : q_T) (p n : Nat) : Nat := lan T p n 16 0 (-1) 0
set_option maxRecDepth 100000 in
set_option maxHeartbeats 4000000 in
theorem lp_landing (xs : List Int32) {T : q_T} {m0 : am_Mm} (hY : q_Y 0 T) {p n : Nat} (hp : p < 6) (hn : n < 100) : ∀ (r k : Nat), k + r = 16 → ∀ (y f : Nat) (mo : Int32), y < 16 → f < 16 → ∀ (m : am_Mm), q_Rm (q_Tu T 156 p y) m → q_FC m0 m → ∀ (l7 : Option Value), am_P xs 9 m_landing 16 [some (.ref 153), some (.int (nI p)), some (.int (nI n)), some (.int (nI (T.1 156 p))), some (.int (nI f)), some (.int mo), some (.int (nI k)), l7] [] m (am_qi (nI (lan T p n r k mo f)) (q_G T m0)) := by
  intro r
  induction r with
  | zero =>
    intro k hk y f mo hy hf m h hF l7
    have b6 : T.1 156 p < 16 := hY.1 156 p
    refine w_iload (pc' := 18) rfl rfl rfl ?_
    refine w_bipush (pc' := 20) 16 rfl rfl bp_16 ?_
    refine w_ic_ge (t := 62) (pc' := 23) rfl (by decide) rfl (fun h20 => ?_) (fun h20 => ?_)
    · have g1 : 16 ≤ k := (nI_leI (a := 16) (b := k) (by omega) (by omega)).mp h20
      refine w_aload_n (pc' := 63) rfl rfl rfl rfl ?_
      refine w_getC (pc' := 66) rfl rfl rfl sh_153 rfl ?_
      refine w_iload_n (pc' := 67) rfl rfl rfl ?_
      refine w_iload_n (pc' := 68) rfl rfl rfl ?_
      refine w_iast (j := (p)) (pc' := 69) rfl rfl sh_156 rfl (by omega) (by decide) ?_
      refine w_gen (h.u (c := 156) (k := p) (x := (T.1 156 p)) rfl (y := _) (show _ = q_enc _ _ _ from rfl)) (hF.u (by decide)) (fun m1 h_1 hF_1 => ?_)
      refine w_iload (pc' := 71) rfl rfl rfl ?_
      refine w_iret rfl rfl rfl ?_
      refine ⟨rfl, ?_, hF_1⟩
      have e0 := h_1
      rw [q_TT, q_T1 rfl] at e0
      exact e0
    · have g2 : ¬ 16 ≤ k := fun q => h20 ((nI_leI (a := 16) (b := k) (by omega) (by omega)).mpr q)
      omega
  | succ r ih =>
    intro k hk y f mo hy hf m h hF l7
    have b6 : T.1 156 p < 16 := hY.1 156 p
    refine w_iload (pc' := 18) rfl rfl rfl ?_
    refine w_bipush (pc' := 20) 16 rfl rfl bp_16 ?_
    refine w_ic_ge (t := 62) (pc' := 23) rfl (by decide) rfl (fun h20 => ?_) (fun h20 => ?_)
    · have g1 : 16 ≤ k := (nI_leI (a := 16) (b := k) (by omega) (by omega)).mp h20
      omega
    · have g2 : ¬ 16 ≤ k := fun q => h20 ((nI_leI (a := 16) (b := k) (by omega) (by omega)).mpr q)
      refine w_aload_n (pc' := 24) rfl rfl rfl rfl ?_
      refine w_getC (pc' := 27) rfl rfl rfl sh_153 rfl ?_
      refine w_iload_n (pc' := 28) rfl rfl rfl ?_
      refine w_iload (pc' := 30) rfl rfl rfl ?_
      refine w_iast (j := (p)) (pc' := 31) rfl rfl sh_156 rfl (by omega) (by decide) ?_
      refine w_gen (h.u (c := 156) (k := p) (x := k) rfl (y := _) (show _ = q_enc _ _ _ from rfl)) (hF.u (by decide)) (fun m1 h_1 hF_1 => ?_)
      refine w_aload_n (pc' := 32) rfl rfl rfl rfl ?_
      refine w_iload_n (pc' := 33) rfl rfl rfl ?_
      refine w_cV1i (pc' := 36) (v_m_drawnBehind xs (T := q_Tu T 156 p k) (by rw [← q_TT (x := y)]; exact h_1) (hY.u (show _ < 16 by omega) (by decide) (by decide)) hn) (by decide) rfl rfl rfl (Nat.le_of_ble_eq_true rfl) sh_153 rfl (fun m2 hm' => ?_)
      obtain ⟨h_2, hG_2⟩ := hm'
      have hF_2 := hF_1.tr hG_2
      refine w_ist7 (pc' := 38) rfl rfl rfl ?_
      refine w_iload (pc' := 40) rfl rfl rfl ?_
      refine w_iload (pc' := 42) rfl rfl rfl ?_
      refine w_ic_gt (t := 48) (pc' := 45) rfl (by decide) rfl (fun h42 => ?_) (fun h42 => ?_)
      · have hgt : mo < f_db n (q_Tu T 156 p k) := h42
        refine w_iload (pc' := 50) rfl rfl rfl ?_
        refine w_ist5 (pc' := 52) rfl rfl rfl ?_
        refine w_iload (pc' := 54) rfl rfl rfl ?_
        refine w_ist4 (pc' := 56) rfl rfl rfl ?_
        refine w_iinc6 (pc' := 59) 1 rfl rfl ic_1 rfl ?_
        rw [nI_inc]
        refine w_goto (pc' := 16) rfl (by decide) ?_
        rw [show lan T p n (r + 1) k mo f = lan T p n r (k + 1) (f_db n (q_Tu T 156 p k)) k from if_pos hgt]
        exact ih (k + 1) (by omega) k _ _ (by omega) (by omega) _ h_2 hF_2 _
      · have hgt : ¬ mo < f_db n (q_Tu T 156 p k) := h42
        refine w_goto (pc' := 56) rfl (by decide) ?_
        refine w_iinc6 (pc' := 59) 1 rfl rfl ic_1 rfl ?_
        rw [nI_inc]
        refine w_goto (pc' := 16) rfl (by decide) ?_
        rw [show lan T p n (r + 1) k mo f = lan T p n r (k + 1) mo f from if_neg hgt]
        exact ih (k + 1) (by omega) k _ _ (by omega) (by omega) _ h_2 hF_2 _
set_option maxRecDepth 100000 in
set_option maxHeartbeats 4000000 in
theorem v_m_landing (xs : List Int32) {T : q_T} {m : am_Mm} (h : q_Rm T m) (hY : q_Y 0 T) {p n : Nat} (hp : p < 6) (hn : n < 100) : am_V xs 10 196 [.ref 153, .int (nI p), .int (nI n)] m (am_qi (nI (f_lan T p n)) (q_G T m)) := by
  have hB := hY.1
  refine am_V_of ky_196 (Nat.le_of_ble_eq_true rfl) ?_
  show am_P xs 9 m_landing 0 [some (.ref 153), some (.int (nI p)), some (.int (nI n)), none, none, none, none, none] [] m _
  refine w_aload_n (pc' := 1) rfl rfl rfl rfl ?_
  refine w_getC (pc' := 4) rfl rfl rfl sh_153 rfl ?_
  refine w_iload_n (pc' := 5) rfl rfl rfl ?_
  refine w_iald (j := (p)) (pc' := 6) rfl rfl sh_156 rfl (by omega) (by decide) ?_
  rw [show m.1 156 p = nI (T.1 156 (p)) from (rd_156 h _ :)]
  have b1 : (T.1 156 (p)) < 16 := hB 156 (p)
  refine w_ist3 (pc' := 7) rfl rfl rfl ?_
  refine w_iconst (pc' := 8) 0 rfl rfl ic_0 ?_
  refine w_ist4 (pc' := 10) rfl rfl rfl ?_
  refine w_iconst (pc' := 11) (-1) rfl rfl ic_m1 ?_
  refine w_ist5 (pc' := 13) rfl rfl rfl ?_
  refine w_iconst (pc' := 14) 0 rfl rfl ic_0 ?_
  refine w_ist6 (pc' := 16) rfl rfl rfl ?_
  exact lp_landing xs hY hp hn 16 0 (by omega) (T.1 156 p) 0 (-1) (hB 156 p) (by omega) m (by rw [q_T1 rfl]; exact h) q_FC.rf none
