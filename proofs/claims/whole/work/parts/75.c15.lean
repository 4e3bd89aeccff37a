theorem q_is_0_2 : q_is 0 2 = true := q_is_nI (j := 0) (n := 2) (by omega) (by omega)
theorem q_is_1_2 : q_is 1 2 = true := q_is_nI (j := 1) (n := 2) (by omega) (by omega)
theorem nI_s10 {j : Nat} : nI (j + 10) - 10 = nI j := by rw [← nI_add]; exact Int32.add_sub_cancel _ 10
set_option maxRecDepth 100000 in
set_option maxHeartbeats 4000000 in
theorem v_dbtS (xs : List Int32) {T : q_T} {m : am_Mm} (hC : q_Rc T m) (hI : q_I T) {p : Nat} (hp : p < T.1 153 0) : am_V xs 2 88 [.ref 0, .int (nI (p + 10))] m (am_qa (.ref (1 + 6 + 4 * p)) (· = m)) := by
  have hY := hI.1.1
  have hB := hY.1
  have hl6 := hI.1.2.1
  have hn0 : T.1 153 0 < 7 := hB 153 0
  refine am_V_of ky_88 (Nat.le_of_ble_eq_true rfl) ?_
  show am_P xs 1 k_drawerBehindTen 0 [some (.ref 0), some (.int (nI (p + 10)))] [] m _
  refine w_iload_n (pc' := 1) rfl rfl rfl ?_
  refine w_bipush (pc' := 3) 10 rfl rfl bp_10 ?_
  refine w_ic_lt (t := 20) (pc' := 6) rfl (by decide) rfl (fun h3 => ?_) (fun h3 => ?_)
  · have g1 : (p + 10) < 10 := (nI_ltI (a := (p + 10)) (b := 10) (by omega) (by omega)).mp h3
    omega
  · have g2 : ¬ (p + 10) < 10 := fun q => h3 ((nI_ltI (a := (p + 10)) (b := 10) (by omega) (by omega)).mpr q)
    refine w_aload_n (pc' := 7) rfl rfl rfl rfl ?_
    refine w_getC (pc' := 10) rfl rfl rfl sh_0 rfl ?_
    refine w_iload_n (pc' := 11) rfl rfl rfl ?_
    refine w_bipush (pc' := 13) 10 rfl rfl bp_10 ?_
    refine w_isub (pc' := 14) rfl rfl ?_
    rw [nI_s10]
    refine w_cV1a (pc' := 17) (v_la_drawerS xs q_L1 hC.1 hB (p := p) hp) (by decide) rfl rfl rfl (Nat.le_of_ble_eq_true rfl) (shL q_L1) rfl (fun m' hm' => ?_)
    rw [show m' = m from hm']
    clear hm' m'
    refine w_goto (pc' := 21) rfl (by decide) ?_
    refine w_aret rfl (by first | exact Or.inl ⟨_, rfl⟩ | exact Or.inr ⟨_, rfl⟩) rfl ?_
    exact ⟨rfl, rfl⟩
set_option maxRecDepth 100000 in
set_option maxHeartbeats 4000000 in
theorem v_dbtN (xs : List Int32) {T : q_T} {m : am_Mm} (hC : q_Rc T m) (hI : q_I T) {u : Int32} (hq : q_is (u - 10) (T.1 153 0) = false) : am_V xs 2 88 [.ref 0, .int u] m (am_qa .null (· = m)) := by
  have hY := hI.1.1
  have hB := hY.1
  have hl6 := hI.1.2.1
  have hn0 : T.1 153 0 < 7 := hB 153 0
  refine am_V_of ky_88 (Nat.le_of_ble_eq_true rfl) ?_
  show am_P xs 1 k_drawerBehindTen 0 [some (.ref 0), some (.int u)] [] m _
  refine w_iload_n (pc' := 1) rfl rfl rfl ?_
  refine w_bipush (pc' := 3) 10 rfl rfl bp_10 ?_
  refine w_ic_lt (t := 20) (pc' := 6) rfl (by decide) rfl (fun h3 => ?_) (fun h3 => ?_)
  · refine w_null (pc' := 21) rfl rfl ?_
    refine w_aret rfl (by first | exact Or.inl ⟨_, rfl⟩ | exact Or.inr ⟨_, rfl⟩) rfl ?_
    exact ⟨rfl, rfl⟩
  · refine w_aload_n (pc' := 7) rfl rfl rfl rfl ?_
    refine w_getC (pc' := 10) rfl rfl rfl sh_0 rfl ?_
    refine w_iload_n (pc' := 11) rfl rfl rfl ?_
    refine w_bipush (pc' := 13) 10 rfl rfl bp_10 ?_
    refine w_isub (pc' := 14) rfl rfl ?_
    skip
    refine w_cV1a (pc' := 17) (v_la_drawerN xs q_L1 hC.1 hB hq) (by decide) rfl rfl rfl (Nat.le_of_ble_eq_true rfl) (shL q_L1) rfl (fun m' hm' => ?_)
    rw [show m' = m from hm']
    clear hm' m'
    refine w_goto (pc' := 21) rfl (by decide) ?_
    refine w_aret rfl (by first | exact Or.inl ⟨_, rfl⟩ | exact Or.inr ⟨_, rfl⟩) rfl ?_
    exact ⟨rfl, rfl⟩
set_option maxRecDepth 100000 in
set_option maxHeartbeats 4000000 in
theorem v_k_on (xs : List Int32) {T : q_T} {m : am_Mm} (hC : q_Rc T m) (hI : q_I T) (n : Int32) (u : Int32) : am_V xs 11 87 [.ref 0, .int n, .int u] m (am_qi (f_on T n u).1 (q_Q (f_on T n u).2 m)) := by
  have hY := hI.1.1
  have hB := hY.1
  have hl6 := hI.1.2.1
  have hn0 : T.1 153 0 < 7 := hB 153 0
  have hF : q_Fl 61 m m := q_Fl.rf
  have hR1 := hC.1
  refine am_V_of ky_87 (Nat.le_of_ble_eq_true rfl) ?_
  show am_P xs 10 k_on 0 [some (.ref 0), some (.int n), some (.int u)] [] m _
  refine w_iload_n (pc' := 1) rfl rfl rfl ?_
  refine w_if_eq (t := 19) (pc' := 4) rfl (by decide) rfl (fun h1 => ?_) (fun h1 => ?_)
  · obtain rfl : u = nI 0 := h1
    refine w_iload_n (pc' := 20) rfl rfl rfl ?_
    refine w_if_lt (t := 29) (pc' := 23) rfl (by decide) rfl (fun h20 => ?_) (fun h20 => ?_)
    · have hnegn : n < 0 := h20
      refine w_bipush (pc' := 31) (-2) rfl rfl bp_m2 ?_
      refine w_iret rfl rfl rfl ?_
      have hf : f_on T n (nI 0) = (-2, T) := by simp [f_on, nI_0, q_is_0_2, q_is_nI (j := 0) (n := 2) (by omega) (by omega), nI_clamp (show 0 < 2 ^ 31 by omega), q_is_neg hnegn (n := 61) (by omega)]
      rw [hf]
      exact ⟨rfl, hC.Q hI (q_Fq.rf)⟩
    · obtain ⟨jn, hjn, rfl⟩ := nI_of (x := n) h20
      refine w_iload_n (pc' := 24) rfl rfl rfl ?_
      refine w_bipush (pc' := 26) 60 rfl rfl bp_60 ?_
      refine w_ic_le (t := 32) (pc' := 29) rfl (by decide) rfl (fun h26 => ?_) (fun h26 => ?_)
      · have g1 : jn ≤ 60 := (nI_leI (a := jn) (b := 60) (by omega) (by omega)).mp h26
        refine w_aload_n (pc' := 33) rfl rfl rfl rfl ?_
        refine w_getC (pc' := 36) rfl rfl rfl sh_0 rfl ?_
        refine w_aload_n (pc' := 37) rfl rfl rfl rfl ?_
        refine w_getC (pc' := 40) rfl rfl rfl sh_0 rfl ?_
        refine w_cV1n (pc' := 43) (v_la_copyFrom xs q_L1 q_L61 (Or.inl (by omega)) (hC.1.fl hF (Or.inl (by omega)) (by omega)) hB) (by decide) rfl rfl rfl (Nat.le_of_ble_eq_true rfl) (shL q_L61) rfl (fun m1 hm' => ?_)
        obtain ⟨hR_1, hF_1⟩ := hm'
        have hF_1 := hF.tr hF_1
        refine w_aload_n (pc' := 44) rfl rfl rfl rfl ?_
        refine w_getC (pc' := 47) rfl rfl rfl sh_0 rfl ?_
        refine w_iload_n (pc' := 48) rfl rfl rfl ?_
        refine w_cV1n (pc' := 51) (v_la_hoursGo xs q_L61 (n := jn) (h0 := 0) hR_1 hY (hC.2.1.fl2 hF_1 rfl (by omega) hl6) hl6 (by omega)) (by decide) rfl rfl rfl (Nat.le_of_ble_eq_true rfl) (shL q_L61) rfl (fun m2 hm' => ?_)
        obtain ⟨hR_2, hF_2⟩ := hm'
        have hF_2 := hF_1.tr hF_2
        have hG_2 := f_gn_inv (jn) 0 T hY (by omega)
        refine w_iload_n (pc' := 52) rfl rfl rfl ?_
        refine w_if_ne (t := 63) (pc' := 55) rfl (by decide) rfl (fun h52 => ?_) (fun h52 => ?_)
        · exact absurd h52 (by decide)
        · have g3 : 0 = 0 := (nI_eq (a := 0) (b := 0) (by omega) (by omega)).mp h52
          refine w_aload_n (pc' := 56) rfl rfl rfl rfl ?_
          refine w_getC (pc' := 59) rfl rfl rfl sh_0 rfl ?_
          refine w_getI (pc' := 62) rfl rfl rfl (shL q_L61) rfl ?_
          have b4 : (f_gn (jn) T).1 153 10 < 65536 := hG_2.1.1 153 (10)
          rw [show m2.1 61 1 = nI ((f_gn (jn) T).1 153 10) from hR_2.2.1]
          refine w_iret rfl rfl rfl ?_
          have hf : f_on T (nI jn) (nI 0) = (nI (((f_gn (jn) T).1 153 10)), T) := by simp [f_on, nI_0, q_is_0_2, q_is_nI (j := 0) (n := 2) (by omega) (by omega), nI_clamp (show 0 < 2 ^ 31 by omega), nI_clamp (show jn < 2 ^ 31 by omega), q_is_nI (n := 61) (j := jn) (by omega) (by omega), g1, Nat.not_lt.mpr g1, eq_true g3]
          rw [hf]
          exact ⟨rfl, hC.Q hI (hF_2.Fq)⟩
      · have g5 : ¬ jn ≤ 60 := fun q => h26 ((nI_leI (a := jn) (b := 60) (by omega) (by omega)).mpr q)
        refine w_bipush (pc' := 31) (-2) rfl rfl bp_m2 ?_
        refine w_iret rfl rfl rfl ?_
        have hf : f_on T (nI jn) (nI 0) = (-2, T) := by simp [f_on, nI_0, q_is_0_2, q_is_nI (j := 0) (n := 2) (by omega) (by omega), nI_clamp (show 0 < 2 ^ 31 by omega), nI_clamp (show jn < 2 ^ 31 by omega), q_is_big (n := 61) (j := jn) (by omega) (by omega), g5, Nat.lt_of_not_le g5]
        rw [hf]
        exact ⟨rfl, hC.Q hI (q_Fq.rf)⟩
  · have hnu0 : ¬ u = 0 := h1
    refine w_iload_n (pc' := 5) rfl rfl rfl ?_
    refine w_iconst (pc' := 6) 1 rfl rfl ic_1 ?_
    refine w_ic_eq (t := 19) (pc' := 9) rfl (by decide) rfl (fun h6 => ?_) (fun h6 => ?_)
    · obtain rfl : u = nI 1 := h6
      refine w_iload_n (pc' := 20) rfl rfl rfl ?_
      refine w_if_lt (t := 29) (pc' := 23) rfl (by decide) rfl (fun h20 => ?_) (fun h20 => ?_)
      · have hnegn : n < 0 := h20
        refine w_bipush (pc' := 31) (-2) rfl rfl bp_m2 ?_
        refine w_iret rfl rfl rfl ?_
        have hf : f_on T n (nI 1) = (-2, T) := by simp [f_on, hnu0, nI_one, q_is_1_2, q_is_nI (j := 1) (n := 2) (by omega) (by omega), nI_clamp (show 1 < 2 ^ 31 by omega), q_is_neg hnegn (n := 61) (by omega)]
        rw [hf]
        exact ⟨rfl, hC.Q hI (q_Fq.rf)⟩
      · obtain ⟨jn, hjn, rfl⟩ := nI_of (x := n) h20
        refine w_iload_n (pc' := 24) rfl rfl rfl ?_
        refine w_bipush (pc' := 26) 60 rfl rfl bp_60 ?_
        refine w_ic_le (t := 32) (pc' := 29) rfl (by decide) rfl (fun h26 => ?_) (fun h26 => ?_)
        · have g6 : jn ≤ 60 := (nI_leI (a := jn) (b := 60) (by omega) (by omega)).mp h26
          refine w_aload_n (pc' := 33) rfl rfl rfl rfl ?_
          refine w_getC (pc' := 36) rfl rfl rfl sh_0 rfl ?_
          refine w_aload_n (pc' := 37) rfl rfl rfl rfl ?_
          refine w_getC (pc' := 40) rfl rfl rfl sh_0 rfl ?_
          refine w_cV1n (pc' := 43) (v_la_copyFrom xs q_L1 q_L61 (Or.inl (by omega)) (hC.1.fl hF (Or.inl (by omega)) (by omega)) hB) (by decide) rfl rfl rfl (Nat.le_of_ble_eq_true rfl) (shL q_L61) rfl (fun m3 hm' => ?_)
          obtain ⟨hR_3, hF_3⟩ := hm'
          have hF_3 := hF.tr hF_3
          refine w_aload_n (pc' := 44) rfl rfl rfl rfl ?_
          refine w_getC (pc' := 47) rfl rfl rfl sh_0 rfl ?_
          refine w_iload_n (pc' := 48) rfl rfl rfl ?_
          refine w_cV1n (pc' := 51) (v_la_hoursGo xs q_L61 (n := jn) (h0 := 0) hR_3 hY (hC.2.1.fl2 hF_3 rfl (by omega) hl6) hl6 (by omega)) (by decide) rfl rfl rfl (Nat.le_of_ble_eq_true rfl) (shL q_L61) rfl (fun m4 hm' => ?_)
          obtain ⟨hR_4, hF_4⟩ := hm'
          have hF_4 := hF_3.tr hF_4
          have hG_4 := f_gn_inv (jn) 0 T hY (by omega)
          refine w_iload_n (pc' := 52) rfl rfl rfl ?_
          refine w_if_ne (t := 63) (pc' := 55) rfl (by decide) rfl (fun h52 => ?_) (fun h52 => ?_)
          · have g7 : ¬ 1 = 0 := fun q => h52 ((nI_eq (a := 1) (b := 0) (by omega) (by omega)).mpr q)
            refine w_iload_n (pc' := 64) rfl rfl rfl ?_
            refine w_iconst (pc' := 65) 1 rfl rfl ic_1 ?_
            refine w_ic_ne (t := 76) (pc' := 68) rfl (by decide) rfl (fun h65 => ?_) (fun h65 => ?_)
            · exact absurd h65 (by decide)
            · have g9 : 1 = 1 := (nI_eq (a := 1) (b := 1) (by omega) (by omega)).mp h65
              refine w_aload_n (pc' := 69) rfl rfl rfl rfl ?_
              refine w_getC (pc' := 72) rfl rfl rfl sh_0 rfl ?_
              refine w_cV0i (pc' := 75) (v_la_doneBits xs q_L61 hR_4 hG_4.1.1) (by decide) rfl rfl rfl (Nat.le_of_ble_eq_true rfl) (shL q_L61) rfl (fun m' hm' => ?_)
              rw [show m' = m4 from hm']
              clear hm' m'
              refine w_iret rfl rfl rfl ?_
              have hf : f_on T (nI jn) (nI 1) = ((f_ad (f_gn (jn) T)), T) := by simp [f_on, hnu0, nI_one, q_is_1_2, q_is_nI (j := 1) (n := 2) (by omega) (by omega), nI_clamp (show 1 < 2 ^ 31 by omega), nI_clamp (show jn < 2 ^ 31 by omega), q_is_nI (n := 61) (j := jn) (by omega) (by omega), g6, Nat.not_lt.mpr g6, g7, eq_true g9]
              rw [hf]
              exact ⟨rfl, hC.Q hI (hF_4.Fq)⟩
          · exact absurd h52 (by decide)
        · have g11 : ¬ jn ≤ 60 := fun q => h26 ((nI_leI (a := jn) (b := 60) (by omega) (by omega)).mpr q)
          refine w_bipush (pc' := 31) (-2) rfl rfl bp_m2 ?_
          refine w_iret rfl rfl rfl ?_
          have hf : f_on T (nI jn) (nI 1) = (-2, T) := by simp [f_on, hnu0, nI_one, q_is_1_2, q_is_nI (j := 1) (n := 2) (by omega) (by omega), nI_clamp (show 1 < 2 ^ 31 by omega), nI_clamp (show jn < 2 ^ 31 by omega), q_is_big (n := 61) (j := jn) (by omega) (by omega), g11, Nat.lt_of_not_le g11]
          rw [hf]
          exact ⟨rfl, hC.Q hI (q_Fq.rf)⟩
    · have hnu1 : ¬ u = 1 := h6
      rcases hqb : q_is (u - 10) (T.1 153 0) with _ | _
      · have hqu : q_is (u - 10) (T.1 153 0) = false := hqb
        refine w_aload_n (pc' := 10) rfl rfl rfl rfl ?_
        refine w_iload_n (pc' := 11) rfl rfl rfl ?_
        refine w_cV1a (pc' := 14) (v_dbtN xs hC hI hqu) (by decide) rfl rfl rfl (Nat.le_of_ble_eq_true rfl) sh_0 rfl (fun m' hm' => ?_)
        rw [show m' = m from hm']
        clear hm' m'
        refine w_ifnonnullN (pc' := 17) rfl rfl ?_
        refine w_iconst (pc' := 18) (-1) rfl rfl ic_m1 ?_
        refine w_iret rfl rfl rfl ?_
        have hf : f_on T n u = (-1, T) := by simp [f_on, hnu0, hnu1, q_is_2f hnu0 hnu1, hqu]
        rw [hf]
        exact ⟨rfl, hC.Q hI (q_Fq.rf)⟩
      · obtain ⟨ju, hju, eju⟩ := q_is_of hqb (by omega)
        obtain rfl := nI_10 eju
        refine w_aload_n (pc' := 10) rfl rfl rfl rfl ?_
        refine w_iload_n (pc' := 11) rfl rfl rfl ?_
        refine w_cV1a (pc' := 14) (v_dbtS xs hC hI (p := ju) (by omega)) (by decide) rfl rfl rfl (Nat.le_of_ble_eq_true rfl) sh_0 rfl (fun m' hm' => ?_)
        rw [show m' = m from hm']
        clear hm' m'
        refine w_ifnonnullR (pc' := 19) rfl (by decide) (by omega) ?_
        refine w_iload_n (pc' := 20) rfl rfl rfl ?_
        refine w_if_lt (t := 29) (pc' := 23) rfl (by decide) rfl (fun h20 => ?_) (fun h20 => ?_)
        · have hnegn : n < 0 := h20
          refine w_bipush (pc' := 31) (-2) rfl rfl bp_m2 ?_
          refine w_iret rfl rfl rfl ?_
          have hf : f_on T n (nI (ju + 10)) = (-2, T) := by simp [f_on, hnu0, hnu1, q_is_2f hnu0 hnu1, eju, q_is_nI (n := T.1 153 0) hju (by omega), nI_clamp (show (ju + 10) < 2 ^ 31 by omega), q_is_neg hnegn (n := 61) (by omega)]
          rw [hf]
          exact ⟨rfl, hC.Q hI (q_Fq.rf)⟩
        · obtain ⟨jn, hjn, rfl⟩ := nI_of (x := n) h20
          refine w_iload_n (pc' := 24) rfl rfl rfl ?_
          refine w_bipush (pc' := 26) 60 rfl rfl bp_60 ?_
          refine w_ic_le (t := 32) (pc' := 29) rfl (by decide) rfl (fun h26 => ?_) (fun h26 => ?_)
          · have g12 : jn ≤ 60 := (nI_leI (a := jn) (b := 60) (by omega) (by omega)).mp h26
            refine w_aload_n (pc' := 33) rfl rfl rfl rfl ?_
            refine w_getC (pc' := 36) rfl rfl rfl sh_0 rfl ?_
            refine w_aload_n (pc' := 37) rfl rfl rfl rfl ?_
            refine w_getC (pc' := 40) rfl rfl rfl sh_0 rfl ?_
            refine w_cV1n (pc' := 43) (v_la_copyFrom xs q_L1 q_L61 (Or.inl (by omega)) (hC.1.fl hF (Or.inl (by omega)) (by omega)) hB) (by decide) rfl rfl rfl (Nat.le_of_ble_eq_true rfl) (shL q_L61) rfl (fun m5 hm' => ?_)
            obtain ⟨hR_5, hF_5⟩ := hm'
            have hF_5 := hF.tr hF_5
            refine w_aload_n (pc' := 44) rfl rfl rfl rfl ?_
            refine w_getC (pc' := 47) rfl rfl rfl sh_0 rfl ?_
            refine w_iload_n (pc' := 48) rfl rfl rfl ?_
            refine w_cV1n (pc' := 51) (v_la_hoursGo xs q_L61 (n := jn) (h0 := 0) hR_5 hY (hC.2.1.fl2 hF_5 rfl (by omega) hl6) hl6 (by omega)) (by decide) rfl rfl rfl (Nat.le_of_ble_eq_true rfl) (shL q_L61) rfl (fun m6 hm' => ?_)
            obtain ⟨hR_6, hF_6⟩ := hm'
            have hF_6 := hF_5.tr hF_6
            have hG_6 := f_gn_inv (jn) 0 T hY (by omega)
            refine w_iload_n (pc' := 52) rfl rfl rfl ?_
            refine w_if_ne (t := 63) (pc' := 55) rfl (by decide) rfl (fun h52 => ?_) (fun h52 => ?_)
            · have g13 : ¬ (ju + 10) = 0 := fun q => h52 ((nI_eq (a := (ju + 10)) (b := 0) (by omega) (by omega)).mpr q)
              refine w_iload_n (pc' := 64) rfl rfl rfl ?_
              refine w_iconst (pc' := 65) 1 rfl rfl ic_1 ?_
              refine w_ic_ne (t := 76) (pc' := 68) rfl (by decide) rfl (fun h65 => ?_) (fun h65 => ?_)
              · have g14 : ¬ (ju + 10) = 1 := fun q => h65 ((nI_eq (a := (ju + 10)) (b := 1) (by omega) (by omega)).mpr q)
                refine w_aload_n (pc' := 77) rfl rfl rfl rfl ?_
                refine w_getC (pc' := 80) rfl rfl rfl sh_0 rfl ?_
                refine w_iload_n (pc' := 81) rfl rfl rfl ?_
                refine w_bipush (pc' := 83) 10 rfl rfl bp_10 ?_
                refine w_isub (pc' := 84) rfl rfl ?_
                rw [nI_s10]
                refine w_cV1i (pc' := 87) (v_la_whereIs xs q_L61 hR_6 hG_6.1.1 (p := ju) (by rw [f_gn_0 hY (by omega) (by omega) (by omega)]; exact hju)) (by decide) rfl rfl rfl (Nat.le_of_ble_eq_true rfl) (shL q_L61) rfl (fun m' hm' => ?_)
                rw [show m' = m6 from hm']
                clear hm' m'
                refine w_iret rfl rfl rfl ?_
                have hf : f_on T (nI jn) (nI (ju + 10)) = (nI (((f_gn (jn) T).1 156 ju)), T) := by simp [f_on, hnu0, hnu1, q_is_2f hnu0 hnu1, eju, q_is_nI (n := T.1 153 0) hju (by omega), nI_clamp (show (ju + 10) < 2 ^ 31 by omega), nI_clamp (show jn < 2 ^ 31 by omega), q_is_nI (n := 61) (j := jn) (by omega) (by omega), g12, Nat.not_lt.mpr g12, g13, g14]
                rw [hf]
                exact ⟨rfl, hC.Q hI (hF_6.Fq)⟩
              · have g15 : (ju + 10) = 1 := (nI_eq (a := (ju + 10)) (b := 1) (by omega) (by omega)).mp h65
                omega
            · have g16 : (ju + 10) = 0 := (nI_eq (a := (ju + 10)) (b := 0) (by omega) (by omega)).mp h52
              omega
          · have g17 : ¬ jn ≤ 60 := fun q => h26 ((nI_leI (a := jn) (b := 60) (by omega) (by omega)).mpr q)
            refine w_bipush (pc' := 31) (-2) rfl rfl bp_m2 ?_
            refine w_iret rfl rfl rfl ?_
            have hf : f_on T (nI jn) (nI (ju + 10)) = (-2, T) := by simp [f_on, hnu0, hnu1, q_is_2f hnu0 hnu1, eju, q_is_nI (n := T.1 153 0) hju (by omega), nI_clamp (show (ju + 10) < 2 ^ 31 by omega), nI_clamp (show jn < 2 ^ 31 by omega), q_is_big (n := 61) (j := jn) (by omega) (by omega), g17, Nat.lt_of_not_le g17]
            rw [hf]
            exact ⟨rfl, hC.Q hI (q_Fq.rf)⟩
theorem q_12_lo {n : Int32} (h : n < 1) : q_12 n = false := decide_eq_false (fun z => absurd (Int32.lt_of_le_of_lt z.1 h) (Int32.lt_irrefl))
theorem q_12_big {j : Nat} (h : 12 < j) (hj : j < 2 ^ 31) : q_12 (nI j) = false := decide_eq_false (fun z => by
  have := (nI_leI (a := j) (b := 12) hj (by omega)).mp z.2
  omega)
theorem nI_of1 {n : Int32} (h : ¬ n < 1) : ∃ j, 1 ≤ j ∧ j < 2 ^ 31 ∧ n = nI j := by
  obtain ⟨j, hj, rfl⟩ := nI_of (x := n) (fun q => h (Int32.lt_trans q (by decide)))
  exact ⟨j, (nI_leI (a := 1) (b := j) (by omega) hj).mp (Int32.not_lt.mp h), hj, rfl⟩
set_option maxRecDepth 100000 in
set_option maxHeartbeats 4000000 in
theorem v_k_best (xs : List Int32) {T : q_T} {m : am_Mm} (hC : q_Rc T m) (hI : q_I T) (n : Int32) (u : Int32) : am_V xs 12 89 [.ref 0, .int n, .int u] m (am_qi (f_best T n u).1 (q_Q (f_best T n u).2 m)) := by
  have hY := hI.1.1
  have hB := hY.1
  have hl6 := hI.1.2.1
  have hn0 : T.1 153 0 < 7 := hB 153 0
  have hF : q_Fl 61 m m := q_Fl.rf
  have hR1 := hC.1
  refine am_V_of ky_89 (Nat.le_of_ble_eq_true rfl) ?_
  show am_P xs 11 k_best 0 [some (.ref 0), some (.int n), some (.int u)] [] m _
  refine w_iload_n (pc' := 1) rfl rfl rfl ?_
  refine w_if_eq (t := 14) (pc' := 4) rfl (by decide) rfl (fun h1 => ?_) (fun h1 => ?_)
  · obtain rfl : u = nI 0 := h1
    refine w_iload_n (pc' := 15) rfl rfl rfl ?_
    refine w_iconst (pc' := 16) 1 rfl rfl ic_1 ?_
    refine w_ic_lt (t := 25) (pc' := 19) rfl (by decide) rfl (fun h16 => ?_) (fun h16 => ?_)
    · have hn1 : n < 1 := h16
      refine w_bipush (pc' := 27) (-2) rfl rfl bp_m2 ?_
      refine w_iret rfl rfl rfl ?_
      have hf : f_best T n (nI 0) = (-2, T) := by simp [f_best, nI_0, q_is_0_2, q_is_nI (j := 0) (n := 2) (by omega) (by omega), nI_clamp (show 0 < 2 ^ 31 by omega), q_12_lo hn1]
      rw [hf]
      exact ⟨rfl, hC.Q hI (q_Fq.rf)⟩
    · obtain ⟨jn, hjn1, hjn, rfl⟩ := nI_of1 h16
      refine w_iload_n (pc' := 20) rfl rfl rfl ?_
      refine w_bipush (pc' := 22) 12 rfl rfl bp_12 ?_
      refine w_ic_le (t := 28) (pc' := 25) rfl (by decide) rfl (fun h22 => ?_) (fun h22 => ?_)
      · have g1 : jn ≤ 12 := (nI_leI (a := jn) (b := 12) (by omega) (by omega)).mp h22
        refine w_iload_n (pc' := 29) rfl rfl rfl ?_
        refine w_if_ne (t := 40) (pc' := 32) rfl (by decide) rfl (fun h29 => ?_) (fun h29 => ?_)
        · exact absurd h29 (by decide)
        · have g3 : 0 = 0 := (nI_eq (a := 0) (b := 0) (by omega) (by omega)).mp h29
          refine w_aload_n (pc' := 33) rfl rfl rfl rfl ?_
          refine w_iload_n (pc' := 34) rfl rfl rfl ?_
          refine w_cV1i (pc' := 37) (v_kcrew xs hC hI (n := jn) (by omega)) (by decide) rfl rfl rfl (Nat.le_of_ble_eq_true rfl) sh_0 rfl (fun m1 hm' => ?_)
          have hF_1 := hm'
          refine w_goto (pc' := 49) rfl (by decide) ?_
          refine w_iret rfl rfl rfl ?_
          have hf : f_best T (nI jn) (nI 0) = ((f_crew T jn), T) := by simp [f_best, nI_0, q_is_0_2, q_is_nI (j := 0) (n := 2) (by omega) (by omega), nI_clamp (show 0 < 2 ^ 31 by omega), nI_clamp (show jn < 2 ^ 31 by omega), q_12_nI (j := jn) (by omega) (by omega), g1, Nat.not_lt.mpr g1, eq_true g3]
          rw [hf]
          exact ⟨rfl, hC.Q hI (hF_1.Fq)⟩
      · have g4 : ¬ jn ≤ 12 := fun q => h22 ((nI_leI (a := jn) (b := 12) (by omega) (by omega)).mpr q)
        refine w_bipush (pc' := 27) (-2) rfl rfl bp_m2 ?_
        refine w_iret rfl rfl rfl ?_
        have hf : f_best T (nI jn) (nI 0) = (-2, T) := by simp [f_best, nI_0, q_is_0_2, q_is_nI (j := 0) (n := 2) (by omega) (by omega), nI_clamp (show 0 < 2 ^ 31 by omega), nI_clamp (show jn < 2 ^ 31 by omega), q_12_big (j := jn) (by omega) (by omega), g4, Nat.lt_of_not_le g4]
        rw [hf]
        exact ⟨rfl, hC.Q hI (q_Fq.rf)⟩
  · have hnu0 : ¬ u = 0 := h1
    rcases hqb : q_is (u - 10) (T.1 153 0) with _ | _
    · have hqu : q_is (u - 10) (T.1 153 0) = false := hqb
      refine w_aload_n (pc' := 5) rfl rfl rfl rfl ?_
      refine w_iload_n (pc' := 6) rfl rfl rfl ?_
      refine w_cV1a (pc' := 9) (v_dbtN xs hC hI hqu) (by decide) rfl rfl rfl (Nat.le_of_ble_eq_true rfl) sh_0 rfl (fun m' hm' => ?_)
      rw [show m' = m from hm']
      clear hm' m'
      refine w_ifnonnullN (pc' := 12) rfl rfl ?_
      refine w_iconst (pc' := 13) (-1) rfl rfl ic_m1 ?_
      refine w_iret rfl rfl rfl ?_
      have hf : f_best T n u = (-1, T) := by simp [f_best, hnu0, hqu]
      rw [hf]
      exact ⟨rfl, hC.Q hI (q_Fq.rf)⟩
    · obtain ⟨ju, hju, eju⟩ := q_is_of hqb (by omega)
      obtain rfl := nI_10 eju
      refine w_aload_n (pc' := 5) rfl rfl rfl rfl ?_
      refine w_iload_n (pc' := 6) rfl rfl rfl ?_
      refine w_cV1a (pc' := 9) (v_dbtS xs hC hI (p := ju) (by omega)) (by decide) rfl rfl rfl (Nat.le_of_ble_eq_true rfl) sh_0 rfl (fun m' hm' => ?_)
      rw [show m' = m from hm']
      clear hm' m'
      refine w_ifnonnullR (pc' := 14) rfl (by decide) (by omega) ?_
      refine w_iload_n (pc' := 15) rfl rfl rfl ?_
      refine w_iconst (pc' := 16) 1 rfl rfl ic_1 ?_
      refine w_ic_lt (t := 25) (pc' := 19) rfl (by decide) rfl (fun h16 => ?_) (fun h16 => ?_)
      · have hn1 : n < 1 := h16
        refine w_bipush (pc' := 27) (-2) rfl rfl bp_m2 ?_
        refine w_iret rfl rfl rfl ?_
        have hf : f_best T n (nI (ju + 10)) = (-2, T) := by simp [f_best, hnu0, eju, q_is_nI (n := T.1 153 0) hju (by omega), nI_clamp (show (ju + 10) < 2 ^ 31 by omega), q_12_lo hn1]
        rw [hf]
        exact ⟨rfl, hC.Q hI (q_Fq.rf)⟩
      · obtain ⟨jn, hjn1, hjn, rfl⟩ := nI_of1 h16
        refine w_iload_n (pc' := 20) rfl rfl rfl ?_
        refine w_bipush (pc' := 22) 12 rfl rfl bp_12 ?_
        refine w_ic_le (t := 28) (pc' := 25) rfl (by decide) rfl (fun h22 => ?_) (fun h22 => ?_)
        · have g5 : jn ≤ 12 := (nI_leI (a := jn) (b := 12) (by omega) (by omega)).mp h22
          refine w_iload_n (pc' := 29) rfl rfl rfl ?_
          refine w_if_ne (t := 40) (pc' := 32) rfl (by decide) rfl (fun h29 => ?_) (fun h29 => ?_)
          · have g6 : ¬ (ju + 10) = 0 := fun q => h29 ((nI_eq (a := (ju + 10)) (b := 0) (by omega) (by omega)).mpr q)
            refine w_aload_n (pc' := 41) rfl rfl rfl rfl ?_
            refine w_iload_n (pc' := 42) rfl rfl rfl ?_
            refine w_bipush (pc' := 44) 10 rfl rfl bp_10 ?_
            refine w_isub (pc' := 45) rfl rfl ?_
            rw [nI_s10]
            refine w_iload_n (pc' := 46) rfl rfl rfl ?_
            refine w_cV2i (pc' := 49) (v_klanding xs hC hI (p := ju) (n := jn) (by omega) (by omega)) (by decide) rfl rfl rfl (Nat.le_of_ble_eq_true rfl) sh_0 rfl (fun m2 hm' => ?_)
            have hF_2 := hm'
            refine w_iret rfl rfl rfl ?_
            have hf : f_best T (nI jn) (nI (ju + 10)) = (nI ((f_lan T ju jn)), T) := by simp [f_best, hnu0, eju, q_is_nI (n := T.1 153 0) hju (by omega), nI_clamp (show (ju + 10) < 2 ^ 31 by omega), nI_clamp (show jn < 2 ^ 31 by omega), q_12_nI (j := jn) (by omega) (by omega), g5, Nat.not_lt.mpr g5, g6]
            rw [hf]
            exact ⟨rfl, hC.Q hI (hF_2.Fq)⟩
          · have g7 : (ju + 10) = 0 := (nI_eq (a := (ju + 10)) (b := 0) (by omega) (by omega)).mp h29
            omega
        · have g8 : ¬ jn ≤ 12 := fun q => h22 ((nI_leI (a := jn) (b := 12) (by omega) (by omega)).mpr q)
          refine w_bipush (pc' := 27) (-2) rfl rfl bp_m2 ?_
          refine w_iret rfl rfl rfl ?_
          have hf : f_best T (nI jn) (nI (ju + 10)) = (-2, T) := by simp [f_best, hnu0, eju, q_is_nI (n := T.1 153 0) hju (by omega), nI_clamp (show (ju + 10) < 2 ^ 31 by omega), nI_clamp (show jn < 2 ^ 31 by omega), q_12_big (j := jn) (by omega) (by omega), g8, Nat.lt_of_not_le g8]
          rw [hf]
          exact ⟨rfl, hC.Q hI (q_Fq.rf)⟩
set_option maxRecDepth 100000 in
set_option maxHeartbeats 4000000 in
theorem lp_kgcd (xs : List Int32) {m : am_Mm} {a b : Nat} : ∀ (N : Nat) (y x i : Nat), y < N → y + i < 200 → x < 2 ^ 31 → Nat.gcd x y = Nat.gcd a b → ∀ (l9 l10 : Option Value), am_P xs 0 k_greatestDivisor 9 [some (.long (lN a)), none, some (.long (lN b)), none, some (.long (lN x)), none, some (.long (lN y)), none, some (.int (nI i)), l9, l10] [] m (am_qj (lN (Nat.gcd a b)) (· = m)) := by
  intro N
  induction N with
  | zero => intro y x i hN; omega
  | succ N ih =>
    intro y x i hN hi hx hg l9 l10
    refine w_iload (pc' := 11) rfl rfl rfl ?_
    refine w_sipush (pc' := 14) 200 rfl rfl sp_200 ?_
    refine w_ic_ge (t := 45) (pc' := 17) rfl (by decide) rfl (fun h14 => ?_) (fun h14 => ?_)
    · have g1 : 200 ≤ i := (nI_leI (a := 200) (b := i) (by omega) (by omega)).mp h14
      omega
    · have g2 : ¬ 200 ≤ i := fun q => h14 ((nI_leI (a := 200) (b := i) (by omega) (by omega)).mpr q)
      refine w_lload (pc' := 19) rfl rfl rfl ?_
      refine w_lconst (pc' := 20) 0 rfl rfl rfl ?_
      refine w_lcmp (pc' := 21) rfl rfl ?_
      refine w_if_eq (t := 45) (pc' := 24) rfl (by decide) rfl (fun h21 => ?_) (fun h21 => ?_)
      · have y0 : y = 0 := (lN_eq (a := y) (b := 0) (by omega) (by omega)).mp ((lg_cmp_eq _ _).mp h21)
        refine w_lload (pc' := 47) rfl rfl rfl ?_
        refine w_lret rfl rfl ?_
        rw [← hg, y0, Nat.gcd_zero_right]
        exact ⟨rfl, rfl⟩
      · have y0 : ¬ y = 0 := fun z => h21 ((lg_cmp_eq _ _).mpr ((lN_eq (a := y) (b := 0) (by omega) (by omega)).mpr z))
        refine w_lload (pc' := 26) rfl rfl rfl ?_
        refine w_lload (pc' := 28) rfl rfl rfl ?_
        refine w_lrem (pc' := 29) rfl rfl (fun z => y0 ((lN_eq (a := y) (b := 0) (by omega) (by omega)).mp z)) ?_
        rw [lN_remI hx (by omega) (by omega)]
        refine w_lst9 (pc' := 31) rfl rfl rfl ?_
        refine w_lload (pc' := 33) rfl rfl rfl ?_
        refine w_lst4 (pc' := 35) rfl rfl rfl ?_
        refine w_lload (pc' := 37) rfl rfl rfl ?_
        refine w_lst6 (pc' := 39) rfl rfl rfl ?_
        refine w_iinc8 (pc' := 42) 1 rfl rfl ic_1 rfl ?_
        rw [nI_inc]
        refine w_goto (pc' := 9) rfl (by decide) ?_
        have hr := Nat.mod_lt x (show y > 0 by omega)
        exact ih (x % y) y (i + 1) (by omega) (by omega) (by omega) ((gcd_step x y).trans hg) _ _
set_option maxRecDepth 100000 in
set_option maxHeartbeats 4000000 in
theorem v_kgcd (xs : List Int32) (m : am_Mm) {a b : Nat} (ha : a < 2 ^ 31) (hb : b < 200) : am_V xs 1 103 [.long (lN a), .long (lN b)] m (am_qj (lN (Nat.gcd a b)) (· = m)) := by
  refine am_V_of ky_103 (Nat.le_of_ble_eq_true rfl) ?_
  show am_P xs 0 k_greatestDivisor 0 [some (.long (lN a)), none, some (.long (lN b)), none, none, none, none, none, none, none, none] [] m _
  refine w_lload_n (pc' := 1) rfl rfl rfl ?_
  refine w_lst4 (pc' := 3) rfl rfl rfl ?_
  refine w_lload_n (pc' := 4) rfl rfl rfl ?_
  refine w_lst6 (pc' := 6) rfl rfl rfl ?_
  refine w_iconst (pc' := 7) 0 rfl rfl ic_0 ?_
  refine w_ist8 (pc' := 9) rfl rfl rfl ?_
  exact lp_kgcd xs (b + 1) b a 0 (by omega) (by omega) ha rfl none none
set_option maxRecDepth 100000 in
set_option maxHeartbeats 4000000 in
theorem v_kpart (xs : List Int32) (m : am_Mm) {a b u : Nat} (ha : a < 2 ^ 31) (hb : b < 200) (hq : u < 2) (hb0 : 0 < b) : am_V xs 2 102 [.long (lN a), .long (lN b), .int (nI u)] m (am_qj (f_part a b u) (· = m)) := by
  have hg0 : 0 < Nat.gcd a b := Nat.gcd_pos_of_pos_right a hb0
  have hg31 : Nat.gcd a b < 2 ^ 31 := by have := Nat.gcd_le_right a hb0; omega
  refine am_V_of ky_102 (Nat.le_of_ble_eq_true rfl) ?_
  show am_P xs 1 k_partOfFraction 0 [some (.long (lN a)), none, some (.long (lN b)), none, some (.int (nI u)), none, none] [] m _
  refine w_lload_n (pc' := 1) rfl rfl rfl ?_
  refine w_lload_n (pc' := 2) rfl rfl rfl ?_
  refine w_cS2j (pc' := 5) (v_kgcd xs m (a := a) (b := b) ha hb) (by decide) rfl rfl rfl (Or.inl rfl) (Nat.le_of_ble_eq_true rfl) (fun m' hm' => ?_)
  rw [show m' = m from hm']
  clear hm' m'
  refine w_lst5 (pc' := 7) rfl rfl rfl ?_
  refine w_lload (pc' := 9) rfl rfl rfl ?_
  refine w_lconst (pc' := 10) 0 rfl rfl rfl ?_
  refine w_lcmp (pc' := 11) rfl rfl ?_
  refine w_if_gt (t := 18) (pc' := 14) rfl (by decide) rfl (fun h11 => ?_) (fun h11 => ?_)
  · refine w_iload (pc' := 20) rfl rfl rfl ?_
    refine w_if_ne (t := 30) (pc' := 23) rfl (by decide) rfl (fun h20 => ?_) (fun h20 => ?_)
    · have g1 : ¬ u = 0 := fun q => h20 ((nI_eq (a := u) (b := 0) (by omega) (by omega)).mpr q)
      refine w_lload_n (pc' := 31) rfl rfl rfl ?_
      refine w_lload (pc' := 33) rfl rfl rfl ?_
      refine w_ldiv (pc' := 34) rfl rfl (fun z => absurd ((lN_eq (a := Nat.gcd a b) (b := 0) hg31 (by omega)).mp z) (by omega)) ?_
      rw [lN_divI (by omega) (by omega) hg31]
      refine w_lret rfl rfl ?_
      rw [show f_part a b u = lN (b / Nat.gcd a b) by unfold f_part; rw [if_neg (by omega)]]
      exact ⟨rfl, rfl⟩
    · have g2 : u = 0 := (nI_eq (a := u) (b := 0) (by omega) (by omega)).mp h20
      refine w_lload_n (pc' := 24) rfl rfl rfl ?_
      refine w_lload (pc' := 26) rfl rfl rfl ?_
      refine w_ldiv (pc' := 27) rfl rfl (fun z => absurd ((lN_eq (a := Nat.gcd a b) (b := 0) hg31 (by omega)).mp z) (by omega)) ?_
      rw [lN_divI ha (by omega) hg31]
      refine w_goto (pc' := 34) rfl (by decide) ?_
      refine w_lret rfl rfl ?_
      rw [show f_part a b u = lN (a / Nat.gcd a b) by unfold f_part; rw [if_pos (by omega)]]
      exact ⟨rfl, rfl⟩
  · exact absurd ((lg_cmp_gt _ _).mpr (Int64.not_le.mp (fun z => absurd ((lN_le (a := Nat.gcd a b) (b := 0) hg31 (by omega)).mp z) (by omega)))) h11
set_option maxRecDepth 100000 in
set_option maxHeartbeats 4000000 in
theorem lp_kodds (xs : List Int32) {T : q_T} {m0 : am_Mm} (hC : q_Rc T m0) (hI : q_I T) {p n u : Nat} (hp : p < T.1 153 0) (hn : n < 100) (hu : u < 2) : ∀ (r k : Nat), k + r = 16 → ∀ (c : Nat) (m : am_Mm), c ≤ k → q_Fl 61 m0 m → am_P xs 10 k_odds 40 [some (.ref 0), some (.int (nI p)), some (.int (nI n)), some (.int (nI u)), some (.int (nI c)), some (.int (nI k))] [] m (am_qj (f_part (odo T p n r k c) 16 u) (fun m' => q_Fl 61 m0 m')) := by
  intro r
  induction r with
  | zero =>
    intro k hk c m hc hF
    have hF0 := hF
    have hY := hI.1.1
    have hB := hY.1
    have hl6 := hI.1.2.1
    have hn0 : T.1 153 0 < 7 := hB 153 0
    refine w_iload (pc' := 42) rfl rfl rfl ?_
    refine w_bipush (pc' := 44) 16 rfl rfl bp_16 ?_
    refine w_ic_ge (t := 84) (pc' := 47) rfl (by decide) rfl (fun h44 => ?_) (fun h44 => ?_)
    · have g1 : 16 ≤ k := (nI_leI (a := 16) (b := k) (by omega) (by omega)).mp h44
      refine w_iload (pc' := 86) rfl rfl rfl ?_
      refine w_i2l (pc' := 87) rfl rfl ?_
      rw [nI_l (n := c) (by omega)]
      refine w_ldc2_w (pc' := 90) rfl rfl rfl rfl ?_
      refine w_iload_n (pc' := 91) rfl rfl rfl ?_
      refine w_cS3j (pc' := 94) (v_kpart xs m (a := c) (b := 16) (u := u) (by omega) (by omega) (by omega) (by omega)) (by decide) rfl rfl rfl (Or.inl rfl) (Nat.le_of_ble_eq_true rfl) (fun m' hm' => ?_)
      rw [show m' = m from hm']
      clear hm' m'
      refine w_lret rfl rfl ?_
      exact ⟨rfl, hF⟩
    · have g2 : ¬ 16 ≤ k := fun q => h44 ((nI_leI (a := 16) (b := k) (by omega) (by omega)).mpr q)
      omega
  | succ r ih =>
    intro k hk c m hc hF
    have hF0 := hF
    have hY := hI.1.1
    have hB := hY.1
    have hl6 := hI.1.2.1
    have hn0 : T.1 153 0 < 7 := hB 153 0
    refine w_iload (pc' := 42) rfl rfl rfl ?_
    refine w_bipush (pc' := 44) 16 rfl rfl bp_16 ?_
    refine w_ic_ge (t := 84) (pc' := 47) rfl (by decide) rfl (fun h44 => ?_) (fun h44 => ?_)
    · have g1 : 16 ≤ k := (nI_leI (a := 16) (b := k) (by omega) (by omega)).mp h44
      omega
    · have g2 : ¬ 16 ≤ k := fun q => h44 ((nI_leI (a := 16) (b := k) (by omega) (by omega)).mpr q)
      refine w_aload_n (pc' := 48) rfl rfl rfl rfl ?_
      refine w_iload_n (pc' := 49) rfl rfl rfl ?_
      refine w_iload (pc' := 51) rfl rfl rfl ?_
      refine w_cV2n (pc' := 54) (v_tryAt xs hC hI hF (p := p) (x := k) (by omega) (by omega)) (by decide) rfl rfl rfl (Nat.le_of_ble_eq_true rfl) sh_0 rfl (fun m1 hm' => ?_)
      obtain ⟨hR_1, hF_1⟩ := hm'
      refine w_aload_n (pc' := 55) rfl rfl rfl rfl ?_
      refine w_getC (pc' := 58) rfl rfl rfl sh_0 rfl ?_
      refine w_iload_n (pc' := 59) rfl rfl rfl ?_
      refine w_cV1n (pc' := 62) (v_la_hoursGo xs q_L61 (n := n) (h0 := 0) hR_1 (hY.u (c := 156) (k := p) (x := k) (show _ < 16 by omega) (by decide) (by decide)) (hC.2.1.fl2 hF_1 rfl (by omega) hl6) hl6 (by omega)) (by decide) rfl rfl rfl (Nat.le_of_ble_eq_true rfl) (shL q_L61) rfl (fun m2 hm' => ?_)
      obtain ⟨hR_2, hF_2⟩ := hm'
      have hF_2 := hF_1.tr hF_2
      have hG_2 := f_gn_inv (n) 0 (q_Tu T 156 p k) (hY.u (c := 156) (k := p) (x := k) (show _ < 16 by omega) (by decide) (by decide)) (by omega)
      refine w_iload (pc' := 64) rfl rfl rfl ?_
      refine w_aload_n (pc' := 65) rfl rfl rfl rfl ?_
      refine w_getC (pc' := 68) rfl rfl rfl sh_0 rfl ?_
      refine w_cV0i (pc' := 71) (v_la_doneBits xs q_L61 hR_2 hG_2.1.1) (by decide) rfl rfl rfl (Nat.le_of_ble_eq_true rfl) (shL q_L61) rfl (fun m' hm' => ?_)
      rw [show m' = m2 from hm']
      clear hm' m'
      refine w_iload_n (pc' := 72) rfl rfl rfl ?_
      refine w_ishr (pc' := 73) rfl rfl ?_
      refine w_iconst (pc' := 74) 1 rfl rfl ic_1 ?_
      refine w_iand (pc' := 75) rfl rfl ?_
      rw [show (f_ad (f_gn n (q_Tu T 156 p k)) >>> (nI p &&& 31)) &&& 1 = nI ((f_gn n (q_Tu T 156 p k)).1 158 p) from f_ad_bit hG_2.1.1 (by rw [f_gn_0 (hY.u (c := 156) (k := p) (x := k) (show _ < 16 by omega) (by decide) (by decide)) hn (by omega) (by omega)]; exact hp)]
      have hd2 : (f_gn n (q_Tu T 156 p k)).1 158 p < 2 := hG_2.1.1 158 p
      refine w_iadd (pc' := 76) rfl rfl ?_
      rw [show nI (c) + nI (((f_gn n (q_Tu T 156 p k)).1 158 p)) = nI (c + ((f_gn n (q_Tu T 156 p k)).1 158 p)) from nI_add _ _]
      refine w_ist4 (pc' := 78) rfl rfl rfl ?_
      refine w_iinc5 (pc' := 81) 1 rfl rfl ic_1 rfl ?_
      rw [nI_inc]
      refine w_goto (pc' := 40) rfl (by decide) ?_
      exact ih (k + 1) (by omega) _ _ (by omega) hF_2
set_option maxRecDepth 100000 in
set_option maxHeartbeats 4000000 in
theorem v_k_odds (xs : List Int32) {T : q_T} {m : am_Mm} (hC : q_Rc T m) (hI : q_I T) (d : Int32) (n : Int32) (u : Int32) : am_V xs 11 101 [.ref 0, .int d, .int n, .int u] m (am_qj (f_odds T d n u).1 (q_Q (f_odds T d n u).2 m)) := by
  have hY := hI.1.1
  have hB := hY.1
  have hl6 := hI.1.2.1
  have hn0 : T.1 153 0 < 7 := hB 153 0
  have hF : q_Fl 61 m m := q_Fl.rf
  have hR1 := hC.1
  refine am_V_of ky_101 (Nat.le_of_ble_eq_true rfl) ?_
  show am_P xs 10 k_odds 0 [some (.ref 0), some (.int d), some (.int n), some (.int u), none, none] [] m _
  rcases hqb : q_is d (T.1 153 0) with _ | _
  · have hqd : q_is d (T.1 153 0) = false := hqb
    refine w_aload_n (pc' := 1) rfl rfl rfl rfl ?_
    refine w_getC (pc' := 4) rfl rfl rfl sh_0 rfl ?_
    refine w_iload_n (pc' := 5) rfl rfl rfl ?_
    refine w_cV1a (pc' := 8) (v_la_drawerN xs q_L1 hR1 hB hqd) (by decide) rfl rfl rfl (Nat.le_of_ble_eq_true rfl) (shL q_L1) rfl (fun m' hm' => ?_)
    rw [show m' = m from hm']
    clear hm' m'
    refine w_ifnullN (pc' := 30) rfl (by decide) ?_
    refine w_ldc2_w (pc' := 33) rfl rfl rfl rfl ?_
    refine w_lret rfl rfl ?_
    have hf : f_odds T d n u = (-9223372036854775808, T) := by simp [f_odds, hqd]
    rw [hf]
    exact ⟨rfl, hC.Q hI (q_Fq.rf)⟩
  · obtain ⟨jd, hjd, rfl⟩ := q_is_of hqb (by omega)
    refine w_aload_n (pc' := 1) rfl rfl rfl rfl ?_
    refine w_getC (pc' := 4) rfl rfl rfl sh_0 rfl ?_
    refine w_iload_n (pc' := 5) rfl rfl rfl ?_
    refine w_cV1a (pc' := 8) (v_la_drawerS xs q_L1 hR1 hB (p := jd) (by omega)) (by decide) rfl rfl rfl (Nat.le_of_ble_eq_true rfl) (shL q_L1) rfl (fun m' hm' => ?_)
    rw [show m' = m from hm']
    clear hm' m'
    refine w_ifnullR (pc' := 11) rfl rfl (by omega) ?_
    refine w_iload_n (pc' := 12) rfl rfl rfl ?_
    refine w_if_lt (t := 30) (pc' := 15) rfl (by decide) rfl (fun h12 => ?_) (fun h12 => ?_)
    · have hnegn : n < 0 := h12
      refine w_ldc2_w (pc' := 33) rfl rfl rfl rfl ?_
      refine w_lret rfl rfl ?_
      have hf : f_odds T (nI jd) n u = (-9223372036854775808, T) := by simp [f_odds, q_is_nI (n := T.1 153 0) hjd (by omega), nI_clamp (show jd < 2 ^ 31 by omega), q_is_neg hnegn (n := 21) (by omega)]
      rw [hf]
      exact ⟨rfl, hC.Q hI (q_Fq.rf)⟩
    · obtain ⟨jn, hjn, rfl⟩ := nI_of (x := n) h12
      refine w_iload_n (pc' := 16) rfl rfl rfl ?_
      refine w_bipush (pc' := 18) 20 rfl rfl bp_20 ?_
      refine w_ic_gt (t := 30) (pc' := 21) rfl (by decide) rfl (fun h18 => ?_) (fun h18 => ?_)
      · have g1 : 20 < jn := (nI_ltI (a := 20) (b := jn) (by omega) (by omega)).mp h18
        refine w_ldc2_w (pc' := 33) rfl rfl rfl rfl ?_
        refine w_lret rfl rfl ?_
        have hf : f_odds T (nI jd) (nI jn) u = (-9223372036854775808, T) := by simp [f_odds, q_is_nI (n := T.1 153 0) hjd (by omega), nI_clamp (show jd < 2 ^ 31 by omega), nI_clamp (show jn < 2 ^ 31 by omega), q_is_big (n := 21) (j := jn) (by omega) (by omega), g1]
        rw [hf]
        exact ⟨rfl, hC.Q hI (q_Fq.rf)⟩
      · have g2 : ¬ 20 < jn := fun q => h18 ((nI_ltI (a := 20) (b := jn) (by omega) (by omega)).mpr q)
        refine w_iload_n (pc' := 22) rfl rfl rfl ?_
        refine w_if_eq (t := 34) (pc' := 25) rfl (by decide) rfl (fun h22 => ?_) (fun h22 => ?_)
        · obtain rfl : u = nI 0 := h22
          refine w_iconst (pc' := 35) 0 rfl rfl ic_0 ?_
          refine w_ist4 (pc' := 37) rfl rfl rfl ?_
          refine w_iconst (pc' := 38) 0 rfl rfl ic_0 ?_
          refine w_ist5 (pc' := 40) rfl rfl rfl ?_
          have hf : f_odds T (nI jd) (nI jn) (nI 0) = (f_part (odo T jd jn 16 0 0) 16 0, T) := by simp [f_odds, q_is_nI (n := T.1 153 0) hjd (by omega), nI_clamp (show jd < 2 ^ 31 by omega), nI_clamp (show jn < 2 ^ 31 by omega), q_is_nI (n := 21) (j := jn) (by omega) (by omega), g2, nI_0, q_is_0_2, q_is_nI (j := 0) (n := 2) (by omega) (by omega), nI_clamp (show 0 < 2 ^ 31 by omega)]
          rw [hf]
          exact (lp_kodds xs hC hI (p := jd) (n := jn) (u := 0) (by omega) (by omega) (by omega) 16 0 (by omega) 0 m (by omega) q_Fl.rf).mono (fun v m2 h2 => ⟨h2.1, hC.Q hI h2.2.Fq⟩)
        · have hnu0 : ¬ u = 0 := h22
          refine w_iload_n (pc' := 26) rfl rfl rfl ?_
          refine w_iconst (pc' := 27) 1 rfl rfl ic_1 ?_
          refine w_ic_eq (t := 34) (pc' := 30) rfl (by decide) rfl (fun h27 => ?_) (fun h27 => ?_)
          · obtain rfl : u = nI 1 := h27
            refine w_iconst (pc' := 35) 0 rfl rfl ic_0 ?_
            refine w_ist4 (pc' := 37) rfl rfl rfl ?_
            refine w_iconst (pc' := 38) 0 rfl rfl ic_0 ?_
            refine w_ist5 (pc' := 40) rfl rfl rfl ?_
            have hf : f_odds T (nI jd) (nI jn) (nI 1) = (f_part (odo T jd jn 16 0 0) 16 1, T) := by simp [f_odds, q_is_nI (n := T.1 153 0) hjd (by omega), nI_clamp (show jd < 2 ^ 31 by omega), nI_clamp (show jn < 2 ^ 31 by omega), q_is_nI (n := 21) (j := jn) (by omega) (by omega), g2, hnu0, nI_one, q_is_1_2, q_is_nI (j := 1) (n := 2) (by omega) (by omega), nI_clamp (show 1 < 2 ^ 31 by omega)]
            rw [hf]
            exact (lp_kodds xs hC hI (p := jd) (n := jn) (u := 1) (by omega) (by omega) (by omega) 16 0 (by omega) 0 m (by omega) q_Fl.rf).mono (fun v m2 h2 => ⟨h2.1, hC.Q hI h2.2.Fq⟩)
          · have hnu1 : ¬ u = 1 := h27
            refine w_ldc2_w (pc' := 33) rfl rfl rfl rfl ?_
            refine w_lret rfl rfl ?_
            have hf : f_odds T (nI jd) (nI jn) u = (-9223372036854775808, T) := by simp [f_odds, q_is_nI (n := T.1 153 0) hjd (by omega), nI_clamp (show jd < 2 ^ 31 by omega), nI_clamp (show jn < 2 ^ 31 by omega), q_is_nI (n := 21) (j := jn) (by omega) (by omega), g2, hnu0, hnu1, q_is_2f hnu0 hnu1]
            rw [hf]
            exact ⟨rfl, hC.Q hI (q_Fq.rf)⟩
set_option maxRecDepth 100000 in
set_option maxHeartbeats 4000000 in
theorem v_k_mean (xs : List Int32) {T : q_T} {m : am_Mm} (hC : q_Rc T m) (hI : q_I T) (n : Int32) (u : Int32) : am_V xs 11 104 [.ref 0, .int n, .int u] m (am_qj (f_mean T n u).1 (q_Q (f_mean T n u).2 m)) := by
  have hY := hI.1.1
  have hB := hY.1
  have hl6 := hI.1.2.1
  have hn0 : T.1 153 0 < 7 := hB 153 0
  have hF : q_Fl 61 m m := q_Fl.rf
  have hR1 := hC.1
  refine am_V_of ky_104 (Nat.le_of_ble_eq_true rfl) ?_
  show am_P xs 10 k_mean 0 [some (.ref 0), some (.int n), some (.int u)] [] m _
  refine w_aload_n (pc' := 1) rfl rfl rfl rfl ?_
  refine w_getC (pc' := 4) rfl rfl rfl sh_0 rfl ?_
  refine w_getI (pc' := 7) rfl rfl rfl (shL q_L1) rfl ?_
  rw [show m.1 1 5 = nI (T.1 153 0) from (congrFun (hF.lt (by omega)) 5).trans hC.1.1]
  refine w_if_le (t := 29) (pc' := 10) rfl (by decide) rfl (fun h7 => ?_) (fun h7 => ?_)
  · have hz0 : T.1 153 0 = 0 := by have := (nI_leI (a := T.1 153 0) (b := 0) (by omega) (by omega)).mp h7; omega
    refine w_ldc2_w (pc' := 32) rfl rfl rfl rfl ?_
    refine w_lret rfl rfl ?_
    have hf : f_mean T n u = (-9223372036854775808, T) := by simp [f_mean, hz0]
    rw [hf]
    exact ⟨rfl, hC.Q hI (q_Fq.rf)⟩
  · have hz0 : ¬ T.1 153 0 = 0 := fun z => by rw [z] at h7; exact h7 (by decide)
    refine w_iload_n (pc' := 11) rfl rfl rfl ?_
    refine w_if_lt (t := 29) (pc' := 14) rfl (by decide) rfl (fun h11 => ?_) (fun h11 => ?_)
    · have hnegn : n < 0 := h11
      refine w_ldc2_w (pc' := 32) rfl rfl rfl rfl ?_
      refine w_lret rfl rfl ?_
      have hf : f_mean T n u = (-9223372036854775808, T) := by simp [f_mean, hz0, q_is_neg hnegn (n := 61) (by omega)]
      rw [hf]
      exact ⟨rfl, hC.Q hI (q_Fq.rf)⟩
    · obtain ⟨jn, hjn, rfl⟩ := nI_of (x := n) h11
      refine w_iload_n (pc' := 15) rfl rfl rfl ?_
      refine w_bipush (pc' := 17) 60 rfl rfl bp_60 ?_
      refine w_ic_gt (t := 29) (pc' := 20) rfl (by decide) rfl (fun h17 => ?_) (fun h17 => ?_)
      · have g1 : 60 < jn := (nI_ltI (a := 60) (b := jn) (by omega) (by omega)).mp h17
        refine w_ldc2_w (pc' := 32) rfl rfl rfl rfl ?_
        refine w_lret rfl rfl ?_
        have hf : f_mean T (nI jn) u = (-9223372036854775808, T) := by simp [f_mean, hz0, nI_clamp (show jn < 2 ^ 31 by omega), q_is_big (n := 61) (j := jn) (by omega) (by omega), g1]
        rw [hf]
        exact ⟨rfl, hC.Q hI (q_Fq.rf)⟩
      · have g2 : ¬ 60 < jn := fun q => h17 ((nI_ltI (a := 60) (b := jn) (by omega) (by omega)).mpr q)
        refine w_iload_n (pc' := 21) rfl rfl rfl ?_
        refine w_if_eq (t := 33) (pc' := 24) rfl (by decide) rfl (fun h21 => ?_) (fun h21 => ?_)
        · obtain rfl : u = nI 0 := h21
          refine w_aload_n (pc' := 34) rfl rfl rfl rfl ?_
          refine w_getC (pc' := 37) rfl rfl rfl sh_0 rfl ?_
          refine w_aload_n (pc' := 38) rfl rfl rfl rfl ?_
          refine w_getC (pc' := 41) rfl rfl rfl sh_0 rfl ?_
          refine w_cV1n (pc' := 44) (v_la_copyFrom xs q_L1 q_L61 (Or.inl (by omega)) (hC.1.fl hF (Or.inl (by omega)) (by omega)) hB) (by decide) rfl rfl rfl (Nat.le_of_ble_eq_true rfl) (shL q_L61) rfl (fun m1 hm' => ?_)
          obtain ⟨hR_1, hF_1⟩ := hm'
          have hF_1 := hF.tr hF_1
          refine w_aload_n (pc' := 45) rfl rfl rfl rfl ?_
          refine w_getC (pc' := 48) rfl rfl rfl sh_0 rfl ?_
          refine w_iload_n (pc' := 49) rfl rfl rfl ?_
          refine w_cV1n (pc' := 52) (v_la_hoursGo xs q_L61 (n := jn) (h0 := 0) hR_1 hY (hC.2.1.fl2 hF_1 rfl (by omega) hl6) hl6 (by omega)) (by decide) rfl rfl rfl (Nat.le_of_ble_eq_true rfl) (shL q_L61) rfl (fun m2 hm' => ?_)
          obtain ⟨hR_2, hF_2⟩ := hm'
          have hF_2 := hF_1.tr hF_2
          have hG_2 := f_gn_inv (jn) 0 T hY (by omega)
          refine w_aload_n (pc' := 53) rfl rfl rfl rfl ?_
          refine w_getC (pc' := 56) rfl rfl rfl sh_0 rfl ?_
          refine w_cV0i (pc' := 59) (v_la_drewOfAll xs q_L61 hR_2 hG_2.1.1) (by decide) rfl rfl rfl (Nat.le_of_ble_eq_true rfl) (shL q_L61) rfl (fun m' hm' => ?_)
          rw [show m' = m2 from hm']
          clear hm' m'
          have hod := odr_le (T := (f_gn (jn) T)) (fun i => by have := hG_2.1.2.2.2.2 i; omega) ((f_gn (jn) T).1 153 0) 0
          have hn7 : (f_gn (jn) T).1 153 0 < 7 := hG_2.1.1 153 0
          have hodd : f_od (f_gn (jn) T) < 2 ^ 31 := by unfold f_od; omega
          refine w_i2l (pc' := 60) rfl rfl ?_
          rw [nI_l hodd]
          refine w_aload_n (pc' := 61) rfl rfl rfl rfl ?_
          refine w_getC (pc' := 64) rfl rfl rfl sh_0 rfl ?_
          refine w_getI (pc' := 67) rfl rfl rfl (shL q_L1) rfl ?_
          rw [show m2.1 1 5 = nI (T.1 153 0) from (congrFun (hF_2.lt (by omega)) 5).trans hC.1.1]
          refine w_i2l (pc' := 68) rfl rfl ?_
          rw [nI_l (n := T.1 153 0) (by omega)]
          refine w_iload_n (pc' := 69) rfl rfl rfl ?_
          refine w_cS3j (pc' := 72) (v_kpart xs m2 (a := f_od (f_gn (jn) T)) (b := T.1 153 0) (u := 0) (by omega) (by omega) (by omega) (by omega)) (by decide) rfl rfl rfl (Or.inl rfl) (Nat.le_of_ble_eq_true rfl) (fun m' hm' => ?_)
          rw [show m' = m2 from hm']
          clear hm' m'
          refine w_lret rfl rfl ?_
          have hf : f_mean T (nI jn) (nI 0) = (f_part (f_od (f_gn (jn) T)) (T.1 153 0) 0, T) := by simp [f_mean, hz0, nI_clamp (show jn < 2 ^ 31 by omega), q_is_nI (n := 61) (j := jn) (by omega) (by omega), g2, nI_0, q_is_0_2, q_is_nI (j := 0) (n := 2) (by omega) (by omega), nI_clamp (show 0 < 2 ^ 31 by omega)]
          rw [hf]
          exact ⟨rfl, hC.Q hI (hF_2.Fq)⟩
        · have hnu0 : ¬ u = 0 := h21
          refine w_iload_n (pc' := 25) rfl rfl rfl ?_
          refine w_iconst (pc' := 26) 1 rfl rfl ic_1 ?_
          refine w_ic_eq (t := 33) (pc' := 29) rfl (by decide) rfl (fun h26 => ?_) (fun h26 => ?_)
          · obtain rfl : u = nI 1 := h26
            refine w_aload_n (pc' := 34) rfl rfl rfl rfl ?_
            refine w_getC (pc' := 37) rfl rfl rfl sh_0 rfl ?_
            refine w_aload_n (pc' := 38) rfl rfl rfl rfl ?_
            refine w_getC (pc' := 41) rfl rfl rfl sh_0 rfl ?_
            refine w_cV1n (pc' := 44) (v_la_copyFrom xs q_L1 q_L61 (Or.inl (by omega)) (hC.1.fl hF (Or.inl (by omega)) (by omega)) hB) (by decide) rfl rfl rfl (Nat.le_of_ble_eq_true rfl) (shL q_L61) rfl (fun m3 hm' => ?_)
            obtain ⟨hR_3, hF_3⟩ := hm'
            have hF_3 := hF.tr hF_3
            refine w_aload_n (pc' := 45) rfl rfl rfl rfl ?_
            refine w_getC (pc' := 48) rfl rfl rfl sh_0 rfl ?_
            refine w_iload_n (pc' := 49) rfl rfl rfl ?_
            refine w_cV1n (pc' := 52) (v_la_hoursGo xs q_L61 (n := jn) (h0 := 0) hR_3 hY (hC.2.1.fl2 hF_3 rfl (by omega) hl6) hl6 (by omega)) (by decide) rfl rfl rfl (Nat.le_of_ble_eq_true rfl) (shL q_L61) rfl (fun m4 hm' => ?_)
            obtain ⟨hR_4, hF_4⟩ := hm'
            have hF_4 := hF_3.tr hF_4
            have hG_4 := f_gn_inv (jn) 0 T hY (by omega)
            refine w_aload_n (pc' := 53) rfl rfl rfl rfl ?_
            refine w_getC (pc' := 56) rfl rfl rfl sh_0 rfl ?_
            refine w_cV0i (pc' := 59) (v_la_drewOfAll xs q_L61 hR_4 hG_4.1.1) (by decide) rfl rfl rfl (Nat.le_of_ble_eq_true rfl) (shL q_L61) rfl (fun m' hm' => ?_)
            rw [show m' = m4 from hm']
            clear hm' m'
            have hod := odr_le (T := (f_gn (jn) T)) (fun i => by have := hG_4.1.2.2.2.2 i; omega) ((f_gn (jn) T).1 153 0) 0
            have hn7 : (f_gn (jn) T).1 153 0 < 7 := hG_4.1.1 153 0
            have hodd : f_od (f_gn (jn) T) < 2 ^ 31 := by unfold f_od; omega
            refine w_i2l (pc' := 60) rfl rfl ?_
            rw [nI_l hodd]
            refine w_aload_n (pc' := 61) rfl rfl rfl rfl ?_
            refine w_getC (pc' := 64) rfl rfl rfl sh_0 rfl ?_
            refine w_getI (pc' := 67) rfl rfl rfl (shL q_L1) rfl ?_
            rw [show m4.1 1 5 = nI (T.1 153 0) from (congrFun (hF_4.lt (by omega)) 5).trans hC.1.1]
            refine w_i2l (pc' := 68) rfl rfl ?_
            rw [nI_l (n := T.1 153 0) (by omega)]
            refine w_iload_n (pc' := 69) rfl rfl rfl ?_
            refine w_cS3j (pc' := 72) (v_kpart xs m4 (a := f_od (f_gn (jn) T)) (b := T.1 153 0) (u := 1) (by omega) (by omega) (by omega) (by omega)) (by decide) rfl rfl rfl (Or.inl rfl) (Nat.le_of_ble_eq_true rfl) (fun m' hm' => ?_)
            rw [show m' = m4 from hm']
            clear hm' m'
            refine w_lret rfl rfl ?_
            have hf : f_mean T (nI jn) (nI 1) = (f_part (f_od (f_gn (jn) T)) (T.1 153 0) 1, T) := by simp [f_mean, hz0, nI_clamp (show jn < 2 ^ 31 by omega), q_is_nI (n := 61) (j := jn) (by omega) (by omega), g2, hnu0, nI_one, q_is_1_2, q_is_nI (j := 1) (n := 2) (by omega) (by omega), nI_clamp (show 1 < 2 ^ 31 by omega)]
            rw [hf]
            exact ⟨rfl, hC.Q hI (hF_4.Fq)⟩
          · have hnu1 : ¬ u = 1 := h26
            refine w_ldc2_w (pc' := 32) rfl rfl rfl rfl ?_
            refine w_lret rfl rfl ?_
            have hf : f_mean T (nI jn) u = (-9223372036854775808, T) := by simp [f_mean, hz0, nI_clamp (show jn < 2 ^ 31 by omega), q_is_nI (n := 61) (j := jn) (by omega) (by omega), g2, hnu0, hnu1, q_is_2f hnu0 hnu1]
            rw [hf]
            exact ⟨rfl, hC.Q hI (q_Fq.rf)⟩
