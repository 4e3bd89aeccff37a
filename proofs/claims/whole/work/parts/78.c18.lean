set_option maxRecDepth 100000 in
set_option maxHeartbeats 4000000 in
theorem v_k_put (xs : List Int32) {T : q_T} {m : am_Mm} (hC : q_Rc T m) (hI : q_I T) (d : Int32) (c : Int32) : am_V xs 3 50 [.ref 0, .int d, .int c] m (am_qi (f_put T d c).1 (q_Q (f_put T d c).2 m)) := by
  have hY := hI.1.1
  have hB := hY.1
  have hl6 := hI.1.2.1
  have hn0 : T.1 153 0 < 7 := hB 153 0
  have hF : q_Fl 1 m m := q_Fl.rf
  have hR1 := hC.1
  refine am_V_of ky_50 (Nat.le_of_ble_eq_true rfl) ?_
  show am_P xs 2 k_put 0 [some (.ref 0), some (.int d), some (.int c), none, none] [] m _
  rcases hqb : q_is d (T.1 153 0) with _ | _
  · have hqd : q_is d (T.1 153 0) = false := hqb
    refine w_aload_n (pc' := 1) rfl rfl rfl rfl ?_
    refine w_getC (pc' := 4) rfl rfl rfl sh_0 rfl ?_
    refine w_iload_n (pc' := 5) rfl rfl rfl ?_
    refine w_cV1a (pc' := 8) (v_la_drawerN xs q_L1 hR1 hB hqd) (by decide) rfl rfl rfl (Nat.le_of_ble_eq_true rfl) (shL q_L1) rfl (fun m' hm' => ?_)
    rw [show m' = m from hm']
    clear hm' m'
    refine w_ast3 (pc' := 9) rfl rfl rfl rfl ?_
    refine w_aload_n (pc' := 10) rfl rfl rfl rfl ?_
    refine w_ifnullN (pc' := 20) rfl (by decide) ?_
    refine w_iconst (pc' := 21) (-1) rfl rfl ic_m1 ?_
    refine w_iret rfl rfl rfl ?_
    have hf : f_put T d c = (-1, T) := by simp [f_put, hqd]
    rw [hf]
    exact ⟨rfl, hC.Q hI (q_Fq.rf)⟩
  · obtain ⟨jd, hjd, rfl⟩ := q_is_of hqb (by omega)
    refine w_aload_n (pc' := 1) rfl rfl rfl rfl ?_
    refine w_getC (pc' := 4) rfl rfl rfl sh_0 rfl ?_
    refine w_iload_n (pc' := 5) rfl rfl rfl ?_
    refine w_cV1a (pc' := 8) (v_la_drawerS xs q_L1 hR1 hB (p := jd) (by omega)) (by decide) rfl rfl rfl (Nat.le_of_ble_eq_true rfl) (shL q_L1) rfl (fun m' hm' => ?_)
    rw [show m' = m from hm']
    clear hm' m'
    refine w_ast3 (pc' := 9) rfl rfl rfl rfl ?_
    refine w_aload_n (pc' := 10) rfl rfl rfl rfl ?_
    refine w_ifnullR (pc' := 13) rfl rfl (by omega) ?_
    refine w_iload_n (pc' := 14) rfl rfl rfl ?_
    refine w_cS1i (pc' := 17) (v_k_isCell xs m c) (by decide) rfl rfl rfl (Or.inl rfl) (Nat.le_of_ble_eq_true rfl) (fun m' hm' => ?_)
    rw [show m' = m from hm']
    clear hm' m'
    refine w_if_ne (t := 22) (pc' := 20) rfl (by decide) rfl (fun h17 => ?_) (fun h17 => ?_)
    · obtain ⟨j1, hj1, rfl⟩ := q_is_of (bB_n0.mp h17) (by omega)
      refine w_aload_n (pc' := 23) rfl rfl rfl rfl ?_
      refine w_getI (pc' := 26) rfl rfl rfl (shD q_L1 (p := jd) (by omega)) rfl ?_
      have b2 : T.1 156 jd < 16 := hB 156 (jd)
      rw [show m.1 (1 + 6 + 4 * jd) 3 = nI (T.1 156 jd) from (hR1.2.2.2.2.2 jd (by omega)).2.2.1]
      refine w_ist4 (pc' := 28) rfl rfl rfl ?_
      refine w_aload_n (pc' := 29) rfl rfl rfl rfl ?_
      refine w_iload_n (pc' := 30) rfl rfl rfl ?_
      refine w_putI (pc' := 33) rfl rfl rfl (shD q_L1 (p := jd) (by omega)) rfl rfl rfl ?_
      refine w_any (fun q => q_Rl 1 (q_Tu T 156 (jd) (j1)) q ∧ q_Fl 1 m q) ⟨hR1.d (p := jd) (x := j1) (by omega) (by omega) (by omega), hF.u (by omega)⟩ (fun m1 hm1 => ?_)
      obtain ⟨hR_1, hF_1⟩ := hm1
      have hnn1 : (q_Tu T 156 (jd) (j1)).1 153 0 = T.1 153 0 := q_Tu_ne (by omega)
      refine w_iload (pc' := 35) rfl rfl rfl ?_
      refine w_iret rfl rfl rfl ?_
      have hf : f_put T (nI jd) (nI j1) = (nI ((T.1 156 jd)), (q_Tu T 156 (jd) (j1))) := by simp [f_put, q_is_nI (n := T.1 153 0) hjd (by omega), nI_clamp (show jd < 2 ^ 31 by omega), q_is_nI (n := 16) hj1 (by omega), nI_clamp (show j1 < 2 ^ 31 by omega)]
      rw [hf]
      exact ⟨rfl, hC.l1 hI hR_1 hF_1 ((q_Ag.rf.u (by rw [q_pi_156 (k := jd) (by omega)]; omega))) (fun c k hc => q_Tu_ne (by omega)), hF_1.FM (by omega)⟩
    · have hN3 := bB_0.mp h17
      refine w_iconst (pc' := 21) (-1) rfl rfl ic_m1 ?_
      refine w_iret rfl rfl rfl ?_
      have hf : f_put T (nI jd) c = (-1, T) := by simp [f_put, q_is_nI (n := T.1 153 0) hjd (by omega), nI_clamp (show jd < 2 ^ 31 by omega), hN3]
      rw [hf]
      exact ⟨rfl, hC.Q hI (q_Fq.rf)⟩
set_option maxRecDepth 100000 in
set_option maxHeartbeats 4000000 in
theorem v_k_anew (xs : List Int32) {T : q_T} {m : am_Mm} (hC : q_Rc T m) (hI : q_I T) (d : Int32) : am_V xs 3 51 [.ref 0, .int d] m (am_qi (f_anew T d).1 (q_Q (f_anew T d).2 m)) := by
  have hY := hI.1.1
  have hB := hY.1
  have hl6 := hI.1.2.1
  have hn0 : T.1 153 0 < 7 := hB 153 0
  have hF : q_Fl 1 m m := q_Fl.rf
  have hR1 := hC.1
  refine am_V_of ky_51 (Nat.le_of_ble_eq_true rfl) ?_
  show am_P xs 2 k_anew 0 [some (.ref 0), some (.int d), none, none] [] m _
  rcases hqb : q_is d (T.1 153 0) with _ | _
  · have hqd : q_is d (T.1 153 0) = false := hqb
    refine w_aload_n (pc' := 1) rfl rfl rfl rfl ?_
    refine w_getC (pc' := 4) rfl rfl rfl sh_0 rfl ?_
    refine w_iload_n (pc' := 5) rfl rfl rfl ?_
    refine w_cV1a (pc' := 8) (v_la_drawerN xs q_L1 hR1 hB hqd) (by decide) rfl rfl rfl (Nat.le_of_ble_eq_true rfl) (shL q_L1) rfl (fun m' hm' => ?_)
    rw [show m' = m from hm']
    clear hm' m'
    refine w_ast2 (pc' := 9) rfl rfl rfl rfl ?_
    refine w_aload_n (pc' := 10) rfl rfl rfl rfl ?_
    refine w_ifnonnullN (pc' := 13) rfl rfl ?_
    refine w_iconst (pc' := 14) (-1) rfl rfl ic_m1 ?_
    refine w_iret rfl rfl rfl ?_
    have hf : f_anew T d = (-1, T) := by simp [f_anew, hqd]
    rw [hf]
    exact ⟨rfl, hC.Q hI (q_Fq.rf)⟩
  · obtain ⟨jd, hjd, rfl⟩ := q_is_of hqb (by omega)
    refine w_aload_n (pc' := 1) rfl rfl rfl rfl ?_
    refine w_getC (pc' := 4) rfl rfl rfl sh_0 rfl ?_
    refine w_iload_n (pc' := 5) rfl rfl rfl ?_
    refine w_cV1a (pc' := 8) (v_la_drawerS xs q_L1 hR1 hB (p := jd) (by omega)) (by decide) rfl rfl rfl (Nat.le_of_ble_eq_true rfl) (shL q_L1) rfl (fun m' hm' => ?_)
    rw [show m' = m from hm']
    clear hm' m'
    refine w_ast2 (pc' := 9) rfl rfl rfl rfl ?_
    refine w_aload_n (pc' := 10) rfl rfl rfl rfl ?_
    refine w_ifnonnullR (pc' := 15) rfl (by decide) (by omega) ?_
    refine w_aload_n (pc' := 16) rfl rfl rfl rfl ?_
    refine w_getI (pc' := 19) rfl rfl rfl (shD q_L1 (p := jd) (by omega)) rfl ?_
    have b1 : T.1 157 jd < 9 := hB 157 (jd)
    rw [show m.1 (1 + 6 + 4 * jd) 4 = nI (T.1 157 jd) from (hR1.2.2.2.2.2 jd (by omega)).2.2.2.1]
    refine w_ist3 (pc' := 20) rfl rfl rfl ?_
    refine w_aload_n (pc' := 21) rfl rfl rfl rfl ?_
    refine w_iconst (pc' := 22) 0 rfl rfl ic_0 ?_
    refine w_putI (pc' := 25) rfl rfl rfl (shD q_L1 (p := jd) (by omega)) rfl rfl rfl ?_
    refine w_any (fun q => q_Rl 1 (q_Tu T 157 (jd) (0)) q ∧ q_Fl 1 m q) ⟨hR1.d (p := jd) (x := 0) (by omega) (by omega) (by omega), hF.u (by omega)⟩ (fun m1 hm1 => ?_)
    obtain ⟨hR_1, hF_1⟩ := hm1
    have hnn1 : (q_Tu T 157 (jd) (0)).1 153 0 = T.1 153 0 := q_Tu_ne (by omega)
    refine w_aload_n (pc' := 26) rfl rfl rfl rfl ?_
    refine w_iconst (pc' := 27) 0 rfl rfl ic_0 ?_
    refine w_putB (pc' := 30) rfl rfl rfl (shD q_L1 (p := jd) (by omega)) rfl rfl (by decide) rfl ?_
    refine w_any (fun q => q_Rl 1 (q_Tu (q_Tu T 157 (jd) (0)) 158 (jd) (0)) q ∧ q_Fl 1 m q) ⟨hR_1.d (p := jd) (x := 0) (by omega) (by omega) (by omega), hF_1.u (by omega)⟩ (fun m2 hm2 => ?_)
    obtain ⟨hR_2, hF_2⟩ := hm2
    have hnn2 : (q_Tu (q_Tu T 157 (jd) (0)) 158 (jd) (0)).1 153 0 = T.1 153 0 := (q_Tu_ne (by omega)).trans (q_Tu_ne (by omega))
    refine w_iload_n (pc' := 31) rfl rfl rfl ?_
    refine w_iret rfl rfl rfl ?_
    have hf : f_anew T (nI jd) = (nI ((T.1 157 jd)), (q_Tu (q_Tu T 157 (jd) (0)) 158 (jd) (0))) := by simp [f_anew, q_is_nI (n := T.1 153 0) hjd (by omega), nI_clamp (show jd < 2 ^ 31 by omega)]
    rw [hf]
    exact ⟨rfl, hC.l1 hI hR_2 hF_2 (((q_Ag.rf.u (by rw [q_pi_157 (k := jd) (by omega)]; omega)).u (by rw [q_pi_158 (k := jd) (by omega)]; omega))) (fun c k hc => (q_Tu_ne (by omega)).trans (q_Tu_ne (by omega))), hF_2.FM (by omega)⟩
set_option maxRecDepth 100000 in
set_option maxHeartbeats 4000000 in
theorem v_k_mark (xs : List Int32) {T : q_T} {m : am_Mm} (hC : q_Rc T m) (hI : q_I T) (c : Int32) (n : Int32) : am_V xs 3 52 [.ref 0, .int c, .int n] m (am_qi (f_mark T c n).1 (q_Q (f_mark T c n).2 m)) := by
  have hY := hI.1.1
  have hB := hY.1
  have hl6 := hI.1.2.1
  have hn0 : T.1 153 0 < 7 := hB 153 0
  have hF : q_Fl 1 m m := q_Fl.rf
  have hR1 := hC.1
  refine am_V_of ky_52 (Nat.le_of_ble_eq_true rfl) ?_
  show am_P xs 2 k_mark 0 [some (.ref 0), some (.int c), some (.int n), none] [] m _
  refine w_iload_n (pc' := 1) rfl rfl rfl ?_
  refine w_cS1i (pc' := 4) (v_k_isCell xs m c) (by decide) rfl rfl rfl (Or.inl rfl) (Nat.le_of_ble_eq_true rfl) (fun m' hm' => ?_)
  rw [show m' = m from hm']
  clear hm' m'
  refine w_if_ne (t := 9) (pc' := 7) rfl (by decide) rfl (fun h4 => ?_) (fun h4 => ?_)
  · obtain ⟨j1, hj1, rfl⟩ := q_is_of (bB_n0.mp h4) (by omega)
    refine w_iload_n (pc' := 10) rfl rfl rfl ?_
    refine w_cS1i (pc' := 13) (v_k_isMark xs m n) (by decide) rfl rfl rfl (Or.inl rfl) (Nat.le_of_ble_eq_true rfl) (fun m' hm' => ?_)
    rw [show m' = m from hm']
    clear hm' m'
    refine w_if_ne (t := 19) (pc' := 16) rfl (by decide) rfl (fun h13 => ?_) (fun h13 => ?_)
    · obtain ⟨j2, hj2, rfl⟩ := q_is_of (bB_n0.mp h13) (by omega)
      refine w_aload_n (pc' := 20) rfl rfl rfl rfl ?_
      refine w_getC (pc' := 23) rfl rfl rfl sh_0 rfl ?_
      refine w_iload_n (pc' := 24) rfl rfl rfl ?_
      refine w_cV1i (pc' := 27) (v_la_markAt xs q_L1 hR1 (i := j1) (by omega)) (by decide) rfl rfl rfl (Nat.le_of_ble_eq_true rfl) (shL q_L1) rfl (fun m' hm' => ?_)
      rw [show m' = m from hm']
      clear hm' m'
      refine w_ist3 (pc' := 28) rfl rfl rfl ?_
      refine w_aload_n (pc' := 29) rfl rfl rfl rfl ?_
      refine w_getC (pc' := 32) rfl rfl rfl sh_0 rfl ?_
      refine w_iload_n (pc' := 33) rfl rfl rfl ?_
      refine w_iload_n (pc' := 34) rfl rfl rfl ?_
      refine w_cV2n (pc' := 37) (v_la_setMark xs q_L1 hR1 hB (c := j1) (x := j2) (by omega) (by omega)) (by decide) rfl rfl rfl (Nat.le_of_ble_eq_true rfl) (shL q_L1) rfl (fun m1 hm' => ?_)
      obtain ⟨hR_1, hF_1⟩ := hm'
      refine w_iload_n (pc' := 38) rfl rfl rfl ?_
      refine w_iret rfl rfl rfl ?_
      have hf : f_mark T (nI j1) (nI j2) = (nI ((T.1 162 j1)), (q_Tu T 162 (j1) (j2))) := by simp [f_mark, q_is_nI (n := 16) hj1 (by omega), nI_clamp (show j1 < 2 ^ 31 by omega), q_is_nI (n := 8) hj2 (by omega), nI_clamp (show j2 < 2 ^ 31 by omega)]
      rw [hf]
      exact ⟨rfl, hC.l1 hI hR_1 hF_1 ((q_Ag.rf.u (by rw [q_pi_162 (k := j1) (by omega)]; omega))) (fun c k hc => q_Tu_ne (by omega)), hF_1.FM (by omega)⟩
    · have hN3 := bB_0.mp h13
      refine w_bipush (pc' := 18) (-2) rfl rfl bp_m2 ?_
      refine w_iret rfl rfl rfl ?_
      have hf : f_mark T (nI j1) n = (-2, T) := by simp [f_mark, q_is_nI (n := 16) hj1 (by omega), nI_clamp (show j1 < 2 ^ 31 by omega), hN3]
      rw [hf]
      exact ⟨rfl, hC.Q hI (q_Fq.rf)⟩
  · have hN4 := bB_0.mp h4
    refine w_iconst (pc' := 8) (-1) rfl rfl ic_m1 ?_
    refine w_iret rfl rfl rfl ?_
    have hf : f_mark T c n = (-1, T) := by simp [f_mark, hN4]
    rw [hf]
    exact ⟨rfl, hC.Q hI (q_Fq.rf)⟩
theorem q_dT_Ag {T : q_T} {x y z : Nat} (h : T.1 153 0 < 6) : q_Ag T (q_dT T x y z) := (((((((((((q_Ag.rf.u (by rw [q_pi_154 (by omega)]; omega)).u (by rw [q_pi_155 (by omega)]; omega)).u (by rw [q_pi_156 (by omega)]; omega)).u (by rw [q_pi_157 (by omega)]; omega)).u (by rw [q_pi_158 (by omega)]; omega)).u (by rw [q_pi_159 (by omega)]; omega)).u (by rw [q_pi_161 (by omega)]; omega)).u (by rw [q_pi_161 (by omega)]; omega)).u (by rw [q_pi_161 (by omega)]; omega)).u (by rw [q_pi_161 (by omega)]; omega)).u (by decide))
theorem q_dT_hi {T : q_T} {x y z c k : Nat} (hc : 163 ≤ c ∨ (c = 153 ∧ (12 ≤ k ∧ k ≠ 19))) : (q_dT T x y z).1 c k = T.1 c k := (q_Tu_ne (by omega)).trans ((q_Tu_ne (by omega)).trans ((q_Tu_ne (by omega)).trans ((q_Tu_ne (by omega)).trans ((q_Tu_ne (by omega)).trans ((q_Tu_ne (by omega)).trans ((q_Tu_ne (by omega)).trans ((q_Tu_ne (by omega)).trans ((q_Tu_ne (by omega)).trans ((q_Tu_ne (by omega)).trans (q_Tu_ne (by omega)))))))))))
set_option maxRecDepth 100000 in
set_option maxHeartbeats 4000000 in
theorem v_k_drawer (xs : List Int32) {T : q_T} {m : am_Mm} (hC : q_Rc T m) (hI : q_I T) (k : Int32) (v : Int32) (c : Int32) : am_V xs 3 10 [.ref 0, .int k, .int v, .int c] m (am_qi (f_drawer T k v c).1 (q_Q (f_drawer T k v c).2 m)) := by
  have hY := hI.1.1
  have hB := hY.1
  have hl6 := hI.1.2.1
  have hn0 : T.1 153 0 < 7 := hB 153 0
  have hF : q_Fl 1 m m := q_Fl.rf
  have hR1 := hC.1
  refine am_V_of ky_10 (Nat.le_of_ble_eq_true rfl) ?_
  show am_P xs 2 k_drawer 0 [some (.ref 0), some (.int k), some (.int v), some (.int c)] [] m _
  refine w_iload_n (pc' := 1) rfl rfl rfl ?_
  refine w_if_lt (t := 17) (pc' := 4) rfl (by decide) rfl (fun h1 => ?_) (fun h1 => ?_)
  · have hnegk : k < 0 := h1
    refine w_iconst (pc' := 18) (-1) rfl rfl ic_m1 ?_
    refine w_iret rfl rfl rfl ?_
    have hf : f_drawer T k v c = (-1, T) := by simp [f_drawer, q_is_neg hnegk (n := 7) (by omega)]
    rw [hf]
    exact ⟨rfl, hC.Q hI (q_Fq.rf)⟩
  · obtain ⟨jk, hjk, rfl⟩ := nI_of (x := k) h1
    refine w_iload_n (pc' := 5) rfl rfl rfl ?_
    refine w_bipush (pc' := 7) 7 rfl rfl bp_7 ?_
    refine w_ic_ge (t := 17) (pc' := 10) rfl (by decide) rfl (fun h7 => ?_) (fun h7 => ?_)
    · have g1 : 7 ≤ jk := (nI_leI (a := 7) (b := jk) (by omega) (by omega)).mp h7
      refine w_iconst (pc' := 18) (-1) rfl rfl ic_m1 ?_
      refine w_iret rfl rfl rfl ?_
      have hf : f_drawer T (nI jk) v c = (-1, T) := by simp [f_drawer, nI_clamp (show jk < 2 ^ 31 by omega), q_is_big (n := 7) (j := jk) (by omega) (by omega), g1, Nat.not_lt.mpr g1]
      rw [hf]
      exact ⟨rfl, hC.Q hI (q_Fq.rf)⟩
    · have g2 : ¬ 7 ≤ jk := fun q => h7 ((nI_leI (a := 7) (b := jk) (by omega) (by omega)).mpr q)
      refine w_iload_n (pc' := 11) rfl rfl rfl ?_
      refine w_cS1i (pc' := 14) (v_k_isCell xs m c) (by decide) rfl rfl rfl (Or.inl rfl) (Nat.le_of_ble_eq_true rfl) (fun m' hm' => ?_)
      rw [show m' = m from hm']
      clear hm' m'
      refine w_if_ne (t := 19) (pc' := 17) rfl (by decide) rfl (fun h14 => ?_) (fun h14 => ?_)
      · obtain ⟨j3, hj3, rfl⟩ := q_is_of (bB_n0.mp h14) (by omega)
        refine w_iload_n (pc' := 20) rfl rfl rfl ?_
        refine w_cS1i (pc' := 23) (v_k_isDigit xs m v) (by decide) rfl rfl rfl (Or.inl rfl) (Nat.le_of_ble_eq_true rfl) (fun m' hm' => ?_)
        rw [show m' = m from hm']
        clear hm' m'
        refine w_if_ne (t := 29) (pc' := 26) rfl (by decide) rfl (fun h23 => ?_) (fun h23 => ?_)
        · obtain ⟨j4, hj4, rfl⟩ := q_is_of (bB_n0.mp h23) (by omega)
          refine w_aload_n (pc' := 30) rfl rfl rfl rfl ?_
          refine w_getC (pc' := 33) rfl rfl rfl sh_0 rfl ?_
          refine w_iload_n (pc' := 34) rfl rfl rfl ?_
          refine w_iload_n (pc' := 35) rfl rfl rfl ?_
          refine w_iload_n (pc' := 36) rfl rfl rfl ?_
          refine w_cV3i (pc' := 39) (v_la_addDrawer xs q_L1 hR1 hB (x := jk) (y := j4) (z := j3)) (by decide) rfl rfl rfl (Nat.le_of_ble_eq_true rfl) (shL q_L1) rfl (fun m1 hm' => ?_)
          have hM := hm'
          refine w_if_eq (t := 54) (pc' := 42) rfl (by decide) rfl (fun h39 => ?_) (fun h39 => ?_)
          · have hd6 := bB_0.mp h39
            rw [if_neg (by rw [hd6]; decide)] at hM
            have hge6 : ¬ T.1 153 0 < 6 := of_decide_eq_false hd6
            rw [show m1 = m from hM]
            refine w_bipush (pc' := 56) (-4) rfl rfl bp_m4 ?_
            refine w_iret rfl rfl rfl ?_
            have hf : f_drawer T (nI jk) (nI j4) (nI j3) = (-4, T) := by unfold f_drawer; rw [if_pos ⟨q_is_nI (by omega) (by omega), q_is_nI (by omega) (by omega)⟩, if_pos (q_is_nI (by omega) (by omega)), if_pos (by omega)]
            rw [hf]
            exact ⟨rfl, hC.Q hI q_Fq.rf⟩
          · have hd6 := bB_n0.mp h39
            rw [if_pos hd6] at hM
            have hlt6 : T.1 153 0 < 6 := of_decide_eq_true hd6
            refine w_aload_n (pc' := 43) rfl rfl rfl rfl ?_
            refine w_getC (pc' := 46) rfl rfl rfl sh_0 rfl ?_
            refine w_getI (pc' := 49) rfl rfl rfl (shL q_L1) rfl ?_
            rw [show m1.1 1 5 = nI (T.1 153 0 + 1) from hM.1.1.trans (congrArg nI q_Tu_eq)]
            refine w_iconst (pc' := 50) 1 rfl rfl ic_1 ?_
            refine w_isub (pc' := 51) rfl rfl ?_
            rw [show nI ((T.1 153 0 + 1)) - (1 : Int32) = nI ((T.1 153 0 + 1) - 1) from nI_subN (a := (T.1 153 0 + 1)) (b := 1) (by omega)]
            refine w_goto (pc' := 56) rfl (by decide) ?_
            refine w_iret rfl rfl rfl ?_
            have hf : f_drawer T (nI jk) (nI j4) (nI j3) = (nI (T.1 153 0), q_dT T jk j4 j3) := by unfold f_drawer; rw [if_pos ⟨q_is_nI (by omega) (by omega), q_is_nI (by omega) (by omega)⟩, if_pos (q_is_nI (by omega) (by omega)), if_neg (by omega), nI_clamp (by omega), nI_clamp (by omega), nI_clamp (by omega)]; rfl
            rw [hf, show T.1 153 0 + 1 - 1 = T.1 153 0 from by omega]
            exact ⟨rfl, hC.l1 hI hM.1 hM.2 (q_dT_Ag hlt6) (fun _ _ hc => q_dT_hi hc), hM.2.FM (by omega)⟩
        · have hN5 := bB_0.mp h23
          refine w_bipush (pc' := 28) (-2) rfl rfl bp_m2 ?_
          refine w_iret rfl rfl rfl ?_
          have hf : f_drawer T (nI jk) v (nI j3) = (-2, T) := by simp [f_drawer, nI_clamp (show jk < 2 ^ 31 by omega), q_is_nI (n := 7) (j := jk) (by omega) (by omega), g2, Nat.lt_of_not_le g2, q_is_nI (n := 16) hj3 (by omega), nI_clamp (show j3 < 2 ^ 31 by omega), hN5]
          rw [hf]
          exact ⟨rfl, hC.Q hI (q_Fq.rf)⟩
      · have hN6 := bB_0.mp h14
        refine w_iconst (pc' := 18) (-1) rfl rfl ic_m1 ?_
        refine w_iret rfl rfl rfl ?_
        have hf : f_drawer T (nI jk) v c = (-1, T) := by simp [f_drawer, nI_clamp (show jk < 2 ^ 31 by omega), q_is_nI (n := 7) (j := jk) (by omega) (by omega), g2, Nat.lt_of_not_le g2, hN6]
        rw [hf]
        exact ⟨rfl, hC.Q hI (q_Fq.rf)⟩
