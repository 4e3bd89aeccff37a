def f_ac (T : q_T) (p : Nat) (a x : Int32) : Int32 × q_T := if q_is a 3 = true then (if a.toNatClampNeg = 0 then f_wp (T.1 154 p) (q_Tu T 153 38 0) p x else if a.toNatClampNeg = 1 then f_dp (T.1 154 p) (q_Tu T 153 38 0) p x else f_tp (T.1 154 p) (q_Tu T 153 38 0) p x) else (0, q_Tu T 153 38 0)
theorem U_tr {T : q_T} : q_Tr T (q_Tu T 153 38 0) 0 := ⟨fun c k h1 h2 => q_Tu_ne h2, by rw [q_Tu_eq]; omega, rfl⟩
theorem f_ac_tr (T : q_T) (p : Nat) (a x : Int32) : q_Tr T (f_ac T p a x).2 14 := by
  unfold f_ac
  split
  · split
    · exact (U_tr.tr (f_wp_tr _ _ p x)).le (by omega)
    · split
      · exact (U_tr.tr (f_dp_tr _ _ p x)).le (by omega)
      · exact (U_tr.tr (f_tp_tr _ _ p x)).le (by omega)
  · exact U_tr.le (by omega)
theorem q_Rt.U {T : q_T} {m : am_Mm} {y : Int32} (hy : y = nI 0) : q_Rt (q_Tu T 153 38 0) (am_u m 120 1 y) ∧ q_Ft m (am_u m 120 1 y) := by
  subst hy
  refine ⟨⟨am_u_eq.trans (congrArg nI q_Tu_eq.symm), fun i h1 h2 => absurd h2 (by rw [q_Tu_eq]; omega)⟩, fun c a b => am_u_nc a, fun k a => am_u_ne (by omega), rfl⟩
theorem q_Rc.tr {T T' : q_T} {m m' : am_Mm} {n : Nat} (hC : q_Rc T m) (hI : q_I T) (hR : q_Rt T' m') (hF : q_Ft m m') (ht : q_Tr T T' n) : q_Q T' m m' := by
  have e2 := ht.2.2
  refine hC.x hI ?_ (fun c hc => hF.1 c (by omega) (by omega)) (fun c hc => by rw [hF.2.2]) (by rw [e2]) (fun c k hc => ht.1 c k (by omega) (by omega))
  obtain ⟨a1, a2, a3, a4, a5, a6, a7⟩ := hC.2.2.2.1
  unfold q_Rx
  rw [hF.1 0 (by omega) (by omega), hF.1 117 (by omega) (by omega), hF.1 118 (by omega) (by omega), e2, ht.1 153 12 (by omega) (by omega), ht.1 153 40 (by omega) (by omega)]
  refine ⟨a1, a2, fun i hi => ?_, hR.1, hR.2, a6, fun t ht' => ?_⟩
  · rw [ht.1 163 i (by omega) (by omega)]
    exact a3 i hi
  · rw [hF.1 (141 + 2 * t) (by omega) (by omega), hF.2.2, ht.1 182 t (by omega) (by omega), ht.1 183 t (by omega) (by omega)]
    exact a7 t ht'
set_option maxRecDepth 100000 in
set_option maxHeartbeats 4000000 in
theorem v_ofActN (xs : List Int32) {T : q_T} {m : am_Mm} (a x : Int32) : am_V xs 2 122 [.ref 120, .null, .int a, .int x] m (am_qi 0 (fun m' => q_Rt (q_Tu T 153 38 0) m' ∧ q_Ft m m')) := by
  refine am_V_of ky_122 (Nat.le_of_ble_eq_true rfl) ?_
  show am_P xs 1 tr_ofAct 0 [some (.ref 120), some (.null), some (.int a), some (.int x)] [] m _
  refine w_aload_n (pc' := 1) rfl rfl rfl rfl ?_
  refine w_iconst (pc' := 2) 0 rfl rfl ic_0 ?_
  refine w_putI (pc' := 5) rfl rfl rfl sh_120 rfl rfl rfl ?_
  refine w_any (fun q => q_Rt (q_Tu T 153 38 0) q ∧ q_Ft m q) (q_Rt.U rfl) (fun m1 hm1 => ?_)
  obtain ⟨hR1, hF1⟩ := hm1
  refine w_aload_n (pc' := 6) rfl rfl rfl rfl ?_
  refine w_ifnullN (pc' := 18) rfl (by decide) ?_
  refine w_iconst (pc' := 19) 0 rfl rfl ic_0 ?_
  refine w_iret rfl rfl rfl ?_
  exact ⟨rfl, hR1, hF1⟩
set_option maxRecDepth 100000 in
set_option maxHeartbeats 4000000 in
theorem v_ofActS (xs : List Int32) {T : q_T} {p : Nat} {m : am_Mm} (hp : p < 6) (h : q_Ra T p m) (hk : T.1 154 p < 7) (a x : Int32) : am_V xs 16 122 [.ref 120, .ref (1 + 6 + 4 * p), .int a, .int x] m (am_qi (f_ac T p a x).1 (fun m' => q_Rt (f_ac T p a x).2 m' ∧ q_Ft m m')) := by
  refine am_V_of ky_122 (Nat.le_of_ble_eq_true rfl) ?_
  show am_P xs 15 tr_ofAct 0 [some (.ref 120), some (.ref (1 + 6 + 4 * p)), some (.int a), some (.int x)] [] m _
  refine w_aload_n (pc' := 1) rfl rfl rfl rfl ?_
  refine w_iconst (pc' := 2) 0 rfl rfl ic_0 ?_
  refine w_putI (pc' := 5) rfl rfl rfl sh_120 rfl rfl rfl ?_
  refine w_any (fun q => q_Rt (q_Tu T 153 38 0) q ∧ q_Ft m q) (q_Rt.U rfl) (fun m1 hm1 => ?_)
  obtain ⟨hR1, hF1⟩ := hm1
  have hA1 := h.of hp hR1 hF1 (U_tr (T := T))
  refine w_aload_n (pc' := 6) rfl rfl rfl rfl ?_
  refine w_ifnullR (pc' := 9) rfl rfl (by omega) ?_
  refine w_iload_n (pc' := 10) rfl rfl rfl ?_
  refine w_if_lt (t := 18) (pc' := 13) rfl (by decide) rfl (fun h10 => ?_) (fun h10 => ?_)
  · have hneg : a < 0 := h10
    refine w_iconst (pc' := 19) 0 rfl rfl ic_0 ?_
    refine w_iret rfl rfl rfl ?_
    rw [show f_ac T p a x = (0, (q_Tu T 153 38 0)) from if_neg (by rw [(q_is_neg hneg (n := 3) (by omega))]; decide)]
    exact ⟨rfl, hR1, hF1⟩
  · obtain ⟨ja, hja, rfl⟩ := nI_of (x := a) h10
    refine w_iload_n (pc' := 14) rfl rfl rfl ?_
    refine w_iconst (pc' := 15) 3 rfl rfl ic_3 ?_
    refine w_ic_lt (t := 20) (pc' := 18) rfl (by decide) rfl (fun h15 => ?_) (fun h15 => ?_)
    · have g1 : ja < 3 := (nI_ltI (a := ja) (b := 3) (by omega) (by omega)).mp h15
      rcases (show ja = 0 ∨ ja = 1 ∨ ja = 2 by omega) with rfl | rfl | rfl
      · skip
        refine w_aload_n (pc' := 21) rfl rfl rfl rfl ?_
        refine w_aload_n (pc' := 22) rfl rfl rfl rfl ?_
        refine w_aload_n (pc' := 23) rfl rfl rfl rfl ?_
        refine w_getI (pc' := 26) rfl rfl rfl (shD q_L1 (p := p) (by omega)) rfl ?_
        rw [show m1.1 (1 + 6 + 4 * p) 1 = nI (T.1 154 p) from hA1.2.1.trans (congrArg nI (q_Tu_ne (by omega)))]
        refine w_iload_n (pc' := 27) rfl rfl rfl ?_
        refine w_iload_n (pc' := 28) rfl rfl rfl ?_
        refine w_iconst (pc' := 29) 0 rfl rfl ic_0 ?_
        refine w_cV5i (pc' := 32) (v_runW xs (T := (q_Tu T 153 38 0)) hp hA1 (by rw [q_Tu_eq]; omega) x (e := 0) (by omega) (k := T.1 154 p) hk) (by decide) rfl rfl rfl (Nat.le_of_ble_eq_true rfl) sh_120 rfl (fun m2 hm' => ?_)
        obtain ⟨hA_2, hF_2⟩ := hm'
        refine w_iret rfl rfl rfl ?_
        rw [show f_ac T p (nI 0) x = f_wp (T.1 154 p) (q_Tu T 153 38 0) p x from rfl]
        exact ⟨rfl, hA_2.1, hF1.tr hF_2⟩
      · skip
        refine w_aload_n (pc' := 21) rfl rfl rfl rfl ?_
        refine w_aload_n (pc' := 22) rfl rfl rfl rfl ?_
        refine w_aload_n (pc' := 23) rfl rfl rfl rfl ?_
        refine w_getI (pc' := 26) rfl rfl rfl (shD q_L1 (p := p) (by omega)) rfl ?_
        rw [show m1.1 (1 + 6 + 4 * p) 1 = nI (T.1 154 p) from hA1.2.1.trans (congrArg nI (q_Tu_ne (by omega)))]
        refine w_iload_n (pc' := 27) rfl rfl rfl ?_
        refine w_iload_n (pc' := 28) rfl rfl rfl ?_
        refine w_iconst (pc' := 29) 0 rfl rfl ic_0 ?_
        refine w_cV5i (pc' := 32) (v_runD xs (T := (q_Tu T 153 38 0)) hp hA1 (by rw [q_Tu_eq]; omega) x (e := 0) (by omega) (by rw [q_Tu_ne (by omega)]; exact hk) (k := T.1 154 p) hk) (by decide) rfl rfl rfl (Nat.le_of_ble_eq_true rfl) sh_120 rfl (fun m3 hm' => ?_)
        obtain ⟨hA_3, hF_3⟩ := hm'
        refine w_iret rfl rfl rfl ?_
        rw [show f_ac T p (nI 1) x = f_dp (T.1 154 p) (q_Tu T 153 38 0) p x from rfl]
        exact ⟨rfl, hA_3.1, hF1.tr hF_3⟩
      · skip
        refine w_aload_n (pc' := 21) rfl rfl rfl rfl ?_
        refine w_aload_n (pc' := 22) rfl rfl rfl rfl ?_
        refine w_aload_n (pc' := 23) rfl rfl rfl rfl ?_
        refine w_getI (pc' := 26) rfl rfl rfl (shD q_L1 (p := p) (by omega)) rfl ?_
        rw [show m1.1 (1 + 6 + 4 * p) 1 = nI (T.1 154 p) from hA1.2.1.trans (congrArg nI (q_Tu_ne (by omega)))]
        refine w_iload_n (pc' := 27) rfl rfl rfl ?_
        refine w_iload_n (pc' := 28) rfl rfl rfl ?_
        refine w_iconst (pc' := 29) 0 rfl rfl ic_0 ?_
        refine w_cV5i (pc' := 32) (v_runT xs (T := (q_Tu T 153 38 0)) hp hA1 (by rw [q_Tu_eq]; omega) x (e := 0) (by omega) (by rw [q_Tu_ne (by omega)]; exact hk) (k := T.1 154 p) hk) (by decide) rfl rfl rfl (Nat.le_of_ble_eq_true rfl) sh_120 rfl (fun m4 hm' => ?_)
        obtain ⟨hA_4, hF_4⟩ := hm'
        refine w_iret rfl rfl rfl ?_
        rw [show f_ac T p (nI 2) x = f_tp (T.1 154 p) (q_Tu T 153 38 0) p x from rfl]
        exact ⟨rfl, hA_4.1, hF1.tr hF_4⟩
    · have g2 : ¬ ja < 3 := fun q => h15 ((nI_ltI (a := ja) (b := 3) (by omega) (by omega)).mpr q)
      refine w_iconst (pc' := 19) 0 rfl rfl ic_0 ?_
      refine w_iret rfl rfl rfl ?_
      rw [show f_ac T p (nI ja) x = (0, (q_Tu T 153 38 0)) from if_neg (by rw [(q_is_big (n := 3) (j := ja) (by omega) (by omega))]; decide)]
      exact ⟨rfl, hR1, hF1⟩
set_option maxRecDepth 100000 in
set_option maxHeartbeats 4000000 in
theorem v_k_act (xs : List Int32) {T : q_T} {m : am_Mm} (hC : q_Rc T m) (hI : q_I T) (d : Int32) (a : Int32) (x : Int32) : am_V xs 17 121 [.ref 0, .int d, .int a, .int x] m (am_qi (f_act T d a x).1 (q_Q (f_act T d a x).2 m)) := by
  have hY := hI.1.1
  have hB := hY.1
  have hl6 := hI.1.2.1
  have hn0 : T.1 153 0 < 7 := hB 153 0
  have hF : q_Fl 1 m m := q_Fl.rf
  have hR1 := hC.1
  refine am_V_of ky_121 (Nat.le_of_ble_eq_true rfl) ?_
  show am_P xs 16 k_act 0 [some (.ref 0), some (.int d), some (.int a), some (.int x)] [] m _
  rcases hqb : q_is d (T.1 153 0) with _ | _
  · have hqd : q_is d (T.1 153 0) = false := hqb
    refine w_aload_n (pc' := 1) rfl rfl rfl rfl ?_
    refine w_getC (pc' := 4) rfl rfl rfl sh_0 rfl ?_
    refine w_aload_n (pc' := 5) rfl rfl rfl rfl ?_
    refine w_getC (pc' := 8) rfl rfl rfl sh_0 rfl ?_
    refine w_iload_n (pc' := 9) rfl rfl rfl ?_
    refine w_cV1a (pc' := 12) (v_la_drawerN xs q_L1 hR1 hB hqd) (by decide) rfl rfl rfl (Nat.le_of_ble_eq_true rfl) (shL q_L1) rfl (fun m' hm' => ?_)
    rw [show m' = m from hm']
    clear hm' m'
    refine w_iload_n (pc' := 13) rfl rfl rfl ?_
    refine w_iload_n (pc' := 14) rfl rfl rfl ?_
    refine w_cV3i (pc' := 17) (v_ofActN xs (T := T) a x) (by decide) rfl rfl rfl (Nat.le_of_ble_eq_true rfl) sh_120 rfl (fun m1 hm' => ?_)
    obtain ⟨hR_1, hF_1⟩ := hm'
    refine w_iret rfl rfl rfl ?_
    have hf : f_act T d a x = (0, (q_Tu T 153 38 0)) := by unfold f_act; rw [if_neg (fun z => by rw [hqd] at z; exact absurd z.1 (by decide))]
    rw [hf]
    exact ⟨rfl, hC.tr hI hR_1 hF_1 U_tr⟩
  · obtain ⟨jd, hjd, rfl⟩ := q_is_of hqb (by omega)
    refine w_aload_n (pc' := 1) rfl rfl rfl rfl ?_
    refine w_getC (pc' := 4) rfl rfl rfl sh_0 rfl ?_
    refine w_aload_n (pc' := 5) rfl rfl rfl rfl ?_
    refine w_getC (pc' := 8) rfl rfl rfl sh_0 rfl ?_
    refine w_iload_n (pc' := 9) rfl rfl rfl ?_
    refine w_cV1a (pc' := 12) (v_la_drawerS xs q_L1 hR1 hB (p := jd) (by omega)) (by decide) rfl rfl rfl (Nat.le_of_ble_eq_true rfl) (shL q_L1) rfl (fun m' hm' => ?_)
    rw [show m' = m from hm']
    clear hm' m'
    refine w_iload_n (pc' := 13) rfl rfl rfl ?_
    refine w_iload_n (pc' := 14) rfl rfl rfl ?_
    refine w_cV3i (pc' := 17) (v_ofActS xs (T := T) (p := jd) (by omega) ⟨⟨hC.2.2.2.1.2.2.2.1, hC.2.2.2.1.2.2.2.2.1⟩, (hC.1.2.2.2.2.2 jd (by omega)).1, (hC.1.2.2.2.2.2 jd (by omega)).2.1⟩ (hB 154 jd) a x) (by decide) rfl rfl rfl (Nat.le_of_ble_eq_true rfl) sh_120 rfl (fun m2 hm' => ?_)
    obtain ⟨hR_2, hF_2⟩ := hm'
    refine w_iret rfl rfl rfl ?_
    have hf : f_act T (nI jd) a x = f_ac T jd a x := by
      unfold f_act f_ac
      rw [nI_clamp (show jd < 2 ^ 31 by omega)]
      by_cases q : q_is a 3 = true
      · rw [if_pos ⟨q_is_nI (by omega) (by omega), q⟩, if_pos q]
      · rw [if_neg (fun z => q z.2), if_neg q]
    rw [hf]
    exact ⟨rfl, hC.tr hI hR_2 hF_2 (f_ac_tr T jd a x)⟩
