theorem q_und_ag {T T' : q_T} (h : q_Ag T T') : q_und T' = q_und T := by
  refine Prod.ext ?_ h.1
  funext c k
  show (if q_pi c k < 182 then T'.1 179 (q_pi c k) else T'.1 c k) = if q_pi c k < 182 then T.1 179 (q_pi c k) else T.1 c k
  split
  · exact h.2 179 _ (show ¬ 999 < 182 by omega)
  · rename_i e
    exact h.2 c k e
theorem q_Rc.l1 {T T' : q_T} {m m' : am_Mm} (h : q_Rc T m) (hI : q_I T) (hR : q_Rl 1 T' m') (hF : q_Fl 1 m m') (hA : q_Ag T T') (hT : ∀ c k, 163 ≤ c ∨ (c = 153 ∧ (12 ≤ k ∧ k ≠ 19)) → T'.1 c k = T.1 c k) : q_Rc T' m' := by
  obtain ⟨h1, h2, h3, h4, h5⟩ := h
  refine ⟨hR, h2.eq (fun c c1 c2 => hF.1 c (by omega)) (by rw [hA.1]) hI.1.2.1, h3.eq (fun c c1 c2 => hF.1 c (by omega)) (fun c k hc => hT c k (by omega)), h4.eq (fun c hc => ⟨hF.1 c (by omega), by rw [hF.2]⟩) hA.1 (fun c k hc => hT c k (by omega)), fun hi => ?_⟩
  rw [hT 153 40 (by omega)] at hi
  rw [q_und_ag hA]
  have b0 : (q_und T).1 153 0 < 7 := (hI.2 hi).1.1 153 0
  exact ⟨(h5 hi).1.fl hF (Or.inr (by omega)) (by omega), (h5 hi).2.eq (fun c c1 c2 => hF.1 c (by omega)) (fun _ _ _ => rfl)⟩
theorem q_F4.Fq {m m' : am_Mm} (h : q_F4 1 m m') : q_Fq m m' := ⟨fun c a b => h.1 c (by omega), h.2⟩
set_option maxRecDepth 100000 in
set_option maxHeartbeats 4000000 in
theorem lp_ktry (xs : List Int32) {T : q_T} {m0 : am_Mm} (hC : q_Rc T m0) (hI : q_I T) : ∀ (r k : Nat), k + r = T.1 153 32 → ∀ (U : q_T) (m : am_Mm) (h0 : Nat), q_Rl 61 U m → q_Fl 61 m0 m → q_Y h0 U → q_Ae T U → U.2 = T.2 → U.1 153 0 = T.1 153 0 → h0 + r ≤ 900 → ∀ (l3 : Option Value), am_P xs 8 k_tryPlan 21 [some (.ref 0), some (.ref 96), some (.int (nI k)), l3] [] m (am_qn (fun m' => q_Rl 61 (eno r k U) m' ∧ (q_Fl 61 m0 m' ∧ ∃ h, h ≤ 900 ∧ q_Y h (eno r k U)))) := by
  intro r
  induction r with
  | zero =>
    intro k hk U m h0 hR hF hY hA hT2 hA0 hr l3
    have hH : q_Rh 91 T m := hC.2.2.1.eq (fun c c1 c2 => hF.1 c (by omega)) (fun _ _ _ => rfl)
    have hl6 := hI.1.2.1
    have hB := hI.1.1.1
    have hn0 : T.1 153 0 < 7 := hB 153 0
    have b11 : T.1 153 32 < 11 := hB 153 32
    refine w_iload_n (pc' := 22) rfl rfl rfl ?_
    refine w_aload_n (pc' := 23) rfl rfl rfl rfl ?_
    refine w_getI (pc' := 26) rfl rfl rfl sh_96 rfl ?_
    have b1 : T.1 153 32 < 11 := hB 153 (32)
    rw [show m.1 96 4 = nI (T.1 153 32) from hH.2.2.1]
    refine w_ic_ge (t := 131) (pc' := 29) rfl (by decide) rfl (fun h26 => ?_) (fun h26 => ?_)
    · have g2 : (T.1 153 32) ≤ k := (nI_leI (a := (T.1 153 32)) (b := k) (by omega) (by omega)).mp h26
      refine w_vret rfl rfl ?_
      exact ⟨rfl, hR, hF, h0, by omega, hY⟩
    · have g3 : ¬ (T.1 153 32) ≤ k := fun q => h26 ((nI_leI (a := (T.1 153 32)) (b := k) (by omega) (by omega)).mpr q)
      omega
  | succ r ih =>
    intro k hk U m h0 hR hF hY hA hT2 hA0 hr l3
    have hH : q_Rh 91 T m := hC.2.2.1.eq (fun c c1 c2 => hF.1 c (by omega)) (fun _ _ _ => rfl)
    have hl6 := hI.1.2.1
    have hB := hI.1.1.1
    have hn0 : T.1 153 0 < 7 := hB 153 0
    have b11 : T.1 153 32 < 11 := hB 153 32
    have hb5 : T.1 175 k < 16 := hB 175 k
    have hPk : (T.1 174 k = 1 ∨ T.1 174 k = 2) → T.1 175 k < U.1 153 0 := fun z => by rw [hA0]; exact hI.1.2.2.2 k (by omega) z
    refine w_iload_n (pc' := 22) rfl rfl rfl ?_
    refine w_aload_n (pc' := 23) rfl rfl rfl rfl ?_
    refine w_getI (pc' := 26) rfl rfl rfl sh_96 rfl ?_
    have b1 : T.1 153 32 < 11 := hB 153 (32)
    rw [show m.1 96 4 = nI (T.1 153 32) from hH.2.2.1]
    refine w_ic_ge (t := 131) (pc' := 29) rfl (by decide) rfl (fun h26 => ?_) (fun h26 => ?_)
    · have g2 : (T.1 153 32) ≤ k := (nI_leI (a := (T.1 153 32)) (b := k) (by omega) (by omega)).mp h26
      omega
    · have g3 : ¬ (T.1 153 32) ≤ k := fun q => h26 ((nI_leI (a := (T.1 153 32)) (b := k) (by omega) (by omega)).mpr q)
      refine w_iload_n (pc' := 30) rfl rfl rfl ?_
      refine w_aload_n (pc' := 31) rfl rfl rfl rfl ?_
      refine w_getC (pc' := 34) rfl rfl rfl sh_96 rfl ?_
      refine w_ic_ge (t := 131) (pc' := 37) rfl (by decide) rfl (fun h34 => ?_) (fun h34 => ?_)
      · have g4 : 10 ≤ k := (nI_leI (a := 10) (b := k) (by omega) (by omega)).mp h34
        omega
      · have g5 : ¬ 10 ≤ k := fun q => h34 ((nI_leI (a := 10) (b := k) (by omega) (by omega)).mpr q)
        refine w_aload_n (pc' := 38) rfl rfl rfl rfl ?_
        refine w_getC (pc' := 41) rfl rfl rfl sh_96 rfl ?_
        refine w_iload_n (pc' := 42) rfl rfl rfl ?_
        refine w_iald (j := (k)) (pc' := 43) rfl rfl sh_98 rfl (by omega) (by decide) ?_
        skip
        refine w_ist3 (pc' := 44) rfl rfl rfl ?_
        refine w_aload_n (pc' := 45) rfl rfl rfl rfl ?_
        refine w_getC (pc' := 48) rfl rfl rfl sh_96 rfl ?_
        refine w_iload_n (pc' := 49) rfl rfl rfl ?_
        refine w_iald (j := (k)) (pc' := 50) rfl rfl sh_97 rfl (by omega) (by decide) ?_
        rw [show m.1 97 k = nI (T.1 174 k) from (hH.2.2.2.1 k (by omega)).1]
        have b6 : T.1 174 k < 4 := hB 174 (k)
        refine w_tsw (t := 125) rfl rfl (fun hD7 => ?_) (fun z7 hl7 hh7 hz7 => ?_)
        · have eD7_0 : ¬ (T.1 174 k) = 0 := fun q => by rw [nI_toInt (by omega)] at hD7; omega
          have eD7_1 : ¬ (T.1 174 k) = 1 := fun q => by rw [nI_toInt (by omega)] at hD7; omega
          have eD7_2 : ¬ (T.1 174 k) = 2 := fun q => by rw [nI_toInt (by omega)] at hD7; omega
          have eD7_3 : ¬ (T.1 174 k) = 3 := fun q => by rw [nI_toInt (by omega)] at hD7; omega
          refine w_iinc2 (pc' := 128) 1 rfl rfl ic_1 rfl ?_
          rw [nI_inc]
          refine w_goto (pc' := 21) rfl (by decide) ?_
          omega
        · rcases (show z7 = 0 ∨ z7 = 1 ∨ z7 = 2 ∨ z7 = 3 by omega) with rfl | rfl | rfl | rfl
          · refine ⟨30, 80, rfl, rfl, ?_⟩
            have e7 : (T.1 174 k) = 0 := by rw [nI_toInt (by omega)] at hz7; omega
            refine w_aload_n (pc' := 81) rfl rfl rfl rfl ?_
            refine w_getC (pc' := 84) rfl rfl rfl sh_0 rfl ?_
            refine w_iconst (pc' := 85) 1 rfl rfl ic_1 ?_
            refine w_cV1n (pc' := 88) (v_la_hoursGo xs q_L61 (n := 1) (h0 := h0) hR hY (hC.2.1.fl2 hF hT2 (by omega) (by rw [hT2]; exact hl6)) (by rw [hT2]; exact hl6) (by omega)) (by decide) rfl rfl rfl (Nat.le_of_ble_eq_true rfl) (shL q_L61) rfl (fun m1 hm' => ?_)
            obtain ⟨hR_1, hF_1⟩ := hm'
            have hR_1 : q_Rl 61 (f_gh U) m1 := hR_1
            have hF_1 := hF.tr hF_1
            have hAs := f_gh_As hY (by omega)
            refine w_goto (pc' := 125) rfl (by decide) ?_
            refine w_iinc2 (pc' := 128) 1 rfl rfl ic_1 rfl ?_
            rw [nI_inc]
            refine w_goto (pc' := 21) rfl (by decide) ?_
            rw [show eno (r + 1) k U = eno r (k + 1) (f_gh U) from congrArg (eno r (k + 1)) (if_pos (by rw [(hA.2.1 k).1]; omega))]
            exact ih (k + 1) (by omega) (f_gh U) _ (h0 + 1) hR_1 hF_1 (f_gh_Y hY (by omega)) (hA.As hAs) (hAs.1.trans hT2) ((hAs.2.1 153 0 (by omega) (by omega)).trans hA0) (by omega) _
          · refine ⟨41, 91, rfl, rfl, ?_⟩
            have e7 : (T.1 174 k) = 1 := by rw [nI_toInt (by omega)] at hz7; omega
            rw [show m.1 98 k = nI (T.1 175 k) from (hH.2.2.2.1 k (by omega)).2 (by omega)]
            refine w_aload_n (pc' := 92) rfl rfl rfl rfl ?_
            refine w_getC (pc' := 95) rfl rfl rfl sh_0 rfl ?_
            refine w_iload_n (pc' := 96) rfl rfl rfl ?_
            refine w_cV1n (pc' := 99) (v_la_emptySheet xs q_L61 hR hY.1 (p := T.1 175 k) (by omega)) (by decide) rfl rfl rfl (Nat.le_of_ble_eq_true rfl) (shL q_L61) rfl (fun m2 hm' => ?_)
            obtain ⟨hR_2, hF_2⟩ := hm'
            have hF_2 := hF.tr hF_2
            refine w_goto (pc' := 125) rfl (by decide) ?_
            refine w_iinc2 (pc' := 128) 1 rfl rfl ic_1 rfl ?_
            rw [nI_inc]
            refine w_goto (pc' := 21) rfl (by decide) ?_
            rw [show eno (r + 1) k U = eno r (k + 1) (q_Tu U 157 (T.1 175 k) 0) from congrArg (eno r (k + 1)) ((if_neg (by rw [(hA.2.1 k).1]; omega)).trans ((if_pos (by rw [(hA.2.1 k).1]; omega)).trans (congrArg (fun z => q_Tu U 157 z 0) (hA.2.1 k).2)))]
            exact ih (k + 1) (by omega) (q_Tu U 157 (T.1 175 k) 0) _ (h0 + 1) hR_2 hF_2 ((hY.u (c := 157) (k := T.1 175 k) (x := 0) (show 0 < 9 by omega) (by decide) (by decide)).mono) (hA.u (by rw [q_pi_157 (k := T.1 175 k) (by omega)]; omega) (by decide) (by decide) (by decide)) hT2 ((q_Tu_ne (by omega)).trans hA0) (by omega) _
          · refine ⟨52, 102, rfl, rfl, ?_⟩
            have e7 : (T.1 174 k) = 2 := by rw [nI_toInt (by omega)] at hz7; omega
            rw [show m.1 98 k = nI (T.1 175 k) from (hH.2.2.2.1 k (by omega)).2 (by omega)]
            refine w_aload_n (pc' := 103) rfl rfl rfl rfl ?_
            refine w_getC (pc' := 106) rfl rfl rfl sh_0 rfl ?_
            refine w_iload_n (pc' := 107) rfl rfl rfl ?_
            refine w_cV1n (pc' := 110) (v_la_notDone xs q_L61 hR hY.1 (p := T.1 175 k) (by omega)) (by decide) rfl rfl rfl (Nat.le_of_ble_eq_true rfl) (shL q_L61) rfl (fun m3 hm' => ?_)
            obtain ⟨hR_3, hF_3⟩ := hm'
            have hF_3 := hF.tr hF_3
            refine w_goto (pc' := 125) rfl (by decide) ?_
            refine w_iinc2 (pc' := 128) 1 rfl rfl ic_1 rfl ?_
            rw [nI_inc]
            refine w_goto (pc' := 21) rfl (by decide) ?_
            rw [show eno (r + 1) k U = eno r (k + 1) (q_Tu U 158 (T.1 175 k) 0) from congrArg (eno r (k + 1)) ((if_neg (by rw [(hA.2.1 k).1]; omega)).trans ((if_neg (by rw [(hA.2.1 k).1]; omega)).trans ((if_pos (by rw [(hA.2.1 k).1]; omega)).trans (congrArg (fun z => q_Tu U 158 z 0) (hA.2.1 k).2))))]
            exact ih (k + 1) (by omega) (q_Tu U 158 (T.1 175 k) 0) _ (h0 + 1) hR_3 hF_3 ((hY.u (c := 158) (k := T.1 175 k) (x := 0) (show 0 < 2 by omega) (by decide) (by decide)).mono) (hA.u (by rw [q_pi_158 (k := T.1 175 k) (by omega)]; omega) (by decide) (by decide) (by decide)) hT2 ((q_Tu_ne (by omega)).trans hA0) (by omega) _
          · refine ⟨63, 113, rfl, rfl, ?_⟩
            have e7 : (T.1 174 k) = 3 := by rw [nI_toInt (by omega)] at hz7; omega
            rw [show m.1 98 k = nI (T.1 175 k) from (hH.2.2.2.1 k (by omega)).2 (by omega)]
            refine w_aload_n (pc' := 114) rfl rfl rfl rfl ?_
            refine w_getC (pc' := 117) rfl rfl rfl sh_0 rfl ?_
            refine w_iload_n (pc' := 118) rfl rfl rfl ?_
            refine w_iconst (pc' := 119) 0 rfl rfl ic_0 ?_
            refine w_cV2n (pc' := 122) (v_la_setMark xs q_L61 hR hY.1 (c := T.1 175 k) (x := 0) (by omega) (by omega)) (by decide) rfl rfl rfl (Nat.le_of_ble_eq_true rfl) (shL q_L61) rfl (fun m4 hm' => ?_)
            obtain ⟨hR_4, hF_4⟩ := hm'
            have hF_4 := hF.tr hF_4
            refine w_goto (pc' := 125) rfl (by decide) ?_
            refine w_iinc2 (pc' := 128) 1 rfl rfl ic_1 rfl ?_
            rw [nI_inc]
            refine w_goto (pc' := 21) rfl (by decide) ?_
            rw [show eno (r + 1) k U = eno r (k + 1) (q_Tu U 162 (T.1 175 k) 0) from congrArg (eno r (k + 1)) ((if_neg (by rw [(hA.2.1 k).1]; omega)).trans ((if_neg (by rw [(hA.2.1 k).1]; omega)).trans ((if_neg (by rw [(hA.2.1 k).1]; omega)).trans (congrArg (fun z => q_Tu U 162 z 0) (hA.2.1 k).2))))]
            exact ih (k + 1) (by omega) (q_Tu U 162 (T.1 175 k) 0) _ (h0 + 1) hR_4 hF_4 ((hY.u (c := 162) (k := T.1 175 k) (x := 0) (show 0 < 8 by omega) (by decide) (by decide)).mono) (hA.u (by rw [q_pi_162 (k := T.1 175 k) (by omega)]; omega) (by decide) (by decide) (by decide)) hT2 ((q_Tu_ne (by omega)).trans hA0) (by omega) _
set_option maxRecDepth 100000 in
set_option maxHeartbeats 4000000 in
theorem v_tryPlan (xs : List Int32) {T : q_T} {m : am_Mm} (hC : q_Rc T m) (hI : q_I T) : am_V xs 9 109 [.ref 0] m (am_qn (fun m' => q_Rl 61 (f_en T) m' ∧ (q_Fl 61 m m' ∧ ∃ h, h ≤ 900 ∧ q_Y h (f_en T)))) := by
  have hY := hI.1.1
  have hB := hY.1
  have hl6 := hI.1.2.1
  have hn0 : T.1 153 0 < 7 := hB 153 0
  have hF : q_Fl 61 m m := q_Fl.rf
  refine am_V_of ky_109 (Nat.le_of_ble_eq_true rfl) ?_
  show am_P xs 8 k_tryPlan 0 [some (.ref 0), none, none, none] [] m _
  refine w_aload_n (pc' := 1) rfl rfl rfl rfl ?_
  refine w_getC (pc' := 4) rfl rfl rfl sh_0 rfl ?_
  refine w_aload_n (pc' := 5) rfl rfl rfl rfl ?_
  refine w_getC (pc' := 8) rfl rfl rfl sh_0 rfl ?_
  refine w_cV1n (pc' := 11) (v_la_copyFrom xs q_L1 q_L61 (Or.inl (by omega)) (hC.1.fl hF (Or.inl (by omega)) (by omega)) hB) (by decide) rfl rfl rfl (Nat.le_of_ble_eq_true rfl) (shL q_L61) rfl (fun m1 hm' => ?_)
  obtain ⟨hR_1, hF_1⟩ := hm'
  have hF_1 := hF.tr hF_1
  refine w_aload_n (pc' := 12) rfl rfl rfl rfl ?_
  refine w_getC (pc' := 15) rfl rfl rfl sh_0 rfl ?_
  refine w_getC (pc' := 18) rfl rfl rfl sh_91 rfl ?_
  refine w_ast1 (pc' := 19) rfl rfl rfl rfl ?_
  refine w_iconst (pc' := 20) 0 rfl rfl ic_0 ?_
  refine w_ist2 (pc' := 21) rfl rfl rfl ?_
  exact lp_ktry xs hC hI (T.1 153 32) 0 (by omega) T _ 0 hR_1 hF_1 hY q_Ae.rf rfl rfl (by have := hB 153 32; have : T.1 153 32 < 11 := this; omega) none
set_option maxRecDepth 100000 in
set_option maxHeartbeats 4000000 in
theorem v_k_ends (xs : List Int32) {T : q_T} {m : am_Mm} (hC : q_Rc T m) (hI : q_I T) (u : Int32) : am_V xs 11 108 [.ref 0, .int u] m (am_qi (f_ends T u).1 (q_Q (f_ends T u).2 m)) := by
  have hY := hI.1.1
  have hB := hY.1
  have hl6 := hI.1.2.1
  have hn0 : T.1 153 0 < 7 := hB 153 0
  have hF : q_Fl 61 m m := q_Fl.rf
  have hR1 := hC.1
  refine am_V_of ky_108 (Nat.le_of_ble_eq_true rfl) ?_
  show am_P xs 10 k_ends 0 [some (.ref 0), some (.int u)] [] m _
  refine w_iload_n (pc' := 1) rfl rfl rfl ?_
  refine w_if_eq (t := 11) (pc' := 4) rfl (by decide) rfl (fun h1 => ?_) (fun h1 => ?_)
  · obtain rfl : u = nI 0 := h1
    refine w_aload_n (pc' := 12) rfl rfl rfl rfl ?_
    refine w_cV0n (pc' := 15) (v_tryPlan xs hC hI) (by decide) rfl rfl rfl (Nat.le_of_ble_eq_true rfl) sh_0 rfl (fun m1 hm' => ?_)
    obtain ⟨hR_1, hF_1, he, hhe, hYe⟩ := hm'
    refine w_iload_n (pc' := 16) rfl rfl rfl ?_
    refine w_if_ne (t := 29) (pc' := 19) rfl (by decide) rfl (fun h16 => ?_) (fun h16 => ?_)
    · exact absurd h16 (by decide)
    · have g2 : 0 = 0 := (nI_eq (a := 0) (b := 0) (by omega) (by omega)).mp h16
      refine w_aload_n (pc' := 20) rfl rfl rfl rfl ?_
      refine w_getC (pc' := 23) rfl rfl rfl sh_0 rfl ?_
      refine w_getI (pc' := 26) rfl rfl rfl (shL q_L61) rfl ?_
      have b3 : (f_en T).1 153 10 < 65536 := hYe.1 153 (10)
      rw [show m1.1 61 1 = nI ((f_en T).1 153 10) from hR_1.2.1]
      refine w_goto (pc' := 36) rfl (by decide) ?_
      refine w_iret rfl rfl rfl ?_
      have hf : f_ends T (nI 0) = (nI (((f_en T).1 153 10)), T) := by simp [f_ends, nI_0, q_is_0_2, q_is_nI (j := 0) (n := 2) (by omega) (by omega), nI_clamp (show 0 < 2 ^ 31 by omega), eq_true g2]
      rw [hf]
      exact ⟨rfl, hC.Q hI (hF_1.Fq)⟩
  · have hnu0 : ¬ u = 0 := h1
    refine w_iload_n (pc' := 5) rfl rfl rfl ?_
    refine w_iconst (pc' := 6) 1 rfl rfl ic_1 ?_
    refine w_ic_eq (t := 11) (pc' := 9) rfl (by decide) rfl (fun h6 => ?_) (fun h6 => ?_)
    · obtain rfl : u = nI 1 := h6
      refine w_aload_n (pc' := 12) rfl rfl rfl rfl ?_
      refine w_cV0n (pc' := 15) (v_tryPlan xs hC hI) (by decide) rfl rfl rfl (Nat.le_of_ble_eq_true rfl) sh_0 rfl (fun m2 hm' => ?_)
      obtain ⟨hR_2, hF_2, he, hhe, hYe⟩ := hm'
      refine w_iload_n (pc' := 16) rfl rfl rfl ?_
      refine w_if_ne (t := 29) (pc' := 19) rfl (by decide) rfl (fun h16 => ?_) (fun h16 => ?_)
      · have g4 : ¬ 1 = 0 := fun q => h16 ((nI_eq (a := 1) (b := 0) (by omega) (by omega)).mpr q)
        refine w_aload_n (pc' := 30) rfl rfl rfl rfl ?_
        refine w_getC (pc' := 33) rfl rfl rfl sh_0 rfl ?_
        refine w_cV0i (pc' := 36) (v_la_drewOfAll xs q_L61 hR_2 hYe.1) (by decide) rfl rfl rfl (Nat.le_of_ble_eq_true rfl) (shL q_L61) rfl (fun m' hm' => ?_)
        rw [show m' = m2 from hm']
        clear hm' m'
        refine w_iret rfl rfl rfl ?_
        have hf : f_ends T (nI 1) = (nI ((f_od (f_en T))), T) := by simp [f_ends, hnu0, nI_one, q_is_1_2, q_is_nI (j := 1) (n := 2) (by omega) (by omega), nI_clamp (show 1 < 2 ^ 31 by omega), g4]
        rw [hf]
        exact ⟨rfl, hC.Q hI (hF_2.Fq)⟩
      · exact absurd h16 (by decide)
    · have hnu1 : ¬ u = 1 := h6
      refine w_iconst (pc' := 10) (-1) rfl rfl ic_m1 ?_
      refine w_iret rfl rfl rfl ?_
      have hf : f_ends T u = (-1, T) := by simp [f_ends, hnu0, hnu1, q_is_2f hnu0 hnu1]
      rw [hf]
      exact ⟨rfl, hC.Q hI (q_Fq.rf)⟩
theorem win {u : Int32} {a n : Nat} (ha : a < 1000) (hn : n < 1000) (hq : q_is (u - nI a) n = false) (h1 : ¬ u < nI a) (h2 : ¬ nI (a + n) ≤ u) : False := by
  obtain ⟨j, hj, rfl⟩ := nI_of (x := u) (fun z => h1 (Int32.lt_of_lt_of_le z (by
    rw [← nI_0]
    exact (nI_leI (a := 0) (b := a) (by omega) (by omega)).mpr (by omega))))
  have e1 : ¬ j < a := fun z => h1 ((nI_ltI (a := j) (b := a) hj (by omega)).mpr z)
  have e2 : ¬ a + n ≤ j := fun z => h2 ((nI_leI (a := a + n) (b := j) (by omega) hj).mpr z)
  rw [nI_subN (a := j) (b := a) (by omega), q_is_nI (n := n) (by omega) (by omega)] at hq
  exact absurd hq (by decide)
theorem nI_30 {u : Int32} {j : Nat} (h : u - 30 = nI j) : u = nI (j + 30) := by
  rw [← nI_add, ← h]
  exact (Int32.sub_add_cancel u 30).symm
theorem nI_s30 {j : Nat} : nI (j + 30) - 30 = nI j := by rw [← nI_add]; exact Int32.add_sub_cancel _ 30
theorem told3 (u : Int32) : (∃ j, j < 16 ∧ u = nI (j + 10)) ∨ ((q_is (u - 10) 16 = false ∧ ∃ j, j < 16 ∧ u = nI (j + 30)) ∨ (q_is (u - 10) 16 = false ∧ q_is (u - 30) 16 = false)) := by
  rcases hq : q_is (u - 10) 16 with _ | _
  · rcases hp : q_is (u - 30) 16 with _ | _
    · exact Or.inr (Or.inr ⟨rfl, rfl⟩)
    · obtain ⟨j, hj, e⟩ := q_is_of hp (by omega)
      exact Or.inr (Or.inl ⟨rfl, j, hj, nI_30 e⟩)
  · obtain ⟨j, hj, e⟩ := q_is_of hq (by omega)
    exact Or.inl ⟨j, hj, nI_10 e⟩
set_option maxRecDepth 100000 in
set_option maxHeartbeats 4000000 in
theorem v_k_told (xs : List Int32) {T : q_T} {m : am_Mm} (hC : q_Rc T m) (hI : q_I T) (u : Int32) : am_V xs 12 80 [.ref 0, .int u] m (am_qi (f_told T u).1 (q_Q (f_told T u).2 m)) := by
  have hY := hI.1.1
  have hB := hY.1
  have hl6 := hI.1.2.1
  have hn0 : T.1 153 0 < 7 := hB 153 0
  have hF : q_Fl 61 m m := q_Fl.rf
  have hR1 := hC.1
  refine am_V_of ky_80 (Nat.le_of_ble_eq_true rfl) ?_
  show am_P xs 11 k_told 0 [some (.ref 0), some (.int u)] [] m _
  rcases (show (∃ j, j < 16 ∧ u = nI (j + 10)) ∨ ((q_is (u - 10) 16 = false ∧ ∃ j, j < 16 ∧ u = nI (j + 30)) ∨ (q_is (u - 10) 16 = false ∧ q_is (u - 30) 16 = false)) from told3 u) with hcs | hcs | hcs
  · obtain ⟨ju, hju, rfl⟩ := hcs
    refine w_iload_n (pc' := 1) rfl rfl rfl ?_
    refine w_bipush (pc' := 3) 10 rfl rfl bp_10 ?_
    refine w_ic_lt (t := 24) (pc' := 6) rfl (by decide) rfl (fun h3 => ?_) (fun h3 => ?_)
    · have g1 : (ju + 10) < 10 := (nI_ltI (a := (ju + 10)) (b := 10) (by omega) (by omega)).mp h3
      omega
    · have g2 : ¬ (ju + 10) < 10 := fun q => h3 ((nI_ltI (a := (ju + 10)) (b := 10) (by omega) (by omega)).mpr q)
      refine w_iload_n (pc' := 7) rfl rfl rfl ?_
      refine w_bipush (pc' := 9) 26 rfl rfl bp_26 ?_
      refine w_ic_ge (t := 24) (pc' := 12) rfl (by decide) rfl (fun h9 => ?_) (fun h9 => ?_)
      · have g3 : 26 ≤ (ju + 10) := (nI_leI (a := 26) (b := (ju + 10)) (by omega) (by omega)).mp h9
        omega
      · have g4 : ¬ 26 ≤ (ju + 10) := fun q => h9 ((nI_leI (a := 26) (b := (ju + 10)) (by omega) (by omega)).mpr q)
        refine w_aload_n (pc' := 13) rfl rfl rfl rfl ?_
        refine w_getC (pc' := 16) rfl rfl rfl sh_0 rfl ?_
        refine w_iload_n (pc' := 17) rfl rfl rfl ?_
        refine w_bipush (pc' := 19) 10 rfl rfl bp_10 ?_
        refine w_isub (pc' := 20) rfl rfl ?_
        rw [nI_s10]
        refine w_cV1i (pc' := 23) (v_la_markAt xs q_L1 hR1 (i := ju) (by omega)) (by decide) rfl rfl rfl (Nat.le_of_ble_eq_true rfl) (shL q_L1) rfl (fun m' hm' => ?_)
        rw [show m' = m from hm']
        clear hm' m'
        refine w_iret rfl rfl rfl ?_
        have hf : f_told T (nI (ju + 10)) = (nI (T.1 162 ju), T) := by unfold f_told; rw [if_pos (by rw [nI_s10]; exact q_is_nI hju (by omega)), nI_clamp (by omega), Nat.add_sub_cancel]
        rw [hf]
        exact ⟨rfl, hC.Q hI (q_Fq.rf)⟩
  · obtain ⟨hN10, ju, hju, rfl⟩ := hcs
    refine w_iload_n (pc' := 1) rfl rfl rfl ?_
    refine w_bipush (pc' := 3) 10 rfl rfl bp_10 ?_
    refine w_ic_lt (t := 24) (pc' := 6) rfl (by decide) rfl (fun h3 => ?_) (fun h3 => ?_)
    · have g5 : (ju + 30) < 10 := (nI_ltI (a := (ju + 30)) (b := 10) (by omega) (by omega)).mp h3
      omega
    · have g6 : ¬ (ju + 30) < 10 := fun q => h3 ((nI_ltI (a := (ju + 30)) (b := 10) (by omega) (by omega)).mpr q)
      refine w_iload_n (pc' := 7) rfl rfl rfl ?_
      refine w_bipush (pc' := 9) 26 rfl rfl bp_26 ?_
      refine w_ic_ge (t := 24) (pc' := 12) rfl (by decide) rfl (fun h9 => ?_) (fun h9 => ?_)
      · have g7 : 26 ≤ (ju + 30) := (nI_leI (a := 26) (b := (ju + 30)) (by omega) (by omega)).mp h9
        refine w_iload_n (pc' := 25) rfl rfl rfl ?_
        refine w_bipush (pc' := 27) 30 rfl rfl bp_30 ?_
        refine w_ic_lt (t := 45) (pc' := 30) rfl (by decide) rfl (fun h27 => ?_) (fun h27 => ?_)
        · have g8 : (ju + 30) < 30 := (nI_ltI (a := (ju + 30)) (b := 30) (by omega) (by omega)).mp h27
          omega
        · have g9 : ¬ (ju + 30) < 30 := fun q => h27 ((nI_ltI (a := (ju + 30)) (b := 30) (by omega) (by omega)).mpr q)
          refine w_iload_n (pc' := 31) rfl rfl rfl ?_
          refine w_bipush (pc' := 33) 46 rfl rfl bp_46 ?_
          refine w_ic_ge (t := 45) (pc' := 36) rfl (by decide) rfl (fun h33 => ?_) (fun h33 => ?_)
          · have g10 : 46 ≤ (ju + 30) := (nI_leI (a := 46) (b := (ju + 30)) (by omega) (by omega)).mp h33
            omega
          · have g11 : ¬ 46 ≤ (ju + 30) := fun q => h33 ((nI_leI (a := 46) (b := (ju + 30)) (by omega) (by omega)).mpr q)
            refine w_aload_n (pc' := 37) rfl rfl rfl rfl ?_
            refine w_iload_n (pc' := 38) rfl rfl rfl ?_
            refine w_bipush (pc' := 40) 30 rfl rfl bp_30 ?_
            refine w_isub (pc' := 41) rfl rfl ?_
            rw [nI_s30]
            refine w_cV1i (pc' := 44) (v_kmarksOf xs hC hI (c := ju) (by omega)) (by decide) rfl rfl rfl (Nat.le_of_ble_eq_true rfl) sh_0 rfl (fun m1 hm' => ?_)
            have hF_1 := hm'
            refine w_iret rfl rfl rfl ?_
            have hf : f_told T (nI (ju + 30)) = ((bto T 162 ju 8 0 0), T) := by unfold f_told; rw [if_neg (by rw [hN10]; decide), if_pos (by rw [nI_s30]; exact q_is_nI hju (by omega)), nI_clamp (by omega), Nat.add_sub_cancel]
            rw [hf]
            exact ⟨rfl, hC.Q hI (hF_1.Fq)⟩
      · have g12 : ¬ 26 ≤ (ju + 30) := fun q => h9 ((nI_leI (a := 26) (b := (ju + 30)) (by omega) (by omega)).mpr q)
        omega
  · obtain ⟨hN10, hN30⟩ := hcs
    refine w_iload_n (pc' := 1) rfl rfl rfl ?_
    refine w_bipush (pc' := 3) 10 rfl rfl bp_10 ?_
    refine w_ic_lt (t := 24) (pc' := 6) rfl (by decide) rfl (fun h3 => ?_) (fun h3 => ?_)
    · refine w_iload_n (pc' := 25) rfl rfl rfl ?_
      refine w_bipush (pc' := 27) 30 rfl rfl bp_30 ?_
      refine w_ic_lt (t := 45) (pc' := 30) rfl (by decide) rfl (fun h27 => ?_) (fun h27 => ?_)
      · refine w_iload_n (pc' := 46) rfl rfl rfl ?_
        refine w_tsw (t := 117) rfl rfl (fun hD13 => ?_) (fun z13 hl13 hh13 hz13 => ?_)
        · have eD13_0 : ¬ u = 0 := fun q => by rw [q] at hD13; revert hD13; decide
          have eD13_1 : ¬ u = 1 := fun q => by rw [q] at hD13; revert hD13; decide
          have eD13_2 : ¬ u = 2 := fun q => by rw [q] at hD13; revert hD13; decide
          have eD13_3 : ¬ u = 3 := fun q => by rw [q] at hD13; revert hD13; decide
          have eD13_4 : ¬ u = 4 := fun q => by rw [q] at hD13; revert hD13; decide
          refine w_iconst (pc' := 118) (-1) rfl rfl ic_m1 ?_
          refine w_iret rfl rfl rfl ?_
          have hf : f_told T u = (-1, T) := by unfold f_told; rw [if_neg (by rw [hN10]; decide), if_neg (by rw [hN30]; decide), if_neg eD13_0, if_neg eD13_1, if_neg eD13_2, if_neg eD13_3, if_neg eD13_4]
          rw [hf]
          exact ⟨rfl, hC.Q hI (q_Fq.rf)⟩
        · rcases (show z13 = 0 ∨ z13 = 1 ∨ z13 = 2 ∨ z13 = 3 ∨ z13 = 4 by omega) with rfl | rfl | rfl | rfl | rfl
          · refine ⟨34, 80, rfl, rfl, ?_⟩
            have e13 : u = 0 := ts_eq hz13 (by decide)
            refine w_aload_n (pc' := 81) rfl rfl rfl rfl ?_
            refine w_getC (pc' := 84) rfl rfl rfl sh_0 rfl ?_
            refine w_getI (pc' := 87) rfl rfl rfl (shL q_L1) rfl ?_
            rw [show m.1 1 2 = nI (T.1 153 11) from hC.1.2.2.1]
            refine w_iret rfl rfl rfl ?_
            have hf : f_told T u = (nI (T.1 153 11), T) := by unfold f_told; rw [if_neg (by rw [hN10]; decide), if_neg (by rw [hN30]; decide), e13]; rfl
            rw [hf]
            exact ⟨rfl, hC.Q hI (q_Fq.rf)⟩
          · refine ⟨42, 88, rfl, rfl, ?_⟩
            have e13 : u = 1 := ts_eq hz13 (by decide)
            refine w_aload_n (pc' := 89) rfl rfl rfl rfl ?_
            refine w_getC (pc' := 92) rfl rfl rfl sh_0 rfl ?_
            refine w_cV0i (pc' := 95) (v_la_know xs q_L1 hR1 hB hY.2.1 hC.2.1 hl6) (by decide) rfl rfl rfl (Nat.le_of_ble_eq_true rfl) (shL q_L1) rfl (fun m' hm' => ?_)
            rw [show m' = m from hm']
            clear hm' m'
            refine w_iret rfl rfl rfl ?_
            have hf : f_told T u = (nI (f_know T), T) := by unfold f_told; rw [if_neg (by rw [hN10]; decide), if_neg (by rw [hN30]; decide), e13]; rfl
            rw [hf]
            exact ⟨rfl, hC.Q hI (q_Fq.rf)⟩
          · refine ⟨50, 96, rfl, rfl, ?_⟩
            have e13 : u = 2 := ts_eq hz13 (by decide)
            refine w_aload_n (pc' := 97) rfl rfl rfl rfl ?_
            refine w_getC (pc' := 100) rfl rfl rfl sh_0 rfl ?_
            refine w_getI (pc' := 103) rfl rfl rfl (shL q_L1) rfl ?_
            rw [show m.1 1 1 = nI (T.1 153 10) from hC.1.2.1]
            refine w_iret rfl rfl rfl ?_
            have hf : f_told T u = (nI (T.1 153 10), T) := by unfold f_told; rw [if_neg (by rw [hN10]; decide), if_neg (by rw [hN30]; decide), e13]; rfl
            rw [hf]
            exact ⟨rfl, hC.Q hI (q_Fq.rf)⟩
          · refine ⟨58, 104, rfl, rfl, ?_⟩
            have e13 : u = 3 := ts_eq hz13 (by decide)
            refine w_aload_n (pc' := 105) rfl rfl rfl rfl ?_
            refine w_getC (pc' := 108) rfl rfl rfl sh_0 rfl ?_
            refine w_cV0i (pc' := 111) (v_la_doneBits xs q_L1 hR1 hB) (by decide) rfl rfl rfl (Nat.le_of_ble_eq_true rfl) (shL q_L1) rfl (fun m' hm' => ?_)
            rw [show m' = m from hm']
            clear hm' m'
            refine w_iret rfl rfl rfl ?_
            have hf : f_told T u = ((f_ad T), T) := by unfold f_told; rw [if_neg (by rw [hN10]; decide), if_neg (by rw [hN30]; decide), e13]; rfl
            rw [hf]
            exact ⟨rfl, hC.Q hI (q_Fq.rf)⟩
          · refine ⟨66, 112, rfl, rfl, ?_⟩
            have e13 : u = 4 := ts_eq hz13 (by decide)
            refine w_aload_n (pc' := 113) rfl rfl rfl rfl ?_
            refine w_cV0i (pc' := 116) (v_kwhole xs hC hI) (by decide) rfl rfl rfl (Nat.le_of_ble_eq_true rfl) sh_0 rfl (fun m2 hm' => ?_)
            have hF_2 := hm'
            refine w_iret rfl rfl rfl ?_
            have hf : f_told T u = ((f_who T), T) := by unfold f_told; rw [if_neg (by rw [hN10]; decide), if_neg (by rw [hN30]; decide), e13]; rfl
            rw [hf]
            exact ⟨rfl, hC.Q hI (hF_2.Fq)⟩
      · refine w_iload_n (pc' := 31) rfl rfl rfl ?_
        refine w_bipush (pc' := 33) 46 rfl rfl bp_46 ?_
        refine w_ic_ge (t := 45) (pc' := 36) rfl (by decide) rfl (fun h33 => ?_) (fun h33 => ?_)
        · refine w_iload_n (pc' := 46) rfl rfl rfl ?_
          refine w_tsw (t := 117) rfl rfl (fun hD14 => ?_) (fun z14 hl14 hh14 hz14 => ?_)
          · have eD14_0 : ¬ u = 0 := fun q => by rw [q] at hD14; revert hD14; decide
            have eD14_1 : ¬ u = 1 := fun q => by rw [q] at hD14; revert hD14; decide
            have eD14_2 : ¬ u = 2 := fun q => by rw [q] at hD14; revert hD14; decide
            have eD14_3 : ¬ u = 3 := fun q => by rw [q] at hD14; revert hD14; decide
            have eD14_4 : ¬ u = 4 := fun q => by rw [q] at hD14; revert hD14; decide
            refine w_iconst (pc' := 118) (-1) rfl rfl ic_m1 ?_
            refine w_iret rfl rfl rfl ?_
            have hf : f_told T u = (-1, T) := by unfold f_told; rw [if_neg (by rw [hN10]; decide), if_neg (by rw [hN30]; decide), if_neg eD14_0, if_neg eD14_1, if_neg eD14_2, if_neg eD14_3, if_neg eD14_4]
            rw [hf]
            exact ⟨rfl, hC.Q hI (q_Fq.rf)⟩
          · rcases (show z14 = 0 ∨ z14 = 1 ∨ z14 = 2 ∨ z14 = 3 ∨ z14 = 4 by omega) with rfl | rfl | rfl | rfl | rfl
            · refine ⟨34, 80, rfl, rfl, ?_⟩
              have e14 : u = 0 := ts_eq hz14 (by decide)
              refine w_aload_n (pc' := 81) rfl rfl rfl rfl ?_
              refine w_getC (pc' := 84) rfl rfl rfl sh_0 rfl ?_
              refine w_getI (pc' := 87) rfl rfl rfl (shL q_L1) rfl ?_
              rw [show m.1 1 2 = nI (T.1 153 11) from hC.1.2.2.1]
              refine w_iret rfl rfl rfl ?_
              have hf : f_told T u = (nI (T.1 153 11), T) := by unfold f_told; rw [if_neg (by rw [hN10]; decide), if_neg (by rw [hN30]; decide), e14]; rfl
              rw [hf]
              exact ⟨rfl, hC.Q hI (q_Fq.rf)⟩
            · refine ⟨42, 88, rfl, rfl, ?_⟩
              have e14 : u = 1 := ts_eq hz14 (by decide)
              refine w_aload_n (pc' := 89) rfl rfl rfl rfl ?_
              refine w_getC (pc' := 92) rfl rfl rfl sh_0 rfl ?_
              refine w_cV0i (pc' := 95) (v_la_know xs q_L1 hR1 hB hY.2.1 hC.2.1 hl6) (by decide) rfl rfl rfl (Nat.le_of_ble_eq_true rfl) (shL q_L1) rfl (fun m' hm' => ?_)
              rw [show m' = m from hm']
              clear hm' m'
              refine w_iret rfl rfl rfl ?_
              have hf : f_told T u = (nI (f_know T), T) := by unfold f_told; rw [if_neg (by rw [hN10]; decide), if_neg (by rw [hN30]; decide), e14]; rfl
              rw [hf]
              exact ⟨rfl, hC.Q hI (q_Fq.rf)⟩
            · refine ⟨50, 96, rfl, rfl, ?_⟩
              have e14 : u = 2 := ts_eq hz14 (by decide)
              refine w_aload_n (pc' := 97) rfl rfl rfl rfl ?_
              refine w_getC (pc' := 100) rfl rfl rfl sh_0 rfl ?_
              refine w_getI (pc' := 103) rfl rfl rfl (shL q_L1) rfl ?_
              rw [show m.1 1 1 = nI (T.1 153 10) from hC.1.2.1]
              refine w_iret rfl rfl rfl ?_
              have hf : f_told T u = (nI (T.1 153 10), T) := by unfold f_told; rw [if_neg (by rw [hN10]; decide), if_neg (by rw [hN30]; decide), e14]; rfl
              rw [hf]
              exact ⟨rfl, hC.Q hI (q_Fq.rf)⟩
            · refine ⟨58, 104, rfl, rfl, ?_⟩
              have e14 : u = 3 := ts_eq hz14 (by decide)
              refine w_aload_n (pc' := 105) rfl rfl rfl rfl ?_
              refine w_getC (pc' := 108) rfl rfl rfl sh_0 rfl ?_
              refine w_cV0i (pc' := 111) (v_la_doneBits xs q_L1 hR1 hB) (by decide) rfl rfl rfl (Nat.le_of_ble_eq_true rfl) (shL q_L1) rfl (fun m' hm' => ?_)
              rw [show m' = m from hm']
              clear hm' m'
              refine w_iret rfl rfl rfl ?_
              have hf : f_told T u = ((f_ad T), T) := by unfold f_told; rw [if_neg (by rw [hN10]; decide), if_neg (by rw [hN30]; decide), e14]; rfl
              rw [hf]
              exact ⟨rfl, hC.Q hI (q_Fq.rf)⟩
            · refine ⟨66, 112, rfl, rfl, ?_⟩
              have e14 : u = 4 := ts_eq hz14 (by decide)
              refine w_aload_n (pc' := 113) rfl rfl rfl rfl ?_
              refine w_cV0i (pc' := 116) (v_kwhole xs hC hI) (by decide) rfl rfl rfl (Nat.le_of_ble_eq_true rfl) sh_0 rfl (fun m3 hm' => ?_)
              have hF_3 := hm'
              refine w_iret rfl rfl rfl ?_
              have hf : f_told T u = ((f_who T), T) := by unfold f_told; rw [if_neg (by rw [hN10]; decide), if_neg (by rw [hN30]; decide), e14]; rfl
              rw [hf]
              exact ⟨rfl, hC.Q hI (hF_3.Fq)⟩
        · exact (win (a := 30) (n := 16) (by omega) (by omega) hN30 h27 h33).elim
    · refine w_iload_n (pc' := 7) rfl rfl rfl ?_
      refine w_bipush (pc' := 9) 26 rfl rfl bp_26 ?_
      refine w_ic_ge (t := 24) (pc' := 12) rfl (by decide) rfl (fun h9 => ?_) (fun h9 => ?_)
      · refine w_iload_n (pc' := 25) rfl rfl rfl ?_
        refine w_bipush (pc' := 27) 30 rfl rfl bp_30 ?_
        refine w_ic_lt (t := 45) (pc' := 30) rfl (by decide) rfl (fun h27 => ?_) (fun h27 => ?_)
        · refine w_iload_n (pc' := 46) rfl rfl rfl ?_
          refine w_tsw (t := 117) rfl rfl (fun hD15 => ?_) (fun z15 hl15 hh15 hz15 => ?_)
          · have eD15_0 : ¬ u = 0 := fun q => by rw [q] at hD15; revert hD15; decide
            have eD15_1 : ¬ u = 1 := fun q => by rw [q] at hD15; revert hD15; decide
            have eD15_2 : ¬ u = 2 := fun q => by rw [q] at hD15; revert hD15; decide
            have eD15_3 : ¬ u = 3 := fun q => by rw [q] at hD15; revert hD15; decide
            have eD15_4 : ¬ u = 4 := fun q => by rw [q] at hD15; revert hD15; decide
            refine w_iconst (pc' := 118) (-1) rfl rfl ic_m1 ?_
            refine w_iret rfl rfl rfl ?_
            have hf : f_told T u = (-1, T) := by unfold f_told; rw [if_neg (by rw [hN10]; decide), if_neg (by rw [hN30]; decide), if_neg eD15_0, if_neg eD15_1, if_neg eD15_2, if_neg eD15_3, if_neg eD15_4]
            rw [hf]
            exact ⟨rfl, hC.Q hI (q_Fq.rf)⟩
          · rcases (show z15 = 0 ∨ z15 = 1 ∨ z15 = 2 ∨ z15 = 3 ∨ z15 = 4 by omega) with rfl | rfl | rfl | rfl | rfl
            · refine ⟨34, 80, rfl, rfl, ?_⟩
              have e15 : u = 0 := ts_eq hz15 (by decide)
              refine w_aload_n (pc' := 81) rfl rfl rfl rfl ?_
              refine w_getC (pc' := 84) rfl rfl rfl sh_0 rfl ?_
              refine w_getI (pc' := 87) rfl rfl rfl (shL q_L1) rfl ?_
              rw [show m.1 1 2 = nI (T.1 153 11) from hC.1.2.2.1]
              refine w_iret rfl rfl rfl ?_
              have hf : f_told T u = (nI (T.1 153 11), T) := by unfold f_told; rw [if_neg (by rw [hN10]; decide), if_neg (by rw [hN30]; decide), e15]; rfl
              rw [hf]
              exact ⟨rfl, hC.Q hI (q_Fq.rf)⟩
            · refine ⟨42, 88, rfl, rfl, ?_⟩
              have e15 : u = 1 := ts_eq hz15 (by decide)
              refine w_aload_n (pc' := 89) rfl rfl rfl rfl ?_
              refine w_getC (pc' := 92) rfl rfl rfl sh_0 rfl ?_
              refine w_cV0i (pc' := 95) (v_la_know xs q_L1 hR1 hB hY.2.1 hC.2.1 hl6) (by decide) rfl rfl rfl (Nat.le_of_ble_eq_true rfl) (shL q_L1) rfl (fun m' hm' => ?_)
              rw [show m' = m from hm']
              clear hm' m'
              refine w_iret rfl rfl rfl ?_
              have hf : f_told T u = (nI (f_know T), T) := by unfold f_told; rw [if_neg (by rw [hN10]; decide), if_neg (by rw [hN30]; decide), e15]; rfl
              rw [hf]
              exact ⟨rfl, hC.Q hI (q_Fq.rf)⟩
            · refine ⟨50, 96, rfl, rfl, ?_⟩
              have e15 : u = 2 := ts_eq hz15 (by decide)
              refine w_aload_n (pc' := 97) rfl rfl rfl rfl ?_
              refine w_getC (pc' := 100) rfl rfl rfl sh_0 rfl ?_
              refine w_getI (pc' := 103) rfl rfl rfl (shL q_L1) rfl ?_
              rw [show m.1 1 1 = nI (T.1 153 10) from hC.1.2.1]
              refine w_iret rfl rfl rfl ?_
              have hf : f_told T u = (nI (T.1 153 10), T) := by unfold f_told; rw [if_neg (by rw [hN10]; decide), if_neg (by rw [hN30]; decide), e15]; rfl
              rw [hf]
              exact ⟨rfl, hC.Q hI (q_Fq.rf)⟩
            · refine ⟨58, 104, rfl, rfl, ?_⟩
              have e15 : u = 3 := ts_eq hz15 (by decide)
              refine w_aload_n (pc' := 105) rfl rfl rfl rfl ?_
              refine w_getC (pc' := 108) rfl rfl rfl sh_0 rfl ?_
              refine w_cV0i (pc' := 111) (v_la_doneBits xs q_L1 hR1 hB) (by decide) rfl rfl rfl (Nat.le_of_ble_eq_true rfl) (shL q_L1) rfl (fun m' hm' => ?_)
              rw [show m' = m from hm']
              clear hm' m'
              refine w_iret rfl rfl rfl ?_
              have hf : f_told T u = ((f_ad T), T) := by unfold f_told; rw [if_neg (by rw [hN10]; decide), if_neg (by rw [hN30]; decide), e15]; rfl
              rw [hf]
              exact ⟨rfl, hC.Q hI (q_Fq.rf)⟩
            · refine ⟨66, 112, rfl, rfl, ?_⟩
              have e15 : u = 4 := ts_eq hz15 (by decide)
              refine w_aload_n (pc' := 113) rfl rfl rfl rfl ?_
              refine w_cV0i (pc' := 116) (v_kwhole xs hC hI) (by decide) rfl rfl rfl (Nat.le_of_ble_eq_true rfl) sh_0 rfl (fun m4 hm' => ?_)
              have hF_4 := hm'
              refine w_iret rfl rfl rfl ?_
              have hf : f_told T u = ((f_who T), T) := by unfold f_told; rw [if_neg (by rw [hN10]; decide), if_neg (by rw [hN30]; decide), e15]; rfl
              rw [hf]
              exact ⟨rfl, hC.Q hI (hF_4.Fq)⟩
        · refine w_iload_n (pc' := 31) rfl rfl rfl ?_
          refine w_bipush (pc' := 33) 46 rfl rfl bp_46 ?_
          refine w_ic_ge (t := 45) (pc' := 36) rfl (by decide) rfl (fun h33 => ?_) (fun h33 => ?_)
          · refine w_iload_n (pc' := 46) rfl rfl rfl ?_
            refine w_tsw (t := 117) rfl rfl (fun hD16 => ?_) (fun z16 hl16 hh16 hz16 => ?_)
            · have eD16_0 : ¬ u = 0 := fun q => by rw [q] at hD16; revert hD16; decide
              have eD16_1 : ¬ u = 1 := fun q => by rw [q] at hD16; revert hD16; decide
              have eD16_2 : ¬ u = 2 := fun q => by rw [q] at hD16; revert hD16; decide
              have eD16_3 : ¬ u = 3 := fun q => by rw [q] at hD16; revert hD16; decide
              have eD16_4 : ¬ u = 4 := fun q => by rw [q] at hD16; revert hD16; decide
              refine w_iconst (pc' := 118) (-1) rfl rfl ic_m1 ?_
              refine w_iret rfl rfl rfl ?_
              have hf : f_told T u = (-1, T) := by unfold f_told; rw [if_neg (by rw [hN10]; decide), if_neg (by rw [hN30]; decide), if_neg eD16_0, if_neg eD16_1, if_neg eD16_2, if_neg eD16_3, if_neg eD16_4]
              rw [hf]
              exact ⟨rfl, hC.Q hI (q_Fq.rf)⟩
            · rcases (show z16 = 0 ∨ z16 = 1 ∨ z16 = 2 ∨ z16 = 3 ∨ z16 = 4 by omega) with rfl | rfl | rfl | rfl | rfl
              · refine ⟨34, 80, rfl, rfl, ?_⟩
                have e16 : u = 0 := ts_eq hz16 (by decide)
                refine w_aload_n (pc' := 81) rfl rfl rfl rfl ?_
                refine w_getC (pc' := 84) rfl rfl rfl sh_0 rfl ?_
                refine w_getI (pc' := 87) rfl rfl rfl (shL q_L1) rfl ?_
                rw [show m.1 1 2 = nI (T.1 153 11) from hC.1.2.2.1]
                refine w_iret rfl rfl rfl ?_
                have hf : f_told T u = (nI (T.1 153 11), T) := by unfold f_told; rw [if_neg (by rw [hN10]; decide), if_neg (by rw [hN30]; decide), e16]; rfl
                rw [hf]
                exact ⟨rfl, hC.Q hI (q_Fq.rf)⟩
              · refine ⟨42, 88, rfl, rfl, ?_⟩
                have e16 : u = 1 := ts_eq hz16 (by decide)
                refine w_aload_n (pc' := 89) rfl rfl rfl rfl ?_
                refine w_getC (pc' := 92) rfl rfl rfl sh_0 rfl ?_
                refine w_cV0i (pc' := 95) (v_la_know xs q_L1 hR1 hB hY.2.1 hC.2.1 hl6) (by decide) rfl rfl rfl (Nat.le_of_ble_eq_true rfl) (shL q_L1) rfl (fun m' hm' => ?_)
                rw [show m' = m from hm']
                clear hm' m'
                refine w_iret rfl rfl rfl ?_
                have hf : f_told T u = (nI (f_know T), T) := by unfold f_told; rw [if_neg (by rw [hN10]; decide), if_neg (by rw [hN30]; decide), e16]; rfl
                rw [hf]
                exact ⟨rfl, hC.Q hI (q_Fq.rf)⟩
              · refine ⟨50, 96, rfl, rfl, ?_⟩
                have e16 : u = 2 := ts_eq hz16 (by decide)
                refine w_aload_n (pc' := 97) rfl rfl rfl rfl ?_
                refine w_getC (pc' := 100) rfl rfl rfl sh_0 rfl ?_
                refine w_getI (pc' := 103) rfl rfl rfl (shL q_L1) rfl ?_
                rw [show m.1 1 1 = nI (T.1 153 10) from hC.1.2.1]
                refine w_iret rfl rfl rfl ?_
                have hf : f_told T u = (nI (T.1 153 10), T) := by unfold f_told; rw [if_neg (by rw [hN10]; decide), if_neg (by rw [hN30]; decide), e16]; rfl
                rw [hf]
                exact ⟨rfl, hC.Q hI (q_Fq.rf)⟩
              · refine ⟨58, 104, rfl, rfl, ?_⟩
                have e16 : u = 3 := ts_eq hz16 (by decide)
                refine w_aload_n (pc' := 105) rfl rfl rfl rfl ?_
                refine w_getC (pc' := 108) rfl rfl rfl sh_0 rfl ?_
                refine w_cV0i (pc' := 111) (v_la_doneBits xs q_L1 hR1 hB) (by decide) rfl rfl rfl (Nat.le_of_ble_eq_true rfl) (shL q_L1) rfl (fun m' hm' => ?_)
                rw [show m' = m from hm']
                clear hm' m'
                refine w_iret rfl rfl rfl ?_
                have hf : f_told T u = ((f_ad T), T) := by unfold f_told; rw [if_neg (by rw [hN10]; decide), if_neg (by rw [hN30]; decide), e16]; rfl
                rw [hf]
                exact ⟨rfl, hC.Q hI (q_Fq.rf)⟩
              · refine ⟨66, 112, rfl, rfl, ?_⟩
                have e16 : u = 4 := ts_eq hz16 (by decide)
                refine w_aload_n (pc' := 113) rfl rfl rfl rfl ?_
                refine w_cV0i (pc' := 116) (v_kwhole xs hC hI) (by decide) rfl rfl rfl (Nat.le_of_ble_eq_true rfl) sh_0 rfl (fun m5 hm' => ?_)
                have hF_5 := hm'
                refine w_iret rfl rfl rfl ?_
                have hf : f_told T u = ((f_who T), T) := by unfold f_told; rw [if_neg (by rw [hN10]; decide), if_neg (by rw [hN30]; decide), e16]; rfl
                rw [hf]
                exact ⟨rfl, hC.Q hI (hF_5.Fq)⟩
          · exact (win (a := 30) (n := 16) (by omega) (by omega) hN30 h27 h33).elim
      · exact (win (a := 10) (n := 16) (by omega) (by omega) hN10 h3 h9).elim
set_option maxRecDepth 100000 in
set_option maxHeartbeats 4000000 in
theorem v_k_of (xs : List Int32) {T : q_T} {m : am_Mm} (hC : q_Rc T m) (hI : q_I T) (d : Int32) (u : Int32) : am_V xs 12 15 [.ref 0, .int d, .int u] m (am_qi (f_of T d u).1 (q_Q (f_of T d u).2 m)) := by
  have hY := hI.1.1
  have hB := hY.1
  have hl6 := hI.1.2.1
  have hn0 : T.1 153 0 < 7 := hB 153 0
  have hF : q_Fl 61 m m := q_Fl.rf
  have hR1 := hC.1
  refine am_V_of ky_15 (Nat.le_of_ble_eq_true rfl) ?_
  show am_P xs 11 k_of 0 [some (.ref 0), some (.int d), some (.int u), none] [] m _
  rcases hqb : q_is d (T.1 153 0) with _ | _
  · have hqd : q_is d (T.1 153 0) = false := hqb
    refine w_aload_n (pc' := 1) rfl rfl rfl rfl ?_
    refine w_getC (pc' := 4) rfl rfl rfl sh_0 rfl ?_
    refine w_iload_n (pc' := 5) rfl rfl rfl ?_
    refine w_cV1a (pc' := 8) (v_la_drawerN xs q_L1 hR1 hB hqd) (by decide) rfl rfl rfl (Nat.le_of_ble_eq_true rfl) (shL q_L1) rfl (fun m' hm' => ?_)
    rw [show m' = m from hm']
    clear hm' m'
    refine w_ast3 (pc' := 9) rfl rfl rfl rfl ?_
    refine w_aload_n (pc' := 10) rfl rfl rfl rfl ?_
    refine w_ifnonnullN (pc' := 13) rfl rfl ?_
    refine w_sipush (pc' := 16) (-10001) rfl rfl sp_m10001 ?_
    refine w_iret rfl rfl rfl ?_
    have hf : f_of T d u = (-10001, T) := by simp [f_of, hqd, nI_0, nI_one]
    rw [hf]
    exact ⟨rfl, hC.Q hI (q_Fq.rf)⟩
  · obtain ⟨jd, hjd, rfl⟩ := q_is_of hqb (by omega)
    refine w_aload_n (pc' := 1) rfl rfl rfl rfl ?_
    refine w_getC (pc' := 4) rfl rfl rfl sh_0 rfl ?_
    refine w_iload_n (pc' := 5) rfl rfl rfl ?_
    refine w_cV1a (pc' := 8) (v_la_drawerS xs q_L1 hR1 hB (p := jd) (by omega)) (by decide) rfl rfl rfl (Nat.le_of_ble_eq_true rfl) (shL q_L1) rfl (fun m' hm' => ?_)
    rw [show m' = m from hm']
    clear hm' m'
    refine w_ast3 (pc' := 9) rfl rfl rfl rfl ?_
    refine w_aload_n (pc' := 10) rfl rfl rfl rfl ?_
    refine w_ifnonnullR (pc' := 17) rfl (by decide) (by omega) ?_
    refine w_iload_n (pc' := 18) rfl rfl rfl ?_
    refine w_tsw (t := 169) rfl rfl (fun hD1 => ?_) (fun z1 hl1 hh1 hz1 => ?_)
    · have eD1_0 : ¬ u = 0 := fun q => by rw [q] at hD1; revert hD1; decide
      have eD1_1 : ¬ u = 1 := fun q => by rw [q] at hD1; revert hD1; decide
      have eD1_2 : ¬ u = 2 := fun q => by rw [q] at hD1; revert hD1; decide
      have eD1_3 : ¬ u = 3 := fun q => by rw [q] at hD1; revert hD1; decide
      have eD1_4 : ¬ u = 4 := fun q => by rw [q] at hD1; revert hD1; decide
      have eD1_5 : ¬ u = 5 := fun q => by rw [q] at hD1; revert hD1; decide
      have eD1_6 : ¬ u = 6 := fun q => by rw [q] at hD1; revert hD1; decide
      have eD1_7 : ¬ u = 7 := fun q => by rw [q] at hD1; revert hD1; decide
      have eD1_8 : ¬ u = 8 := fun q => by rw [q] at hD1; revert hD1; decide
      have eD1_9 : ¬ u = 9 := fun q => by rw [q] at hD1; revert hD1; decide
      have eD1_10 : ¬ u = 10 := fun q => by rw [q] at hD1; revert hD1; decide
      have eD1_11 : ¬ u = 11 := fun q => by rw [q] at hD1; revert hD1; decide
      refine w_sipush (pc' := 172) (-10001) rfl rfl sp_m10001 ?_
      refine w_iret rfl rfl rfl ?_
      have hf : f_of T (nI jd) u = (-10001, T) := by simp [f_of, q_is_nI (n := T.1 153 0) hjd (by omega), nI_clamp (show jd < 2 ^ 31 by omega), eD1_0, eD1_1, eD1_2, eD1_3, eD1_4, eD1_5, eD1_6, eD1_7, eD1_8, eD1_9, eD1_10, eD1_11, nI_0, nI_one]
      rw [hf]
      exact ⟨rfl, hC.Q hI (q_Fq.rf)⟩
    · rcases (show z1 = 0 ∨ z1 = 1 ∨ z1 = 2 ∨ z1 = 3 ∨ z1 = 4 ∨ z1 = 5 ∨ z1 = 6 ∨ z1 = 7 ∨ z1 = 8 ∨ z1 = 9 ∨ z1 = 10 ∨ z1 = 11 by omega) with rfl | rfl | rfl | rfl | rfl | rfl | rfl | rfl | rfl | rfl | rfl | rfl
      · refine ⟨62, 80, rfl, rfl, ?_⟩
        have e1 : u = 0 := ts_eq hz1 (by decide)
        refine w_aload_n (pc' := 81) rfl rfl rfl rfl ?_
        refine w_getI (pc' := 84) rfl rfl rfl (shD q_L1 (p := jd) (by omega)) rfl ?_
        have b2 : T.1 154 jd < 7 := hB 154 (jd)
        rw [show m.1 (1 + 6 + 4 * jd) 1 = nI (T.1 154 jd) from (hR1.2.2.2.2.2 jd (by omega)).1]
        refine w_iret rfl rfl rfl ?_
        have hf : f_of T (nI jd) u = (nI ((T.1 154 jd)), T) := by simp [f_of, q_is_nI (n := T.1 153 0) hjd (by omega), nI_clamp (show jd < 2 ^ 31 by omega), e1, nI_0, nI_one]
        rw [hf]
        exact ⟨rfl, hC.Q hI (q_Fq.rf)⟩
      · refine ⟨67, 85, rfl, rfl, ?_⟩
        have e1 : u = 1 := ts_eq hz1 (by decide)
        refine w_aload_n (pc' := 86) rfl rfl rfl rfl ?_
        refine w_getI (pc' := 89) rfl rfl rfl (shD q_L1 (p := jd) (by omega)) rfl ?_
        have b3 : T.1 155 jd < 10 := hB 155 (jd)
        rw [show m.1 (1 + 6 + 4 * jd) 2 = nI (T.1 155 jd) from (hR1.2.2.2.2.2 jd (by omega)).2.1]
        refine w_iret rfl rfl rfl ?_
        have hf : f_of T (nI jd) u = (nI ((T.1 155 jd)), T) := by simp [f_of, q_is_nI (n := T.1 153 0) hjd (by omega), nI_clamp (show jd < 2 ^ 31 by omega), e1, nI_0, nI_one]
        rw [hf]
        exact ⟨rfl, hC.Q hI (q_Fq.rf)⟩
      · refine ⟨72, 90, rfl, rfl, ?_⟩
        have e1 : u = 2 := ts_eq hz1 (by decide)
        refine w_aload_n (pc' := 91) rfl rfl rfl rfl ?_
        refine w_getI (pc' := 94) rfl rfl rfl (shD q_L1 (p := jd) (by omega)) rfl ?_
        have b4 : T.1 156 jd < 16 := hB 156 (jd)
        rw [show m.1 (1 + 6 + 4 * jd) 3 = nI (T.1 156 jd) from (hR1.2.2.2.2.2 jd (by omega)).2.2.1]
        refine w_iret rfl rfl rfl ?_
        have hf : f_of T (nI jd) u = (nI ((T.1 156 jd)), T) := by simp [f_of, q_is_nI (n := T.1 153 0) hjd (by omega), nI_clamp (show jd < 2 ^ 31 by omega), e1, nI_0, nI_one]
        rw [hf]
        exact ⟨rfl, hC.Q hI (q_Fq.rf)⟩
      · refine ⟨77, 95, rfl, rfl, ?_⟩
        have e1 : u = 3 := ts_eq hz1 (by decide)
        refine w_aload_n (pc' := 96) rfl rfl rfl rfl ?_
        refine w_getI (pc' := 99) rfl rfl rfl (shD q_L1 (p := jd) (by omega)) rfl ?_
        have b5 : T.1 157 jd < 9 := hB 157 (jd)
        rw [show m.1 (1 + 6 + 4 * jd) 4 = nI (T.1 157 jd) from (hR1.2.2.2.2.2 jd (by omega)).2.2.2.1]
        refine w_iret rfl rfl rfl ?_
        have hf : f_of T (nI jd) u = (nI ((T.1 157 jd)), T) := by simp [f_of, q_is_nI (n := T.1 153 0) hjd (by omega), nI_clamp (show jd < 2 ^ 31 by omega), e1, nI_0, nI_one]
        rw [hf]
        exact ⟨rfl, hC.Q hI (q_Fq.rf)⟩
      · refine ⟨82, 100, rfl, rfl, ?_⟩
        have e1 : u = 4 := ts_eq hz1 (by decide)
        refine w_aload_n (pc' := 101) rfl rfl rfl rfl ?_
        refine w_getB (pc' := 104) rfl rfl rfl (shD q_L1 (p := jd) (by omega)) rfl ?_
        have b6 : T.1 158 jd < 2 := hB 158 (jd)
        rw [show m.1 (1 + 6 + 4 * jd) 6 = nI (T.1 158 jd) from (hR1.2.2.2.2.2 jd (by omega)).2.2.2.2.2.1, am_b_n (by omega)]
        refine w_if_eq (t := 111) (pc' := 107) rfl (by decide) rfl (fun h104 => ?_) (fun h104 => ?_)
        · have hd1 : T.1 158 jd = 0 := by have b2 : T.1 158 jd < 2 := hB 158 jd; have g2 := h104; first | exact (nI_eq (a := T.1 158 jd) (b := 0) (by omega) (by omega)).mp g2 | exact (fun z : ¬ T.1 158 jd = 0 => by omega) (fun z => g2 ((nI_eq (a := T.1 158 jd) (b := 0) (by omega) (by omega)).mpr z))
          refine w_iconst (pc' := 112) 0 rfl rfl ic_0 ?_
          refine w_iret rfl rfl rfl ?_
          have hf : f_of T (nI jd) u = (0, T) := by simp [f_of, q_is_nI (n := T.1 153 0) hjd (by omega), nI_clamp (show jd < 2 ^ 31 by omega), e1, hd1, nI_0, nI_one]
          rw [hf]
          exact ⟨rfl, hC.Q hI (q_Fq.rf)⟩
        · have hd1 : T.1 158 jd = 1 := by have b2 : T.1 158 jd < 2 := hB 158 jd; have g2 := h104; first | exact (nI_eq (a := T.1 158 jd) (b := 0) (by omega) (by omega)).mp g2 | exact (fun z : ¬ T.1 158 jd = 0 => by omega) (fun z => g2 ((nI_eq (a := T.1 158 jd) (b := 0) (by omega) (by omega)).mpr z))
          refine w_iconst (pc' := 108) 1 rfl rfl ic_1 ?_
          refine w_goto (pc' := 112) rfl (by decide) ?_
          refine w_iret rfl rfl rfl ?_
          have hf : f_of T (nI jd) u = (1, T) := by simp [f_of, q_is_nI (n := T.1 153 0) hjd (by omega), nI_clamp (show jd < 2 ^ 31 by omega), e1, hd1, nI_0, nI_one]
          rw [hf]
          exact ⟨rfl, hC.Q hI (q_Fq.rf)⟩
      · refine ⟨95, 113, rfl, rfl, ?_⟩
        have e1 : u = 5 := ts_eq hz1 (by decide)
        refine w_aload_n (pc' := 114) rfl rfl rfl rfl ?_
        refine w_getI (pc' := 117) rfl rfl rfl (shD q_L1 (p := jd) (by omega)) rfl ?_
        rw [show m.1 (1 + 6 + 4 * jd) 5 = nI (T.1 159 jd) from (hR1.2.2.2.2.2 jd (by omega)).2.2.2.2.1]
        refine w_iret rfl rfl rfl ?_
        have hf : f_of T (nI jd) u = (nI ((T.1 159 jd)), T) := by simp [f_of, q_is_nI (n := T.1 153 0) hjd (by omega), nI_clamp (show jd < 2 ^ 31 by omega), e1, nI_0, nI_one]
        rw [hf]
        exact ⟨rfl, hC.Q hI (q_Fq.rf)⟩
      · refine ⟨100, 118, rfl, rfl, ?_⟩
        have e1 : u = 6 := ts_eq hz1 (by decide)
        refine w_aload_n (pc' := 119) rfl rfl rfl rfl ?_
        refine w_getC (pc' := 122) rfl rfl rfl sh_0 rfl ?_
        refine w_aload_n (pc' := 123) rfl rfl rfl rfl ?_
        refine w_cV1i (pc' := 126) (v_la_feelOf xs q_L1 hR1 hB hY.2.1 hY.2.2.1 hC.2.1 hl6 (by have := hY.2.2.2.1; omega) (p := jd) (by omega)) (by decide) rfl rfl rfl (Nat.le_of_ble_eq_true rfl) (shL q_L1) rfl (fun m1 hm' => ?_)
        have hF_1 := hm'.2
        refine w_iret rfl rfl rfl ?_
        have hf : f_of T (nI jd) u = ((f_feel T jd), T) := by simp [f_of, q_is_nI (n := T.1 153 0) hjd (by omega), nI_clamp (show jd < 2 ^ 31 by omega), e1, nI_0, nI_one]
        rw [hf]
        exact ⟨rfl, hC.Q hI (hF_1.Fq)⟩
      · refine ⟨109, 127, rfl, rfl, ?_⟩
        have e1 : u = 7 := ts_eq hz1 (by decide)
        refine w_aload_n (pc' := 128) rfl rfl rfl rfl ?_
        refine w_getC (pc' := 131) rfl rfl rfl sh_0 rfl ?_
        refine w_aload_n (pc' := 132) rfl rfl rfl rfl ?_
        refine w_cV1i (pc' := 135) (v_la_wayOf xs q_L1 hR1 hB hY.2.1 hY.2.2.1 hC.2.1 hl6 (by have := hY.2.2.2.1; omega) (p := jd) (by omega)) (by decide) rfl rfl rfl (Nat.le_of_ble_eq_true rfl) (shL q_L1) rfl (fun m2 hm' => ?_)
        have hF_2 := hm'.2
        refine w_iret rfl rfl rfl ?_
        have hf : f_of T (nI jd) u = (nI ((f_way T jd)), T) := by simp [f_of, q_is_nI (n := T.1 153 0) hjd (by omega), nI_clamp (show jd < 2 ^ 31 by omega), e1, nI_0, nI_one]
        rw [hf]
        exact ⟨rfl, hC.Q hI (hF_2.Fq)⟩
      · refine ⟨118, 136, rfl, rfl, ?_⟩
        have e1 : u = 8 := ts_eq hz1 (by decide)
        refine w_aload_n (pc' := 137) rfl rfl rfl rfl ?_
        refine w_getC (pc' := 140) rfl rfl rfl sh_0 rfl ?_
        refine w_aload_n (pc' := 141) rfl rfl rfl rfl ?_
        refine w_cV1i (pc' := 144) (v_cameOf xs q_L1 hR1 hB (p := jd) (by omega)) (by decide) rfl rfl rfl (Nat.le_of_ble_eq_true rfl) (shL q_L1) rfl (fun m' hm' => ?_)
        rw [show m' = m from hm']
        clear hm' m'
        refine w_iret rfl rfl rfl ?_
        have hf : f_of T (nI jd) u = ((f_came T jd false), T) := by simp [f_of, q_is_nI (n := T.1 153 0) hjd (by omega), nI_clamp (show jd < 2 ^ 31 by omega), e1, nI_0, nI_one]
        rw [hf]
        exact ⟨rfl, hC.Q hI (q_Fq.rf)⟩
      · refine ⟨127, 145, rfl, rfl, ?_⟩
        have e1 : u = 9 := ts_eq hz1 (by decide)
        refine w_aload_n (pc' := 146) rfl rfl rfl rfl ?_
        refine w_getC (pc' := 149) rfl rfl rfl sh_0 rfl ?_
        refine w_aload_n (pc' := 150) rfl rfl rfl rfl ?_
        refine w_cV1i (pc' := 153) (v_hereOf xs q_L1 hR1 hB (p := jd) (by omega)) (by decide) rfl rfl rfl (Nat.le_of_ble_eq_true rfl) (shL q_L1) rfl (fun m' hm' => ?_)
        rw [show m' = m from hm']
        clear hm' m'
        refine w_iret rfl rfl rfl ?_
        have hf : f_of T (nI jd) u = ((f_came T jd true), T) := by simp [f_of, q_is_nI (n := T.1 153 0) hjd (by omega), nI_clamp (show jd < 2 ^ 31 by omega), e1, nI_0, nI_one]
        rw [hf]
        exact ⟨rfl, hC.Q hI (q_Fq.rf)⟩
      · refine ⟨136, 154, rfl, rfl, ?_⟩
        have e1 : u = 10 := ts_eq hz1 (by decide)
        refine w_aload_n (pc' := 155) rfl rfl rfl rfl ?_
        refine w_getC (pc' := 158) rfl rfl rfl sh_0 rfl ?_
        refine w_aload_n (pc' := 159) rfl rfl rfl rfl ?_
        refine w_cV1i (pc' := 162) (v_la_lookOf xs q_L1 hR1 hB (p := jd) (by omega)) (by decide) rfl rfl rfl (Nat.le_of_ble_eq_true rfl) (shL q_L1) rfl (fun m3 hm' => ?_)
        obtain ⟨hR_3, hF_3⟩ := hm'
        refine w_iret rfl rfl rfl ?_
        have hf : f_of T (nI jd) u = ((f_look T jd), T) := by simp [f_of, q_is_nI (n := T.1 153 0) hjd (by omega), nI_clamp (show jd < 2 ^ 31 by omega), e1]
        rw [hf]
        exact ⟨rfl, hC.l1 hI hR_3 hF_3 q_Ag.rf (fun _ _ _ => rfl), hF_3.FM (by omega)⟩
      · refine ⟨145, 163, rfl, rfl, ?_⟩
        have e1 : u = 11 := ts_eq hz1 (by decide)
        refine w_aload_n (pc' := 164) rfl rfl rfl rfl ?_
        refine w_aload_n (pc' := 165) rfl rfl rfl rfl ?_
        refine w_cV1i (pc' := 168) (v_kplacesOf xs hC hI (p := jd) (by omega)) (by decide) rfl rfl rfl (Nat.le_of_ble_eq_true rfl) sh_0 rfl (fun m4 hm' => ?_)
        have hF_4 := hm'
        refine w_iret rfl rfl rfl ?_
        have hf : f_of T (nI jd) u = ((bto T 156 jd 16 0 0), T) := by simp [f_of, q_is_nI (n := T.1 153 0) hjd (by omega), nI_clamp (show jd < 2 ^ 31 by omega), e1, nI_0, nI_one]
        rw [hf]
        exact ⟨rfl, hC.Q hI (hF_4.Fq)⟩
set_option maxRecDepth 100000 in
set_option maxHeartbeats 4000000 in
theorem v_k_count (xs : List Int32) {T : q_T} {m : am_Mm} (hC : q_Rc T m) (hI : q_I T) (a : Int32) : am_V xs 11 131 [.ref 0, .int a] m (am_qi (f_count T a).1 (q_Q (f_count T a).2 m)) := by
  have hY := hI.1.1
  have hB := hY.1
  have hl6 := hI.1.2.1
  have hn0 : T.1 153 0 < 7 := hB 153 0
  have hF : q_Fl 61 m m := q_Fl.rf
  have hR1 := hC.1
  refine am_V_of ky_131 (Nat.le_of_ble_eq_true rfl) ?_
  show am_P xs 10 k_count 0 [some (.ref 0), some (.int a)] [] m _
  refine w_iload_n (pc' := 1) rfl rfl rfl ?_
  refine w_tsw (t := 106) rfl rfl (fun hD1 => ?_) (fun z1 hl1 hh1 hz1 => ?_)
  · have eD1_0 : ¬ a = 0 := fun q => by rw [q] at hD1; revert hD1; decide
    have eD1_1 : ¬ a = 1 := fun q => by rw [q] at hD1; revert hD1; decide
    have eD1_2 : ¬ a = 2 := fun q => by rw [q] at hD1; revert hD1; decide
    have eD1_3 : ¬ a = 3 := fun q => by rw [q] at hD1; revert hD1; decide
    have eD1_4 : ¬ a = 4 := fun q => by rw [q] at hD1; revert hD1; decide
    have eD1_5 : ¬ a = 5 := fun q => by rw [q] at hD1; revert hD1; decide
    have eD1_6 : ¬ a = 6 := fun q => by rw [q] at hD1; revert hD1; decide
    refine w_bipush (pc' := 108) (-2) rfl rfl bp_m2 ?_
    refine w_iret rfl rfl rfl ?_
    have hf : f_count T a = (-2, T) := by simp [f_count, eD1_0, eD1_1, eD1_2, eD1_3, eD1_4, eD1_5, eD1_6]
    rw [hf]
    exact ⟨rfl, hC.Q hI (q_Fq.rf)⟩
  · rcases (show z1 = 0 ∨ z1 = 1 ∨ z1 = 2 ∨ z1 = 3 ∨ z1 = 4 ∨ z1 = 5 ∨ z1 = 6 by omega) with rfl | rfl | rfl | rfl | rfl | rfl | rfl
    · refine ⟨43, 44, rfl, rfl, ?_⟩
      have e1 : a = 0 := ts_eq hz1 (by decide)
      refine w_aload_n (pc' := 45) rfl rfl rfl rfl ?_
      refine w_getC (pc' := 48) rfl rfl rfl sh_0 rfl ?_
      refine w_getI (pc' := 51) rfl rfl rfl (shL q_L1) rfl ?_
      have b2 : T.1 153 0 < 7 := hB 153 (0)
      rw [show m.1 1 5 = nI (T.1 153 0) from hR1.1]
      refine w_iret rfl rfl rfl ?_
      have hf : f_count T a = (nI ((T.1 153 0)), T) := by simp [f_count, e1]
      rw [hf]
      exact ⟨rfl, hC.Q hI (q_Fq.rf)⟩
    · refine ⟨51, 52, rfl, rfl, ?_⟩
      have e1 : a = 1 := ts_eq hz1 (by decide)
      refine w_aload_n (pc' := 53) rfl rfl rfl rfl ?_
      refine w_getI (pc' := 56) rfl rfl rfl sh_0 rfl ?_
      rw [show m.1 0 8 = nI (T.2.1.length) from hC.2.2.2.1.1]
      refine w_iret rfl rfl rfl ?_
      have hf : f_count T a = (nI ((T.2.1.length)), T) := by simp [f_count, e1]
      rw [hf]
      exact ⟨rfl, hC.Q hI (q_Fq.rf)⟩
    · refine ⟨56, 57, rfl, rfl, ?_⟩
      have e1 : a = 2 := ts_eq hz1 (by decide)
      refine w_aload_n (pc' := 58) rfl rfl rfl rfl ?_
      refine w_getC (pc' := 61) rfl rfl rfl sh_0 rfl ?_
      refine w_getC (pc' := 64) rfl rfl rfl sh_91 rfl ?_
      refine w_getI (pc' := 67) rfl rfl rfl sh_92 rfl ?_
      rw [show m.1 92 4 = nI (T.1 153 28) from hC.2.2.1.1]
      refine w_iret rfl rfl rfl ?_
      have hf : f_count T a = (nI ((T.1 153 28)), T) := by simp [f_count, e1]
      rw [hf]
      exact ⟨rfl, hC.Q hI (q_Fq.rf)⟩
    · refine ⟨67, 68, rfl, rfl, ?_⟩
      have e1 : a = 3 := ts_eq hz1 (by decide)
      refine w_aload_n (pc' := 69) rfl rfl rfl rfl ?_
      refine w_getC (pc' := 72) rfl rfl rfl sh_0 rfl ?_
      refine w_getC (pc' := 75) rfl rfl rfl sh_91 rfl ?_
      refine w_getI (pc' := 78) rfl rfl rfl sh_96 rfl ?_
      rw [show m.1 96 4 = nI (T.1 153 32) from hC.2.2.1.2.2.1]
      refine w_iret rfl rfl rfl ?_
      have hf : f_count T a = (nI ((T.1 153 32)), T) := by simp [f_count, e1]
      rw [hf]
      exact ⟨rfl, hC.Q hI (q_Fq.rf)⟩
    · refine ⟨78, 79, rfl, rfl, ?_⟩
      have e1 : a = 4 := ts_eq hz1 (by decide)
      refine w_aload_n (pc' := 80) rfl rfl rfl rfl ?_
      refine w_getC (pc' := 83) rfl rfl rfl sh_0 rfl ?_
      refine w_getC (pc' := 86) rfl rfl rfl sh_91 rfl ?_
      refine w_getI (pc' := 89) rfl rfl rfl sh_100 rfl ?_
      rw [show m.1 100 4 = nI (T.1 153 35) from hC.2.2.1.2.2.2.2.1]
      refine w_iret rfl rfl rfl ?_
      have hf : f_count T a = (nI ((T.1 153 35)), T) := by simp [f_count, e1]
      rw [hf]
      exact ⟨rfl, hC.Q hI (q_Fq.rf)⟩
    · refine ⟨89, 90, rfl, rfl, ?_⟩
      have e1 : a = 5 := ts_eq hz1 (by decide)
      refine w_aload_n (pc' := 91) rfl rfl rfl rfl ?_
      refine w_getC (pc' := 94) rfl rfl rfl sh_0 rfl ?_
      refine w_getI (pc' := 97) rfl rfl rfl sh_117 rfl ?_
      rw [show m.1 117 1 = nI (T.1 153 12) from hC.2.2.2.1.2.1]
      refine w_iret rfl rfl rfl ?_
      have hf : f_count T a = (nI ((T.1 153 12)), T) := by simp [f_count, e1]
      rw [hf]
      exact ⟨rfl, hC.Q hI (q_Fq.rf)⟩
    · refine ⟨97, 98, rfl, rfl, ?_⟩
      have e1 : a = 6 := ts_eq hz1 (by decide)
      refine w_aload_n (pc' := 99) rfl rfl rfl rfl ?_
      refine w_getC (pc' := 102) rfl rfl rfl sh_0 rfl ?_
      refine w_getI (pc' := 105) rfl rfl rfl sh_120 rfl ?_
      rw [show m.1 120 1 = nI (T.1 153 38) from hC.2.2.2.1.2.2.2.1]
      refine w_iret rfl rfl rfl ?_
      have hf : f_count T a = (nI ((T.1 153 38)), T) := by simp [f_count, e1]
      rw [hf]
      exact ⟨rfl, hC.Q hI (q_Fq.rf)⟩
set_option maxRecDepth 100000 in
set_option maxHeartbeats 4000000 in
theorem v_k_sheet (xs : List Int32) {T : q_T} {m : am_Mm} (hC : q_Rc T m) (hI : q_I T) (d : Int32) (i : Int32) : am_V xs 12 49 [.ref 0, .int d, .int i] m (am_qi (f_sheet T d i).1 (q_Q (f_sheet T d i).2 m)) := by
  have hY := hI.1.1
  have hB := hY.1
  have hl6 := hI.1.2.1
  have hn0 : T.1 153 0 < 7 := hB 153 0
  have hF : q_Fl 61 m m := q_Fl.rf
  have hR1 := hC.1
  refine am_V_of ky_49 (Nat.le_of_ble_eq_true rfl) ?_
  show am_P xs 11 k_sheet 0 [some (.ref 0), some (.int d), some (.int i), none] [] m _
  rcases hqb : q_is d (T.1 153 0) with _ | _
  · have hqd : q_is d (T.1 153 0) = false := hqb
    refine w_aload_n (pc' := 1) rfl rfl rfl rfl ?_
    refine w_getC (pc' := 4) rfl rfl rfl sh_0 rfl ?_
    refine w_iload_n (pc' := 5) rfl rfl rfl ?_
    refine w_cV1a (pc' := 8) (v_la_drawerN xs q_L1 hR1 hB hqd) (by decide) rfl rfl rfl (Nat.le_of_ble_eq_true rfl) (shL q_L1) rfl (fun m' hm' => ?_)
    rw [show m' = m from hm']
    clear hm' m'
    refine w_ast3 (pc' := 9) rfl rfl rfl rfl ?_
    refine w_aload_n (pc' := 10) rfl rfl rfl rfl ?_
    refine w_ifnullN (pc' := 31) rfl (by decide) ?_
    refine w_iconst (pc' := 32) (-1) rfl rfl ic_m1 ?_
    refine w_iret rfl rfl rfl ?_
    have hf : f_sheet T d i = (-1, T) := by simp [f_sheet, hqd]
    rw [hf]
    exact ⟨rfl, hC.Q hI (q_Fq.rf)⟩
  · obtain ⟨jd, hjd, rfl⟩ := q_is_of hqb (by omega)
    refine w_aload_n (pc' := 1) rfl rfl rfl rfl ?_
    refine w_getC (pc' := 4) rfl rfl rfl sh_0 rfl ?_
    refine w_iload_n (pc' := 5) rfl rfl rfl ?_
    refine w_cV1a (pc' := 8) (v_la_drawerS xs q_L1 hR1 hB (p := jd) (by omega)) (by decide) rfl rfl rfl (Nat.le_of_ble_eq_true rfl) (shL q_L1) rfl (fun m' hm' => ?_)
    rw [show m' = m from hm']
    clear hm' m'
    refine w_ast3 (pc' := 9) rfl rfl rfl rfl ?_
    refine w_aload_n (pc' := 10) rfl rfl rfl rfl ?_
    refine w_ifnullR (pc' := 13) rfl rfl (by omega) ?_
    refine w_iload_n (pc' := 14) rfl rfl rfl ?_
    refine w_if_lt (t := 31) (pc' := 17) rfl (by decide) rfl (fun h14 => ?_) (fun h14 => ?_)
    · have hnegi : i < 0 := h14
      refine w_iconst (pc' := 32) (-1) rfl rfl ic_m1 ?_
      refine w_iret rfl rfl rfl ?_
      have hf : f_sheet T (nI jd) i = (-1, T) := by simp [f_sheet, q_is_nI (n := T.1 153 0) hjd (by omega), nI_clamp (show jd < 2 ^ 31 by omega), q_is_neg hnegi (n := (T.1 157 jd)) (by have : T.1 157 jd < 9 := hB 157 jd; omega)]
      rw [hf]
      exact ⟨rfl, hC.Q hI (q_Fq.rf)⟩
    · obtain ⟨ji, hji, rfl⟩ := nI_of (x := i) h14
      refine w_iload_n (pc' := 18) rfl rfl rfl ?_
      refine w_aload_n (pc' := 19) rfl rfl rfl rfl ?_
      refine w_getI (pc' := 22) rfl rfl rfl (shD q_L1 (p := jd) (by omega)) rfl ?_
      have b1 : T.1 157 jd < 9 := hB 157 (jd)
      rw [show m.1 (1 + 6 + 4 * jd) 4 = nI (T.1 157 jd) from (hR1.2.2.2.2.2 jd (by omega)).2.2.2.1]
      refine w_ic_ge (t := 31) (pc' := 25) rfl (by decide) rfl (fun h22 => ?_) (fun h22 => ?_)
      · have g2 : (T.1 157 jd) ≤ ji := (nI_leI (a := (T.1 157 jd)) (b := ji) (by omega) (by omega)).mp h22
        refine w_iconst (pc' := 32) (-1) rfl rfl ic_m1 ?_
        refine w_iret rfl rfl rfl ?_
        have hf : f_sheet T (nI jd) (nI ji) = (-1, T) := by simp [f_sheet, q_is_nI (n := T.1 153 0) hjd (by omega), nI_clamp (show jd < 2 ^ 31 by omega), nI_clamp (show ji < 2 ^ 31 by omega), q_is_big (n := (T.1 157 jd)) (j := ji) (by omega) (by omega), g2, Nat.not_lt.mpr g2]
        rw [hf]
        exact ⟨rfl, hC.Q hI (q_Fq.rf)⟩
      · have g3 : ¬ (T.1 157 jd) ≤ ji := fun q => h22 ((nI_leI (a := (T.1 157 jd)) (b := ji) (by omega) (by omega)).mpr q)
        refine w_iload_n (pc' := 26) rfl rfl rfl ?_
        refine w_bipush (pc' := 28) 8 rfl rfl bp_8 ?_
        refine w_ic_lt (t := 33) (pc' := 31) rfl (by decide) rfl (fun h28 => ?_) (fun h28 => ?_)
        · have g4 : ji < 8 := (nI_ltI (a := ji) (b := 8) (by omega) (by omega)).mp h28
          refine w_bipush (pc' := 35) 10 rfl rfl bp_10 ?_
          refine w_aload_n (pc' := 36) rfl rfl rfl rfl ?_
          refine w_getC (pc' := 39) rfl rfl rfl (shD q_L1 (p := jd) (by omega)) rfl ?_
          refine w_iload_n (pc' := 40) rfl rfl rfl ?_
          refine w_iald (j := (ji)) (pc' := 41) rfl rfl (shDw q_L1 (p := jd) (by omega)) rfl (by omega) (by decide) ?_
          rw [show m.1 (1 + 6 + 4 * jd + 1) ji = nI (T.1 160 (8 * jd + ji) / 10) from ((hR1.2.2.2.2.2 jd (by omega)).2.2.2.2.2.2.1 ji (by omega)).1]
          refine w_imul (pc' := 42) rfl rfl ?_
          rw [show (10 : Int32) * nI ((T.1 160 (8 * jd + ji) / 10)) = nI (10 * (T.1 160 (8 * jd + ji) / 10)) from nI_mul _ _]
          refine w_aload_n (pc' := 43) rfl rfl rfl rfl ?_
          refine w_getC (pc' := 46) rfl rfl rfl (shD q_L1 (p := jd) (by omega)) rfl ?_
          refine w_iload_n (pc' := 47) rfl rfl rfl ?_
          refine w_iald (j := (ji)) (pc' := 48) rfl rfl (shDm q_L1 (p := jd) (by omega)) rfl (by omega) (by decide) ?_
          rw [show m.1 (1 + 6 + 4 * jd + 2) ji = nI (T.1 160 (8 * jd + ji) % 10) from ((hR1.2.2.2.2.2 jd (by omega)).2.2.2.2.2.2.1 ji (by omega)).2]
          refine w_iadd (pc' := 49) rfl rfl ?_
          rw [show nI (10 * (T.1 160 (8 * jd + ji) / 10)) + nI ((T.1 160 (8 * jd + ji) % 10)) = nI ((10 * (T.1 160 (8 * jd + ji) / 10)) + (T.1 160 (8 * jd + ji) % 10)) from nI_add _ _]
          refine w_iret rfl rfl rfl ?_
          rw [show 10 * (T.1 160 (8 * jd + ji) / 10) + T.1 160 (8 * jd + ji) % 10 = T.1 160 (8 * jd + ji) from Nat.div_add_mod _ 10]
          have hf : f_sheet T (nI jd) (nI ji) = (nI (T.1 160 (8 * jd + ji)), T) := by simp [f_sheet, q_is_nI (n := T.1 153 0) hjd (by omega), nI_clamp (show jd < 2 ^ 31 by omega), nI_clamp (show ji < 2 ^ 31 by omega), q_is_nI (n := (T.1 157 jd)) (j := ji) (by omega) (by omega), g3, Nat.lt_of_not_le g3, g4]
          rw [hf]
          exact ⟨rfl, hC.Q hI (q_Fq.rf)⟩
        · have g5 : ¬ ji < 8 := fun q => h28 ((nI_ltI (a := ji) (b := 8) (by omega) (by omega)).mpr q)
          omega
