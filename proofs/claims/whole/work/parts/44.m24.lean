theorem w_genB {xs : List Int32} {d : Nat} {M : am_M} {pc : Nat} {L : am_L} {st : List Value} {m m0 : am_Mm} {Q : am_Q} {T : q_T} (h : q_Rm T m) (hF : q_FB m0 m) (k : ∀ m', q_Rm T m' → q_FB m0 m' → am_P xs d M pc L st m' Q) : am_P xs d M pc L st m Q := k m h hF
def eno : Nat → Nat → q_T → q_T
  | 0, _, T => T
  | r + 1, k, T => eno r (k + 1) (if T.1 174 k = 0 then f_gh T else if T.1 174 k = 1 then q_Tu T 157 (T.1 175 k) 0 else if T.1 174 k = 2 then q_Tu T 158 (T.1 175 k) 0 else q_Tu T 162 (T.1 175 k) 0)
def f_en (T : q_T) : q_T := eno (T.1 153 32) 0 T
/-- the PLAN's drawers are there -/
def q_Pl (T : q_T) : Prop := ∀ k, k < T.1 153 32 → (T.1 174 k = 1 ∨ T.1 174 k = 2) → T.1 175 k < 6
def f_ends (T : q_T) (u : Int32) : Int32 × q_T := if q_is u 2 = true then ((if u.toNatClampNeg = 0 then nI ((f_en T).1 153 10) else nI (f_od (f_en T))), T) else (-1, T)
/-- what a PLAN leaves as it is -/
def q_Ae (T T' : q_T) : Prop := q_Ag T T' ∧ ((∀ k, T'.1 174 k = T.1 174 k ∧ T'.1 175 k = T.1 175 k) ∧ T'.1 153 32 = T.1 153 32)
theorem q_Ae.rf {T : q_T} : q_Ae T T := ⟨q_Ag.rf, fun _ => ⟨rfl, rfl⟩, rfl⟩
theorem q_Ae.As {T T' T'' : q_T} (h : q_Ae T T') (h' : q_As T' T'') : q_Ae T T'' := ⟨h.1.tr h'.Ag, fun k => ⟨(h'.2.1 174 k (by omega) (by omega)).trans (h.2.1 k).1, (h'.2.1 175 k (by omega) (by omega)).trans (h.2.1 k).2⟩, (h'.2.1 153 32 (by omega) (by omega)).trans h.2.2⟩
theorem q_Ae.u {T T' : q_T} (h : q_Ae T T') {c k x : Nat} (hp : q_pi c k < 182) (h1 : c ≠ 174) (h2 : c ≠ 175) (h3 : c ≠ 153) : q_Ae T (q_Tu T' c k x) := ⟨h.1.u hp, fun j => ⟨(q_Tu_ne (fun q => h1 q.1.symm)).trans (h.2.1 j).1, (q_Tu_ne (fun q => h2 q.1.symm)).trans (h.2.1 j).2⟩, (q_Tu_ne (fun q => h3 q.1.symm)).trans h.2.2⟩
set_option maxRecDepth 100000 in
set_option maxHeartbeats 4000000 in
theorem lp_ends (xs : List Int32) {T0 : q_T} (hP : q_Pl T0) {m0 : am_Mm} {u : Int32} {Q : am_Q} : ∀ (r k : Nat), k + r = T0.1 153 32 → ∀ (T : q_T) (m : am_Mm) (h0 : Nat), q_Rm T m → q_FB m0 m → q_Y h0 T → q_Ae T0 T → h0 + r ≤ 1000 → (∀ (m : am_Mm) (h0 : Nat), q_Rm (eno r k T) m → q_FB m0 m → q_Y h0 (eno r k T) → h0 ≤ 1000 → q_Ae T0 (eno r k T) → am_P xs 7 m_ends 113 [some (.ref 153), some (.int u), some (.int (nI (T0.1 153 32)))] [] m Q) → am_P xs 7 m_ends 21 [some (.ref 153), some (.int u), some (.int (nI k))] [] m (Q) := by
  intro r
  induction r with
  | zero =>
    intro k hk T m h0 h hF hY hA hr hK
    have hB := hY.1
    have en : T.1 153 32 = T0.1 153 32 := hA.2.2
    have b11 : T.1 153 32 < 11 := hB 153 32
    refine w_iload_n (pc' := 22) rfl rfl rfl ?_
    refine w_aload_n (pc' := 23) rfl rfl rfl rfl ?_
    refine w_getI (pc' := 26) rfl rfl rfl sh_153 rfl ?_
    rw [show m.1 153 32 = nI (T.1 153 (32)) from (rf_32 h :)]
    have b1 : (T.1 153 (32)) < 11 := hB 153 (32)
    refine w_ic_ge (t := 113) (pc' := 29) rfl (by decide) rfl (fun h26 => ?_) (fun h26 => ?_)
    · have g2 : (T.1 153 (32)) ≤ k := (nI_leI (a := (T.1 153 (32))) (b := k) (by omega) (by omega)).mp h26
      obtain rfl : k = T0.1 153 32 := by omega
      exact hK m h0 h hF hY (by omega) hA
    · have g3 : ¬ (T.1 153 (32)) ≤ k := fun q => h26 ((nI_leI (a := (T.1 153 (32))) (b := k) (by omega) (by omega)).mpr q)
      omega
  | succ r ih =>
    intro k hk T m h0 h hF hY hA hr hK
    have hB := hY.1
    have en : T.1 153 32 = T0.1 153 32 := hA.2.2
    have b11 : T.1 153 32 < 11 := hB 153 32
    refine w_iload_n (pc' := 22) rfl rfl rfl ?_
    refine w_aload_n (pc' := 23) rfl rfl rfl rfl ?_
    refine w_getI (pc' := 26) rfl rfl rfl sh_153 rfl ?_
    rw [show m.1 153 32 = nI (T.1 153 (32)) from (rf_32 h :)]
    have b1 : (T.1 153 (32)) < 11 := hB 153 (32)
    refine w_ic_ge (t := 113) (pc' := 29) rfl (by decide) rfl (fun h26 => ?_) (fun h26 => ?_)
    · have g2 : (T.1 153 (32)) ≤ k := (nI_leI (a := (T.1 153 (32))) (b := k) (by omega) (by omega)).mp h26
      omega
    · have g3 : ¬ (T.1 153 (32)) ≤ k := fun q => h26 ((nI_leI (a := (T.1 153 (32))) (b := k) (by omega) (by omega)).mpr q)
      refine w_aload_n (pc' := 30) rfl rfl rfl rfl ?_
      refine w_getC (pc' := 33) rfl rfl rfl sh_153 rfl ?_
      refine w_iload_n (pc' := 34) rfl rfl rfl ?_
      refine w_iald (j := (k)) (pc' := 35) rfl rfl sh_174 rfl (by omega) (by decide) ?_
      rw [show m.1 174 k = nI (T.1 174 (k)) from (rd_174 h _ :)]
      have b4 : (T.1 174 (k)) < 4 := hB 174 (k)
      refine w_if_ne (t := 45) (pc' := 38) rfl (by decide) rfl (fun h35 => ?_) (fun h35 => ?_)
      · have g5 : ¬ (T.1 174 (k)) = 0 := fun q => h35 ((nI_eq (a := (T.1 174 (k))) (b := 0) (by omega) (by omega)).mpr q)
        refine w_aload_n (pc' := 46) rfl rfl rfl rfl ?_
        refine w_getC (pc' := 49) rfl rfl rfl sh_153 rfl ?_
        refine w_iload_n (pc' := 50) rfl rfl rfl ?_
        refine w_iald (j := (k)) (pc' := 51) rfl rfl sh_174 rfl (by omega) (by decide) ?_
        rw [show m.1 174 k = nI (T.1 174 (k)) from (rd_174 h _ :)]
        have b6 : (T.1 174 (k)) < 4 := hB 174 (k)
        refine w_iconst (pc' := 52) 1 rfl rfl ic_1 ?_
        refine w_ic_ne (t := 70) (pc' := 55) rfl (by decide) rfl (fun h52 => ?_) (fun h52 => ?_)
        · have g7 : ¬ (T.1 174 (k)) = 1 := fun q => h52 ((nI_eq (a := (T.1 174 (k))) (b := 1) (by omega) (by omega)).mpr q)
          refine w_aload_n (pc' := 71) rfl rfl rfl rfl ?_
          refine w_getC (pc' := 74) rfl rfl rfl sh_153 rfl ?_
          refine w_iload_n (pc' := 75) rfl rfl rfl ?_
          refine w_iald (j := (k)) (pc' := 76) rfl rfl sh_174 rfl (by omega) (by decide) ?_
          rw [show m.1 174 k = nI (T.1 174 (k)) from (rd_174 h _ :)]
          have b8 : (T.1 174 (k)) < 4 := hB 174 (k)
          refine w_iconst (pc' := 77) 2 rfl rfl ic_2 ?_
          refine w_ic_ne (t := 95) (pc' := 80) rfl (by decide) rfl (fun h77 => ?_) (fun h77 => ?_)
          · have g9 : ¬ (T.1 174 (k)) = 2 := fun q => h77 ((nI_eq (a := (T.1 174 (k))) (b := 2) (by omega) (by omega)).mpr q)
            refine w_aload_n (pc' := 96) rfl rfl rfl rfl ?_
            refine w_getC (pc' := 99) rfl rfl rfl sh_153 rfl ?_
            refine w_aload_n (pc' := 100) rfl rfl rfl rfl ?_
            refine w_getC (pc' := 103) rfl rfl rfl sh_153 rfl ?_
            refine w_iload_n (pc' := 104) rfl rfl rfl ?_
            refine w_iald (j := (k)) (pc' := 105) rfl rfl sh_175 rfl (by omega) (by decide) ?_
            rw [show m.1 175 k = nI (T.1 175 (k)) from (rd_175 h _ :)]
            have b10 : (T.1 175 (k)) < 16 := hB 175 (k)
            refine w_iconst (pc' := 106) 0 rfl rfl ic_0 ?_
            refine w_iast (j := ((T.1 175 (k)))) (pc' := 107) rfl rfl sh_162 rfl (by omega) (by decide) ?_
            refine w_genB (h.u (c := 162) (k := (T.1 175 (k))) (x := 0) rfl (y := _) (show _ = q_enc _ _ _ from rfl)) (hF.u (by decide)) (fun m1 h_1 hF_1 => ?_)
            refine w_iinc2 (pc' := 110) 1 rfl rfl ic_1 rfl ?_
            rw [nI_inc]
            refine w_goto (pc' := 21) rfl (by decide) ?_
            rw [show eno (r + 1) k T = eno r (k + 1) (q_Tu T 162 (T.1 175 k) 0) from congrArg (eno r (k + 1)) ((if_neg (by omega)).trans ((if_neg (by omega)).trans (if_neg (by omega))))] at hK
            exact ih (k + 1) (by omega) (q_Tu T 162 (T.1 175 k) 0) _ (h0 + 1) h_1 hF_1 ((hY.u (show 0 < 8 by omega) (by decide) (by decide)).mono) (hA.u (by rw [q_pi_162 (k := T.1 175 k) (by omega)]; omega) (by decide) (by decide) (by decide)) (by omega) hK
          · have g11 : (T.1 174 (k)) = 2 := (nI_eq (a := (T.1 174 (k))) (b := 2) (by omega) (by omega)).mp h77
            have hw6 : T.1 175 k < 6 := by
              have e1 := (hA.2.1 k).1
              have e2 := (hA.2.1 k).2
              have := hP k (by omega) (by omega)
              omega
            refine id ?_
            · refine w_aload_n (pc' := 81) rfl rfl rfl rfl ?_
              refine w_getC (pc' := 84) rfl rfl rfl sh_153 rfl ?_
              refine w_aload_n (pc' := 85) rfl rfl rfl rfl ?_
              refine w_getC (pc' := 88) rfl rfl rfl sh_153 rfl ?_
              refine w_iload_n (pc' := 89) rfl rfl rfl ?_
              refine w_iald (j := (k)) (pc' := 90) rfl rfl sh_175 rfl (by omega) (by decide) ?_
              rw [show m.1 175 k = nI (T.1 175 (k)) from (rd_175 h _ :)]
              have b12 : (T.1 175 (k)) < 16 := hB 175 (k)
              refine w_iconst (pc' := 91) 0 rfl rfl ic_0 ?_
              refine w_iast (j := ((T.1 175 (k)))) (pc' := 92) rfl rfl sh_158 rfl (by omega) (by decide) ?_
              refine w_genB (h.u (c := 158) (k := (T.1 175 (k))) (x := 0) rfl (y := _) (show _ = q_enc _ _ _ from rfl)) (hF.u (by decide)) (fun m2 h_2 hF_2 => ?_)
              refine w_goto (pc' := 107) rfl (by decide) ?_
              refine w_iinc2 (pc' := 110) 1 rfl rfl ic_1 rfl ?_
              rw [nI_inc]
              refine w_goto (pc' := 21) rfl (by decide) ?_
              rw [show eno (r + 1) k T = eno r (k + 1) (q_Tu T 158 (T.1 175 k) 0) from congrArg (eno r (k + 1)) ((if_neg (by omega)).trans ((if_neg (by omega)).trans (if_pos (by omega))))] at hK
              exact ih (k + 1) (by omega) (q_Tu T 158 (T.1 175 k) 0) _ (h0 + 1) h_2 hF_2 ((hY.u (show 0 < 2 by omega) (by decide) (by decide)).mono) (hA.u (by rw [q_pi_158 (k := T.1 175 k) (by omega)]; omega) (by decide) (by decide) (by decide)) (by omega) hK
        · have g13 : (T.1 174 (k)) = 1 := (nI_eq (a := (T.1 174 (k))) (b := 1) (by omega) (by omega)).mp h52
          have hw6 : T.1 175 k < 6 := by
            have e1 := (hA.2.1 k).1
            have e2 := (hA.2.1 k).2
            have := hP k (by omega) (by omega)
            omega
          refine id ?_
          · refine w_aload_n (pc' := 56) rfl rfl rfl rfl ?_
            refine w_getC (pc' := 59) rfl rfl rfl sh_153 rfl ?_
            refine w_aload_n (pc' := 60) rfl rfl rfl rfl ?_
            refine w_getC (pc' := 63) rfl rfl rfl sh_153 rfl ?_
            refine w_iload_n (pc' := 64) rfl rfl rfl ?_
            refine w_iald (j := (k)) (pc' := 65) rfl rfl sh_175 rfl (by omega) (by decide) ?_
            rw [show m.1 175 k = nI (T.1 175 (k)) from (rd_175 h _ :)]
            have b14 : (T.1 175 (k)) < 16 := hB 175 (k)
            refine w_iconst (pc' := 66) 0 rfl rfl ic_0 ?_
            refine w_iast (j := ((T.1 175 (k)))) (pc' := 67) rfl rfl sh_157 rfl (by omega) (by decide) ?_
            refine w_genB (h.u (c := 157) (k := (T.1 175 (k))) (x := 0) rfl (y := _) (show _ = q_enc _ _ _ from rfl)) (hF.u (by decide)) (fun m3 h_3 hF_3 => ?_)
            refine w_goto (pc' := 107) rfl (by decide) ?_
            refine w_iinc2 (pc' := 110) 1 rfl rfl ic_1 rfl ?_
            rw [nI_inc]
            refine w_goto (pc' := 21) rfl (by decide) ?_
            rw [show eno (r + 1) k T = eno r (k + 1) (q_Tu T 157 (T.1 175 k) 0) from congrArg (eno r (k + 1)) ((if_neg (by omega)).trans (if_pos (by omega)))] at hK
            exact ih (k + 1) (by omega) (q_Tu T 157 (T.1 175 k) 0) _ (h0 + 1) h_3 hF_3 ((hY.u (show 0 < 9 by omega) (by decide) (by decide)).mono) (hA.u (by rw [q_pi_157 (k := T.1 175 k) (by omega)]; omega) (by decide) (by decide) (by decide)) (by omega) hK
      · have g15 : (T.1 174 (k)) = 0 := (nI_eq (a := (T.1 174 (k))) (b := 0) (by omega) (by omega)).mp h35
        refine w_aload_n (pc' := 39) rfl rfl rfl rfl ?_
        refine w_cV0n (pc' := 42) (v_m_goesHour xs h hY.1 hY.2.1 hY.2.2.1 (by have := hY.2.2.2.1; omega) (fun i => by have := hY.2.2.2.2 i; omega)) (by decide) rfl rfl rfl (Nat.le_of_ble_eq_true rfl) sh_153 rfl (fun m4 hm' => ?_)
        obtain ⟨h_4, hG_4⟩ := hm'
        have hF_4 := hF.tr hG_4
        refine w_goto (pc' := 107) rfl (by decide) ?_
        refine w_iinc2 (pc' := 110) 1 rfl rfl ic_1 rfl ?_
        rw [nI_inc]
        refine w_goto (pc' := 21) rfl (by decide) ?_
        rw [show eno (r + 1) k T = eno r (k + 1) (f_gh T) from congrArg (eno r (k + 1)) (if_pos (by omega))] at hK
        exact ih (k + 1) (by omega) (f_gh T) _ (h0 + 1) h_4 hF_4 ((f_gh_Y hY (by omega))) (hA.As (f_gh_As hY (by omega))) (by omega) hK
set_option maxRecDepth 100000 in
set_option maxHeartbeats 4000000 in
theorem v_m_ends (xs : List Int32) {T : q_T} {m : am_Mm} (h : q_Rm T m) (hY : q_Y 0 T) (hP : q_Pl T) (u : Int32) : am_V xs 8 205 [.ref 153, .int u] m (am_qi (f_ends T u).1 (q_G (f_ends T u).2 m)) := by
  have hB := hY.1
  have hF : q_FC m m := q_FC.rf
  have hn : T.1 153 0 < 7 := hB 153 0
  have b32 : T.1 153 32 < 11 := hB 153 32
  refine am_V_of ky_205 (Nat.le_of_ble_eq_true rfl) ?_
  show am_P xs 7 m_ends 0 [some (.ref 153), some (.int u), none] [] m _
  refine w_iload_n (pc' := 1) rfl rfl rfl ?_
  refine w_iconst (pc' := 2) 0 rfl rfl ic_0 ?_
  refine w_iconst (pc' := 3) 1 rfl rfl ic_1 ?_
  refine w_cS3i (pc' := 6) (v_m_win xs _ _ _ (2) (by omega) (by first | decide | rfl)) (by decide) rfl rfl rfl (Or.inl rfl) (Nat.le_of_ble_eq_true rfl) (fun m' hm' => ?_)
  rw [show m' = m from hm']
  clear hm' m'
  refine w_if_ne (t := 11) (pc' := 9) rfl (by decide) rfl (fun h6 => ?_) (fun h6 => ?_)
  · obtain ⟨j1, hj1, rfl⟩ := q_is_of (bB_n0.mp h6) (by omega)
    refine w_aload_n (pc' := 12) rfl rfl rfl rfl ?_
    refine w_aload_n (pc' := 13) rfl rfl rfl rfl ?_
    refine w_getC (pc' := 16) rfl rfl rfl sh_153 rfl ?_
    refine w_cV1n (pc' := 19) (v_m_keep xs (c := 180) (by decide) sh_180) (by decide) rfl rfl rfl (Nat.le_of_ble_eq_true rfl) sh_153 rfl (fun m1 hm' => ?_)
    have K_1 : m1 = am_kp m 180 q_D := hm'
    have h_1 : q_Rm T m1 := by rw [K_1]; exact q_Rm_kp h
    have hF_1 : q_FB m1 m1 := q_FB.rf
    refine w_iconst (pc' := 20) 0 rfl rfl ic_0 ?_
    refine w_ist2 (pc' := 21) rfl rfl rfl ?_
    refine lp_ends xs hP (u := nI j1) (T.1 153 32) 0 (by omega) T m1 0 h_1 hF_1 hY q_Ae.rf (by omega) ?_
    intro m2 h2 h_2 hF_2 hY2 hh2 hA2
    have hA2 : q_Ae T (f_en T) := hA2
    have hY2 : q_Y h2 (f_en T) := hY2
    have h_2 : q_Rm (f_en T) m2 := h_2
    refine w_iload_n (pc' := 114) rfl rfl rfl ?_
    refine w_if_ne (t := 124) (pc' := 117) rfl (by decide) rfl (fun h114 => ?_) (fun h114 => ?_)
    · have g2 : ¬ j1 = 0 := fun q => h114 ((nI_eq (a := j1) (b := 0) (by omega) (by omega)).mpr q)
      refine w_aload_n (pc' := 125) rfl rfl rfl rfl ?_
      refine w_cV0i (pc' := 128) (v_m_allDrew xs h_2 hY2.1) (by decide) rfl rfl rfl (Nat.le_of_ble_eq_true rfl) sh_153 rfl (fun m' hm' => ?_)
      rw [show m' = m2 from hm']
      clear hm' m'
      refine w_ist2 (pc' := 129) rfl rfl rfl ?_
      refine w_aload_n (pc' := 130) rfl rfl rfl rfl ?_
      refine w_aload_n (pc' := 131) rfl rfl rfl rfl ?_
      refine w_getC (pc' := 134) rfl rfl rfl sh_153 rfl ?_
      refine w_cV1n (pc' := 137) (v_m_again xs (c := 180) (Or.inr rfl) sh_180) (by decide) rfl rfl rfl (Nat.le_of_ble_eq_true rfl) sh_153 rfl (fun m3 hm' => ?_)
      have R_3 : q_Rm T m3 ∧ q_FC m m3 := by rw [show m3 = am_ag m2 180 q_D from hm']; exact q_again h K_1 h_2 hF_2 (hA2.1)
      have h_3 := R_3.1
      have hF_3 := hF.tr R_3.2
      refine w_iload_n (pc' := 138) rfl rfl rfl ?_
      refine w_iret rfl rfl rfl ?_
      have hf : f_ends T (nI j1) = (nI ((f_od (f_en T))), T) := by simp [f_ends, q_is_nI (n := 2) hj1 (by omega), nI_clamp (show j1 < 2 ^ 31 by omega), g2]
      rw [hf]
      exact ⟨rfl, h_3, hF_3⟩
    · have g3 : j1 = 0 := (nI_eq (a := j1) (b := 0) (by omega) (by omega)).mp h114
      refine w_aload_n (pc' := 118) rfl rfl rfl rfl ?_
      refine w_getI (pc' := 121) rfl rfl rfl sh_153 rfl ?_
      rw [show m2.1 153 10 = nI ((f_en T).1 153 (10)) from (rf_10 h_2 :)]
      have b4 : ((f_en T).1 153 (10)) < 65536 := hY2.1 153 (10)
      refine w_goto (pc' := 128) rfl (by decide) ?_
      refine w_ist2 (pc' := 129) rfl rfl rfl ?_
      refine w_aload_n (pc' := 130) rfl rfl rfl rfl ?_
      refine w_aload_n (pc' := 131) rfl rfl rfl rfl ?_
      refine w_getC (pc' := 134) rfl rfl rfl sh_153 rfl ?_
      refine w_cV1n (pc' := 137) (v_m_again xs (c := 180) (Or.inr rfl) sh_180) (by decide) rfl rfl rfl (Nat.le_of_ble_eq_true rfl) sh_153 rfl (fun m4 hm' => ?_)
      have R_4 : q_Rm T m4 ∧ q_FC m m4 := by rw [show m4 = am_ag m2 180 q_D from hm']; exact q_again h K_1 h_2 hF_2 (hA2.1)
      have h_4 := R_4.1
      have hF_4 := hF.tr R_4.2
      refine w_iload_n (pc' := 138) rfl rfl rfl ?_
      refine w_iret rfl rfl rfl ?_
      have hf : f_ends T (nI j1) = (nI (((f_en T).1 153 (10))), T) := by simp [f_ends, q_is_nI (n := 2) hj1 (by omega), nI_clamp (show j1 < 2 ^ 31 by omega), eq_true g3]
      rw [hf]
      exact ⟨rfl, h_4, hF_4⟩
  · have hN5 := bB_0.mp h6
    refine w_iconst (pc' := 10) (-1) rfl rfl ic_m1 ?_
    refine w_iret rfl rfl rfl ?_
    have hf : f_ends T u = (-1, T) := by simp [f_ends, hN5]
    rw [hf]
    exact ⟨rfl, h, hF⟩
theorem q_kp_vd : ∀ i, i < 182 → q_vd (q_kp i).1 (q_kp i).2 = true ∧ ((q_kp i).1 < 179 ∧ (((q_kp i).1 = 182 ∨ ((q_kp i).1 = 153 ∧ (q_kp i).2 = 19)) ↔ i = 181)) := by decide +kernel
theorem q_enc_kp {i n : Nat} (hi : i < 182) : q_enc (q_kp i).1 (q_kp i).2 n = q_enc 179 i n := by
  obtain ⟨-, h0, h1⟩ := q_kp_vd i hi
  unfold q_enc
  by_cases e : i = 181
  · have h2 := h1.mpr e
    rw [if_pos (by omega), if_pos (by omega)]
  · have h2 := fun z => e (h1.mp z)
    rw [if_neg (fun z => h2 (by omega)), if_neg (by omega)]
/-- THE IMAGE as T now is -/
def q_im (T : q_T) : q_T := (fun c k => if c = 179 ∧ k < 182 then T.1 (q_kp k).1 (q_kp k).2 else T.1 c k, T.2)
/-- as THE IMAGE -/
def q_und (T : q_T) : q_T := (fun c k => if q_pi c k < 182 then T.1 179 (q_pi c k) else T.1 c k, T.2)
theorem q_Rm_im {T : q_T} {m : am_Mm} (h : q_Rm T m) : q_Rm (q_im T) (am_kp m 179 q_D) ∧ q_FC m (am_kp m 179 q_D) := by
  have e : ∀ c, c ≠ 179 → (am_kp m 179 q_D).1 c = m.1 c := fun c hc => by
    funext k
    exact if_neg (fun q => hc q.1)
  refine ⟨⟨fun c k hv => ?_, q_ROf.same h.2.1 (congrFun (e 153 (by decide)) _) (congrFun (e 153 (by decide)) _) (fun c h1 h2 => e c (by omega)), h.2.2⟩, fun c hc => ⟨e c (by omega), rfl⟩⟩
  show _ = q_enc c k (if c = 179 ∧ k < 182 then T.1 (q_kp k).1 (q_kp k).2 else T.1 c k)
  by_cases q : c = 179 ∧ k < 182
  · obtain ⟨rfl, hk⟩ := q
    rw [if_pos ⟨rfl, hk⟩, ← q_enc_kp hk, ← h.1 _ _ (q_kp_vd k hk).1]
    exact if_pos ⟨rfl, decide_eq_true hk⟩
  · rw [if_neg q, ← h.1 c k hv]
    exact if_neg (fun z => q ⟨z.1, of_decide_eq_true z.2⟩)
theorem q_Rm_und {T : q_T} {m : am_Mm} (h : q_Rm T m) : q_Rm (q_und T) (am_ag m 179 q_D) ∧ q_FC m (am_ag m 179 q_D) := by
  have h9 : ∀ c k, q_pi c k = 999 → (am_ag m 179 q_D).1 c k = m.1 c k := fun c k q => if_neg (fun z => by
    have := of_decide_eq_true z
    omega)
  refine ⟨⟨fun c k hv => ?_, q_ROf.same h.2.1 (h9 _ _ rfl) (h9 _ _ rfl) (fun c h1 h2 => ?_), h.2.2⟩, fun c hc => ⟨?_, rfl⟩⟩
  · show _ = q_enc c k (if q_pi c k < 182 then T.1 179 (q_pi c k) else T.1 c k)
    by_cases q : q_pi c k < 182
    · have e1 : (am_ag m 179 q_D).1 c k = m.1 179 (q_pi c k) := if_pos (decide_eq_true q)
      have e2 := q_enc_kp (n := T.1 179 (q_pi c k)) q
      rw [q_kp_pi c k q] at e2
      rw [e1, if_pos q, h.1 179 _ rfl, ← e2]
    · rw [if_neg q, ← h.1 c k hv]
      exact if_neg (fun z => q (of_decide_eq_true z))
  · funext k
    refine h9 c k ?_
    rcases (show c = 164 ∨ c = 165 ∨ c = 166 ∨ c = 167 ∨ c = 168 ∨ c = 169 by omega) with rfl | rfl | rfl | rfl | rfl | rfl <;> rfl
  · funext k
    exact h9 c k (q_pi_lo hc)
theorem am_b_n {b : Nat} (hb : b < 2) : am_b (nI b) = nI b := by
  rcases (show b = 0 ∨ b = 1 by omega) with rfl | rfl <;> decide
def f_image (T : q_T) : Int32 × q_T := (nI (T.1 153 0), q_im (q_Tu T 153 40 1))
def f_undo (T : q_T) : Int32 × q_T := if T.1 153 40 = 0 then (-3, T) else (nI ((q_und T).1 153 0), q_und T)
set_option maxRecDepth 100000 in
set_option maxHeartbeats 4000000 in
theorem v_m_image (xs : List Int32) {T : q_T} {m : am_Mm} (h : q_Rm T m) : am_V xs 3 209 [.ref 153] m (am_qi (f_image T).1 (q_G (f_image T).2 m)) := by
  have hF : q_FC m m := q_FC.rf
  refine am_V_of ky_209 (Nat.le_of_ble_eq_true rfl) ?_
  show am_P xs 2 m_image 0 [some (.ref 153)] [] m _
  refine w_aload_n (pc' := 1) rfl rfl rfl rfl ?_
  refine w_iconst (pc' := 2) 1 rfl rfl ic_1 ?_
  refine w_putB (pc' := 5) rfl rfl rfl sh_153 rfl rfl (by decide) rfl ?_
  refine w_gen (h.u (c := 153) (k := 40) (x := 1) rfl (y := _) (show _ = q_enc _ _ _ from rfl)) (hF.u (by decide)) (fun m1 h_1 hF_1 => ?_)
  refine w_aload_n (pc' := 6) rfl rfl rfl rfl ?_
  refine w_aload_n (pc' := 7) rfl rfl rfl rfl ?_
  refine w_getC (pc' := 10) rfl rfl rfl sh_153 rfl ?_
  refine w_cV1n (pc' := 13) (v_m_keep xs (c := 179) (by decide) sh_179) (by decide) rfl rfl rfl (Nat.le_of_ble_eq_true rfl) sh_153 rfl (fun m2 hm' => ?_)
  have I_2 := q_Rm_im h_1
  have e_2 : m2 = am_kp m1 179 q_D := hm'
  have h_2 : q_Rm (q_im (q_Tu T 153 40 1)) m2 := by rw [e_2]; exact I_2.1
  have hF_2 : q_FC m m2 := by rw [e_2]; exact hF_1.tr I_2.2
  refine w_aload_n (pc' := 14) rfl rfl rfl rfl ?_
  refine w_getI (pc' := 17) rfl rfl rfl sh_153 rfl ?_
  rw [show m2.1 153 0 = nI ((q_im (q_Tu T 153 40 1)).1 153 (0)) from (rf_0 h_2 :)]
  rw [show (q_im (q_Tu T 153 40 1)).1 153 0 = T.1 153 0 from rfl]
  refine w_iret rfl rfl rfl ?_
  exact ⟨rfl, h_2, hF_2⟩
set_option maxRecDepth 100000 in
set_option maxHeartbeats 4000000 in
theorem v_m_undo (xs : List Int32) {T : q_T} {m : am_Mm} (h : q_Rm T m) (hB : q_Bd T) : am_V xs 3 210 [.ref 153] m (am_qi (f_undo T).1 (q_G (f_undo T).2 m)) := by
  have hF : q_FC m m := q_FC.rf
  have b40 : T.1 153 40 < 2 := hB 153 40
  refine am_V_of ky_210 (Nat.le_of_ble_eq_true rfl) ?_
  show am_P xs 2 m_undo 0 [some (.ref 153)] [] m _
  refine w_aload_n (pc' := 1) rfl rfl rfl rfl ?_
  refine w_getB (pc' := 4) rfl rfl rfl sh_153 rfl ?_
  rw [show m.1 153 40 = nI (T.1 153 40) from rf_40 h, am_b_n b40]
  refine w_if_ne (t := 10) (pc' := 7) rfl (by decide) rfl (fun h4 => ?_) (fun h4 => ?_)
  · have g1 : ¬ (T.1 153 40) = 0 := fun q => h4 ((nI_eq (a := (T.1 153 40)) (b := 0) (by omega) (by omega)).mpr q)
    refine w_aload_n (pc' := 11) rfl rfl rfl rfl ?_
    refine w_aload_n (pc' := 12) rfl rfl rfl rfl ?_
    refine w_getC (pc' := 15) rfl rfl rfl sh_153 rfl ?_
    refine w_cV1n (pc' := 18) (v_m_again xs (c := 179) (Or.inl rfl) sh_179) (by decide) rfl rfl rfl (Nat.le_of_ble_eq_true rfl) sh_153 rfl (fun m1 hm' => ?_)
    have I_1 := q_Rm_und h
    have e_1 : m1 = am_ag m 179 q_D := hm'
    have h_1 : q_Rm (q_und T) m1 := by rw [e_1]; exact I_1.1
    have hF_1 : q_FC m m1 := by rw [e_1]; exact hF.tr I_1.2
    refine w_aload_n (pc' := 19) rfl rfl rfl rfl ?_
    refine w_getI (pc' := 22) rfl rfl rfl sh_153 rfl ?_
    rw [show m1.1 153 0 = nI ((q_und T).1 153 (0)) from (rf_0 h_1 :)]
    refine w_iret rfl rfl rfl ?_
    rw [show f_undo T = (nI ((q_und T).1 153 0), q_und T) from if_neg (by omega)]
    exact ⟨rfl, h_1, hF_1⟩
  · have g2 : (T.1 153 40) = 0 := (nI_eq (a := (T.1 153 40)) (b := 0) (by omega) (by omega)).mp h4
    refine w_bipush (pc' := 9) (-3) rfl rfl bp_m3 ?_
    refine w_iret rfl rfl rfl ?_
    rw [show f_undo T = (-3, T) from if_pos (by omega)]
    exact ⟨rfl, h, hF⟩
