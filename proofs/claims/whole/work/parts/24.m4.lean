def q_Ti (T : q_T) (t i : Nat) (v : Int64) : q_T := (T.1, (T.2.1, fun t' i' => if t' = t ∧ i' = i then v else T.2.2 t' i'))
theorem q_Rm.uJ {T : q_T} {m : am_Mm} (h : q_Rm T m) {t i : Nat} (ht : t < 6) (hi : i < 60) (v : Int64) : q_Rm (q_Ti T t i v) (am_uJ m 184 (60 * t + i) v) := by
  refine ⟨h.1, h.2.1, fun t' i' ht' hi' => ?_⟩
  show (if 184 = 184 ∧ 60 * t' + i' = 60 * t + i then v else m.2 184 (60 * t' + i')) = if t' = t ∧ i' = i then v else T.2.2 t' i'
  by_cases hq : t' = t ∧ i' = i
  · obtain ⟨rfl, rfl⟩ := hq
    rw [if_pos ⟨rfl, rfl⟩, if_pos ⟨rfl, rfl⟩]
  · rw [if_neg (fun q => hq (by omega)), if_neg hq]
    exact h.2.2 t' i' ht' hi'
theorem q_FC.uJ {m m' : am_Mm} {c k : Nat} {x : Int64} (h : q_FC m m') (hc : 153 ≤ c) : q_FC m (am_uJ m' c k x) := fun c' hc' => ⟨(h c' hc').1, by
  rw [← (h c' hc').2]
  funext k'
  exact if_neg (fun q => by omega)⟩
theorem nI_p1 {x : Nat} (hx : x < 2 ^ 31) : (0 ≤ nI x - 1) ↔ 0 < x := by
  cases x with
  | zero => exact ⟨fun h => absurd h (by decide), fun h => absurd h (by decide)⟩
  | succ x =>
    rw [nI_pred]
    exact ⟨fun _ => Nat.succ_pos x, fun _ => nI_pos' (by omega)⟩
theorem nI_pp {a b : Nat} (ha : a < 2 ^ 31) (hb : b < 2 ^ 31) : nI a - 1 = nI b - 1 ↔ a = b := by
  rw [← nI_eq ha hb]
  refine ⟨fun h => ?_, fun h => by rw [h]⟩
  have h2 := congrArg (· + (1 : Int32)) h
  simp only [Int32.sub_add_cancel] at h2
  exact h2
set_option maxRecDepth 100000 in
set_option maxHeartbeats 4000000 in
theorem v_jm_min0 (xs : List Int32) (m : am_Mm) {a b : Nat} (ha : a < 2 ^ 31) (hb : b < 2 ^ 31) : am_V xs 1 86 [.int (nI a), .int (nI b)] m (am_qi (nI (min a b)) (· = m)) := by
  refine am_V_of ky_86 (Nat.le_of_ble_eq_true rfl) ?_
  show am_P xs 0 jm_min 0 [some (.int (nI a)), some (.int (nI b))] [] m _
  refine w_iload_n (pc' := 1) rfl rfl rfl ?_
  refine w_iload_n (pc' := 2) rfl rfl rfl ?_
  refine w_ic_gt (t := 9) (pc' := 5) rfl (by decide) rfl (fun h2 => ?_) (fun h2 => ?_)
  · have g1 : b < a := (nI_ltI (a := b) (b := a) (by omega) (by omega)).mp h2
    refine w_iload_n (pc' := 10) rfl rfl rfl ?_
    refine w_iret rfl rfl rfl ?_
    exact ⟨by rw [show min a b = b by omega], rfl⟩
  · have g2 : ¬ b < a := fun q => h2 ((nI_ltI (a := b) (b := a) (by omega) (by omega)).mpr q)
    refine w_iload_n (pc' := 6) rfl rfl rfl ?_
    refine w_goto (pc' := 10) rfl (by decide) ?_
    refine w_iret rfl rfl rfl ?_
    exact ⟨by rw [show min a b = a by omega], rfl⟩
def f_trace (T : q_T) (i : Int32) : Int32 × q_T := if q_is i (min 20 (T.1 153 38)) = true then (nI (T.1 178 i.toNatClampNeg), T) else (-1, T)
set_option maxRecDepth 100000 in
set_option maxHeartbeats 4000000 in
theorem v_m_trace (xs : List Int32) {T : q_T} {m : am_Mm} (h : q_Rm T m) (hB : q_Bd T) (i : Int32) : am_V xs 3 217 [.ref 153, .int i] m (am_qi (f_trace T i).1 (q_G (f_trace T i).2 m)) := by
  have hF : q_FC m m := q_FC.rf
  have hn : T.1 153 0 < 7 := hB 153 0
  refine am_V_of ky_217 (Nat.le_of_ble_eq_true rfl) ?_
  show am_P xs 2 m_trace 0 [some (.ref 153), some (.int i)] [] m _
  refine w_iload_n (pc' := 1) rfl rfl rfl ?_
  refine w_iconst (pc' := 2) 0 rfl rfl ic_0 ?_
  refine w_bipush (pc' := 4) 20 rfl rfl bp_20 ?_
  refine w_aload_n (pc' := 5) rfl rfl rfl rfl ?_
  refine w_getI (pc' := 8) rfl rfl rfl sh_153 rfl ?_
  rw [show m.1 153 38 = nI (T.1 153 (38)) from (rf_38 h :)]
  have b1 : (T.1 153 (38)) < 100 := hB 153 (38)
  refine w_cS2i (pc' := 11) (v_jm_min0 xs _ (a := 20) (b := (T.1 153 (38))) (by omega) (by omega)) (by decide) rfl rfl rfl (Or.inl rfl) (Nat.le_of_ble_eq_true rfl) (fun m' hm' => ?_)
  rw [show m' = m from hm']
  clear hm' m'
  refine w_iconst (pc' := 12) 1 rfl rfl ic_1 ?_
  refine w_isub (pc' := 13) rfl rfl ?_
  refine w_cS3i (pc' := 16) (v_m_win xs _ _ _ (min 20 (T.1 153 38)) (by omega) (by first | decide | rfl)) (by decide) rfl rfl rfl (Or.inl rfl) (Nat.le_of_ble_eq_true rfl) (fun m' hm' => ?_)
  rw [show m' = m from hm']
  clear hm' m'
  refine w_if_eq (t := 28) (pc' := 19) rfl (by decide) rfl (fun h16 => ?_) (fun h16 => ?_)
  · have hN2 := bB_0.mp h16
    refine w_iconst (pc' := 29) (-1) rfl rfl ic_m1 ?_
    refine w_iret rfl rfl rfl ?_
    have hf : f_trace T i = (-1, T) := by simp [f_trace, hN2]
    rw [hf]
    exact ⟨rfl, h, hF⟩
  · obtain ⟨j3, hj3, rfl⟩ := q_is_of (bB_n0.mp h16) (by omega)
    refine w_aload_n (pc' := 20) rfl rfl rfl rfl ?_
    refine w_getC (pc' := 23) rfl rfl rfl sh_153 rfl ?_
    refine w_iload_n (pc' := 24) rfl rfl rfl ?_
    refine w_iald (j := (j3)) (pc' := 25) rfl rfl sh_178 rfl (by omega) (by decide) ?_
    rw [show m.1 178 j3 = nI (T.1 178 (j3)) from (rd_178 h _ :)]
    have b4 : (T.1 178 (j3)) < 100 := hB 178 (j3)
    refine w_goto (pc' := 29) rfl (by decide) ?_
    refine w_iret rfl rfl rfl ?_
    have hf : f_trace T (nI j3) = (nI ((T.1 178 (j3))), T) := by simp [f_trace, q_is_nI (n := min 20 (T.1 153 38)) hj3 (by omega), nI_clamp (show j3 < 2 ^ 31 by omega)]
    rw [hf]
    exact ⟨rfl, h, hF⟩
theorem v_m_winn (xs : List Int32) (m : am_Mm) {j : Nat} (hj : j < 2 ^ 31) : am_V xs 1 141 [.int (nI j), .int 1, .int 2] m (am_qi (bB (decide (1 ≤ j ∧ j ≤ 2))) (· = m)) := by
  have := v_m_within xs m (nI j) 1 2
  rwa [bI_B (b := decide (1 ≤ j ∧ j ≤ 2))] at this
  rw [decide_eq_true_iff]
  exact and_congr (nI_leI (a := 1) (b := j) (by omega) hj) (nI_leI (a := j) (b := 2) hj (by omega))
def f_plan (T : q_T) (a n : Int32) : Int32 × q_T := if a = -1 then (0, q_Tu T 153 32 0) else if q_is a 4 = true ∧ (if 1 ≤ a.toNatClampNeg ∧ a.toNatClampNeg ≤ 2 then q_is n (T.1 153 0) else if a.toNatClampNeg = 3 then q_is n 16 else true) = true then (if T.1 153 32 = 10 then (-4, T) else (nI (T.1 153 32 + 1), q_Tu (q_Tu (q_Tu T 174 (T.1 153 32) a.toNatClampNeg) 153 32 (T.1 153 32 + 1)) 175 (T.1 153 32) (if a.toNatClampNeg = 0 then 0 else n.toNatClampNeg))) else (-1, T)
set_option maxRecDepth 100000 in
set_option maxHeartbeats 4000000 in
theorem v_m_plan (xs : List Int32) {T : q_T} {m : am_Mm} (h : q_Rm T m) (hB : q_Bd T) (a : Int32) (n : Int32) : am_V xs 3 204 [.ref 153, .int a, .int n] m (am_qi (f_plan T a n).1 (q_G (f_plan T a n).2 m)) := by
  have hF : q_FC m m := q_FC.rf
  have hn : T.1 153 0 < 7 := hB 153 0
  refine am_V_of ky_204 (Nat.le_of_ble_eq_true rfl) ?_
  show am_P xs 2 m_plan 0 [some (.ref 153), some (.int a), some (.int n)] [] m _
  refine w_iload_n (pc' := 1) rfl rfl rfl ?_
  refine w_iconst (pc' := 2) (-1) rfl rfl ic_m1 ?_
  refine w_ic_ne (t := 12) (pc' := 5) rfl (by decide) rfl (fun h2 => ?_) (fun h2 => ?_)
  · have gn : ¬ a = -1 := h2
    refine w_iload_n (pc' := 13) rfl rfl rfl ?_
    refine w_iconst (pc' := 14) 0 rfl rfl ic_0 ?_
    refine w_iconst (pc' := 15) 3 rfl rfl ic_3 ?_
    refine w_cS3i (pc' := 18) (v_m_win xs _ _ _ (4) (by omega) (by first | decide | rfl)) (by decide) rfl rfl rfl (Or.inl rfl) (Nat.le_of_ble_eq_true rfl) (fun m' hm' => ?_)
    rw [show m' = m from hm']
    clear hm' m'
    refine w_if_eq (t := 50) (pc' := 21) rfl (by decide) rfl (fun h18 => ?_) (fun h18 => ?_)
    · have hN1 := bB_0.mp h18
      refine w_iconst (pc' := 51) (-1) rfl rfl ic_m1 ?_
      refine w_iret rfl rfl rfl ?_
      have hf : f_plan T a n = (-1, T) := by simp [f_plan, gn, hN1]
      rw [hf]
      exact ⟨rfl, h, hF⟩
    · obtain ⟨j2, hj2, rfl⟩ := q_is_of (bB_n0.mp h18) (by omega)
      refine w_iload_n (pc' := 22) rfl rfl rfl ?_
      refine w_iconst (pc' := 23) 1 rfl rfl ic_1 ?_
      refine w_iconst (pc' := 24) 2 rfl rfl ic_2 ?_
      refine w_cS3i (pc' := 27) (v_m_winn xs _ (by omega)) (by decide) rfl rfl rfl (Or.inl rfl) (Nat.le_of_ble_eq_true rfl) (fun m' hm' => ?_)
      rw [show m' = m from hm']
      clear hm' m'
      refine w_if_eq (t := 38) (pc' := 30) rfl (by decide) rfl (fun h27 => ?_) (fun h27 => ?_)
      · have hW3 : ¬ (1 ≤ j2 ∧ j2 ≤ 2) := of_decide_eq_false (bB_0.mp h27)
        refine w_iload_n (pc' := 39) rfl rfl rfl ?_
        refine w_iconst (pc' := 40) 3 rfl rfl ic_3 ?_
        refine w_ic_ne (t := 52) (pc' := 43) rfl (by decide) rfl (fun h40 => ?_) (fun h40 => ?_)
        · have g4 : ¬ j2 = 3 := fun q => h40 ((nI_eq (a := j2) (b := 3) (by omega) (by omega)).mpr q)
          refine w_aload_n (pc' := 53) rfl rfl rfl rfl ?_
          refine w_getI (pc' := 56) rfl rfl rfl sh_153 rfl ?_
          rw [show m.1 153 32 = nI (T.1 153 (32)) from (rf_32 h :)]
          have b5 : (T.1 153 (32)) < 11 := hB 153 (32)
          refine w_bipush (pc' := 58) 10 rfl rfl bp_10 ?_
          refine w_ic_ne (t := 64) (pc' := 61) rfl (by decide) rfl (fun h58 => ?_) (fun h58 => ?_)
          · have g6 : ¬ (T.1 153 (32)) = 10 := fun q => h58 ((nI_eq (a := (T.1 153 (32))) (b := 10) (by omega) (by omega)).mpr q)
            refine w_aload_n (pc' := 65) rfl rfl rfl rfl ?_
            refine w_getC (pc' := 68) rfl rfl rfl sh_153 rfl ?_
            refine w_aload_n (pc' := 69) rfl rfl rfl rfl ?_
            refine w_getI (pc' := 72) rfl rfl rfl sh_153 rfl ?_
            rw [show m.1 153 32 = nI (T.1 153 (32)) from (rf_32 h :)]
            have b7 : (T.1 153 (32)) < 11 := hB 153 (32)
            refine w_iload_n (pc' := 73) rfl rfl rfl ?_
            refine w_iast (j := ((T.1 153 (32)))) (pc' := 74) rfl rfl sh_174 rfl (by omega) (by decide) ?_
            refine w_gen (h.u (c := 174) (k := (T.1 153 (32))) (x := j2) rfl (y := _) (show _ = q_enc _ _ _ from rfl)) (hF.u (by decide)) (fun m1 h_1 hF_1 => ?_)
            refine w_aload_n (pc' := 75) rfl rfl rfl rfl ?_
            refine w_getC (pc' := 78) rfl rfl rfl sh_153 rfl ?_
            refine w_aload_n (pc' := 79) rfl rfl rfl rfl ?_
            refine w_dup (pc' := 80) rfl rfl rfl ?_
            refine w_getI (pc' := 83) rfl rfl rfl sh_153 rfl ?_
            rw [show m1.1 153 32 = nI (T.1 153 (32)) from (rf_32 h_1 :)]
            have b8 : (T.1 153 (32)) < 11 := hB 153 (32)
            refine w_dup_x1 (pc' := 84) rfl rfl ⟨rfl, rfl⟩ ?_
            refine w_iconst (pc' := 85) 1 rfl rfl ic_1 ?_
            refine w_iadd (pc' := 86) rfl rfl ?_
            rw [show nI ((T.1 153 (32))) + (1 : Int32) = nI ((T.1 153 (32)) + 1) from nI_add _ _]
            refine w_putI (pc' := 89) rfl rfl rfl sh_153 rfl rfl rfl ?_
            refine w_gen (h_1.u (c := 153) (k := 32) (x := (T.1 153 (32)) + 1) rfl (y := _) (show _ = q_enc _ _ _ from rfl)) (hF_1.u (by decide)) (fun m2 h_2 hF_2 => ?_)
            refine w_iload_n (pc' := 90) rfl rfl rfl ?_
            refine w_if_ne (t := 97) (pc' := 93) rfl (by decide) rfl (fun h90 => ?_) (fun h90 => ?_)
            · have g9 : ¬ j2 = 0 := fun q => h90 ((nI_eq (a := j2) (b := 0) (by omega) (by omega)).mpr q)
              omega
            · have g10 : j2 = 0 := (nI_eq (a := j2) (b := 0) (by omega) (by omega)).mp h90
              refine w_iconst (pc' := 94) 0 rfl rfl ic_0 ?_
              refine w_goto (pc' := 98) rfl (by decide) ?_
              refine w_iast (j := ((T.1 153 (32)))) (pc' := 99) rfl rfl sh_175 rfl (by omega) (by decide) ?_
              refine w_gen (h_2.u (c := 175) (k := (T.1 153 (32))) (x := 0) rfl (y := _) (show _ = q_enc _ _ _ from rfl)) (hF_2.u (by decide)) (fun m3 h_3 hF_3 => ?_)
              refine w_aload_n (pc' := 100) rfl rfl rfl rfl ?_
              refine w_getI (pc' := 103) rfl rfl rfl sh_153 rfl ?_
              rw [show m3.1 153 32 = nI ((T.1 153 (32)) + 1) from (rf_32 h_3 :)]
              refine w_iret rfl rfl rfl ?_
              have hf : f_plan T (nI j2) n = (nI ((T.1 153 (32)) + 1), (q_Tu (q_Tu (q_Tu T 174 ((T.1 153 (32))) (j2)) 153 (32) ((T.1 153 (32)) + 1)) 175 ((T.1 153 (32))) (0))) := by simp [f_plan, gn, q_is_nI (n := 4) hj2 (by omega), nI_clamp (show j2 < 2 ^ 31 by omega), hW3, g4, g6, eq_true g10]
              rw [hf]
              exact ⟨rfl, h_3, hF_3⟩
          · have g11 : (T.1 153 (32)) = 10 := (nI_eq (a := (T.1 153 (32))) (b := 10) (by omega) (by omega)).mp h58
            refine w_bipush (pc' := 63) (-4) rfl rfl bp_m4 ?_
            refine w_iret rfl rfl rfl ?_
            have hf : f_plan T (nI j2) n = (-4, T) := by simp [f_plan, gn, q_is_nI (n := 4) hj2 (by omega), nI_clamp (show j2 < 2 ^ 31 by omega), hW3, g4, eq_true g11]
            rw [hf]
            exact ⟨rfl, h, hF⟩
        · have g12 : j2 = 3 := (nI_eq (a := j2) (b := 3) (by omega) (by omega)).mp h40
          refine w_iload_n (pc' := 44) rfl rfl rfl ?_
          refine w_cS1i (pc' := 47) (v_m_cell xs _ _) (by decide) rfl rfl rfl (Or.inl rfl) (Nat.le_of_ble_eq_true rfl) (fun m' hm' => ?_)
          rw [show m' = m from hm']
          clear hm' m'
          refine w_if_ne (t := 52) (pc' := 50) rfl (by decide) rfl (fun h47 => ?_) (fun h47 => ?_)
          · obtain ⟨j13, hj13, rfl⟩ := q_is_of (bB_n0.mp h47) (by omega)
            refine w_aload_n (pc' := 53) rfl rfl rfl rfl ?_
            refine w_getI (pc' := 56) rfl rfl rfl sh_153 rfl ?_
            rw [show m.1 153 32 = nI (T.1 153 (32)) from (rf_32 h :)]
            have b14 : (T.1 153 (32)) < 11 := hB 153 (32)
            refine w_bipush (pc' := 58) 10 rfl rfl bp_10 ?_
            refine w_ic_ne (t := 64) (pc' := 61) rfl (by decide) rfl (fun h58 => ?_) (fun h58 => ?_)
            · have g15 : ¬ (T.1 153 (32)) = 10 := fun q => h58 ((nI_eq (a := (T.1 153 (32))) (b := 10) (by omega) (by omega)).mpr q)
              refine w_aload_n (pc' := 65) rfl rfl rfl rfl ?_
              refine w_getC (pc' := 68) rfl rfl rfl sh_153 rfl ?_
              refine w_aload_n (pc' := 69) rfl rfl rfl rfl ?_
              refine w_getI (pc' := 72) rfl rfl rfl sh_153 rfl ?_
              rw [show m.1 153 32 = nI (T.1 153 (32)) from (rf_32 h :)]
              have b16 : (T.1 153 (32)) < 11 := hB 153 (32)
              refine w_iload_n (pc' := 73) rfl rfl rfl ?_
              refine w_iast (j := ((T.1 153 (32)))) (pc' := 74) rfl rfl sh_174 rfl (by omega) (by decide) ?_
              refine w_gen (h.u (c := 174) (k := (T.1 153 (32))) (x := j2) rfl (y := _) (show _ = q_enc _ _ _ from rfl)) (hF.u (by decide)) (fun m4 h_4 hF_4 => ?_)
              refine w_aload_n (pc' := 75) rfl rfl rfl rfl ?_
              refine w_getC (pc' := 78) rfl rfl rfl sh_153 rfl ?_
              refine w_aload_n (pc' := 79) rfl rfl rfl rfl ?_
              refine w_dup (pc' := 80) rfl rfl rfl ?_
              refine w_getI (pc' := 83) rfl rfl rfl sh_153 rfl ?_
              rw [show m4.1 153 32 = nI (T.1 153 (32)) from (rf_32 h_4 :)]
              have b17 : (T.1 153 (32)) < 11 := hB 153 (32)
              refine w_dup_x1 (pc' := 84) rfl rfl ⟨rfl, rfl⟩ ?_
              refine w_iconst (pc' := 85) 1 rfl rfl ic_1 ?_
              refine w_iadd (pc' := 86) rfl rfl ?_
              rw [show nI ((T.1 153 (32))) + (1 : Int32) = nI ((T.1 153 (32)) + 1) from nI_add _ _]
              refine w_putI (pc' := 89) rfl rfl rfl sh_153 rfl rfl rfl ?_
              refine w_gen (h_4.u (c := 153) (k := 32) (x := (T.1 153 (32)) + 1) rfl (y := _) (show _ = q_enc _ _ _ from rfl)) (hF_4.u (by decide)) (fun m5 h_5 hF_5 => ?_)
              refine w_iload_n (pc' := 90) rfl rfl rfl ?_
              refine w_if_ne (t := 97) (pc' := 93) rfl (by decide) rfl (fun h90 => ?_) (fun h90 => ?_)
              · have g18 : ¬ j2 = 0 := fun q => h90 ((nI_eq (a := j2) (b := 0) (by omega) (by omega)).mpr q)
                refine w_iload_n (pc' := 98) rfl rfl rfl ?_
                refine w_iast (j := ((T.1 153 (32)))) (pc' := 99) rfl rfl sh_175 rfl (by omega) (by decide) ?_
                refine w_gen (h_5.u (c := 175) (k := (T.1 153 (32))) (x := j13) rfl (y := _) (show _ = q_enc _ _ _ from rfl)) (hF_5.u (by decide)) (fun m6 h_6 hF_6 => ?_)
                refine w_aload_n (pc' := 100) rfl rfl rfl rfl ?_
                refine w_getI (pc' := 103) rfl rfl rfl sh_153 rfl ?_
                rw [show m6.1 153 32 = nI ((T.1 153 (32)) + 1) from (rf_32 h_6 :)]
                refine w_iret rfl rfl rfl ?_
                have hf : f_plan T (nI j2) (nI j13) = (nI ((T.1 153 (32)) + 1), (q_Tu (q_Tu (q_Tu T 174 ((T.1 153 (32))) (j2)) 153 (32) ((T.1 153 (32)) + 1)) 175 ((T.1 153 (32))) (j13))) := by simp [f_plan, gn, q_is_nI (n := 4) hj2 (by omega), nI_clamp (show j2 < 2 ^ 31 by omega), hW3, eq_true g12, q_is_nI (n := 16) hj13 (by omega), nI_clamp (show j13 < 2 ^ 31 by omega), g15, g18]
                rw [hf]
                exact ⟨rfl, h_6, hF_6⟩
              · have g19 : j2 = 0 := (nI_eq (a := j2) (b := 0) (by omega) (by omega)).mp h90
                omega
            · have g20 : (T.1 153 (32)) = 10 := (nI_eq (a := (T.1 153 (32))) (b := 10) (by omega) (by omega)).mp h58
              refine w_bipush (pc' := 63) (-4) rfl rfl bp_m4 ?_
              refine w_iret rfl rfl rfl ?_
              have hf : f_plan T (nI j2) (nI j13) = (-4, T) := by simp [f_plan, gn, q_is_nI (n := 4) hj2 (by omega), nI_clamp (show j2 < 2 ^ 31 by omega), hW3, eq_true g12, q_is_nI (n := 16) hj13 (by omega), nI_clamp (show j13 < 2 ^ 31 by omega), eq_true g20]
              rw [hf]
              exact ⟨rfl, h, hF⟩
          · have hN21 := bB_0.mp h47
            refine w_iconst (pc' := 51) (-1) rfl rfl ic_m1 ?_
            refine w_iret rfl rfl rfl ?_
            have hf : f_plan T (nI j2) n = (-1, T) := by simp [f_plan, gn, q_is_nI (n := 4) hj2 (by omega), nI_clamp (show j2 < 2 ^ 31 by omega), hW3, eq_true g12, hN21]
            rw [hf]
            exact ⟨rfl, h, hF⟩
      · have hW22 : 1 ≤ j2 ∧ j2 ≤ 2 := of_decide_eq_true (bB_n0.mp h27)
        refine w_aload_n (pc' := 31) rfl rfl rfl rfl ?_
        refine w_iload_n (pc' := 32) rfl rfl rfl ?_
        refine w_cV1i (pc' := 35) (v_m_one xs h (by omega) _) (by decide) rfl rfl rfl (Nat.le_of_ble_eq_true rfl) sh_153 rfl (fun m' hm' => ?_)
        rw [show m' = m from hm']
        clear hm' m'
        refine w_if_eq (t := 50) (pc' := 38) rfl (by decide) rfl (fun h35 => ?_) (fun h35 => ?_)
        · have hN23 := bB_0.mp h35
          refine w_iconst (pc' := 51) (-1) rfl rfl ic_m1 ?_
          refine w_iret rfl rfl rfl ?_
          have hf : f_plan T (nI j2) n = (-1, T) := by simp [f_plan, gn, q_is_nI (n := 4) hj2 (by omega), nI_clamp (show j2 < 2 ^ 31 by omega), hW22, hN23]
          rw [hf]
          exact ⟨rfl, h, hF⟩
        · obtain ⟨j24, hj24, rfl⟩ := q_is_of (bB_n0.mp h35) (by omega)
          refine w_iload_n (pc' := 39) rfl rfl rfl ?_
          refine w_iconst (pc' := 40) 3 rfl rfl ic_3 ?_
          refine w_ic_ne (t := 52) (pc' := 43) rfl (by decide) rfl (fun h40 => ?_) (fun h40 => ?_)
          · have g25 : ¬ j2 = 3 := fun q => h40 ((nI_eq (a := j2) (b := 3) (by omega) (by omega)).mpr q)
            refine w_aload_n (pc' := 53) rfl rfl rfl rfl ?_
            refine w_getI (pc' := 56) rfl rfl rfl sh_153 rfl ?_
            rw [show m.1 153 32 = nI (T.1 153 (32)) from (rf_32 h :)]
            have b26 : (T.1 153 (32)) < 11 := hB 153 (32)
            refine w_bipush (pc' := 58) 10 rfl rfl bp_10 ?_
            refine w_ic_ne (t := 64) (pc' := 61) rfl (by decide) rfl (fun h58 => ?_) (fun h58 => ?_)
            · have g27 : ¬ (T.1 153 (32)) = 10 := fun q => h58 ((nI_eq (a := (T.1 153 (32))) (b := 10) (by omega) (by omega)).mpr q)
              refine w_aload_n (pc' := 65) rfl rfl rfl rfl ?_
              refine w_getC (pc' := 68) rfl rfl rfl sh_153 rfl ?_
              refine w_aload_n (pc' := 69) rfl rfl rfl rfl ?_
              refine w_getI (pc' := 72) rfl rfl rfl sh_153 rfl ?_
              rw [show m.1 153 32 = nI (T.1 153 (32)) from (rf_32 h :)]
              have b28 : (T.1 153 (32)) < 11 := hB 153 (32)
              refine w_iload_n (pc' := 73) rfl rfl rfl ?_
              refine w_iast (j := ((T.1 153 (32)))) (pc' := 74) rfl rfl sh_174 rfl (by omega) (by decide) ?_
              refine w_gen (h.u (c := 174) (k := (T.1 153 (32))) (x := j2) rfl (y := _) (show _ = q_enc _ _ _ from rfl)) (hF.u (by decide)) (fun m7 h_7 hF_7 => ?_)
              refine w_aload_n (pc' := 75) rfl rfl rfl rfl ?_
              refine w_getC (pc' := 78) rfl rfl rfl sh_153 rfl ?_
              refine w_aload_n (pc' := 79) rfl rfl rfl rfl ?_
              refine w_dup (pc' := 80) rfl rfl rfl ?_
              refine w_getI (pc' := 83) rfl rfl rfl sh_153 rfl ?_
              rw [show m7.1 153 32 = nI (T.1 153 (32)) from (rf_32 h_7 :)]
              have b29 : (T.1 153 (32)) < 11 := hB 153 (32)
              refine w_dup_x1 (pc' := 84) rfl rfl ⟨rfl, rfl⟩ ?_
              refine w_iconst (pc' := 85) 1 rfl rfl ic_1 ?_
              refine w_iadd (pc' := 86) rfl rfl ?_
              rw [show nI ((T.1 153 (32))) + (1 : Int32) = nI ((T.1 153 (32)) + 1) from nI_add _ _]
              refine w_putI (pc' := 89) rfl rfl rfl sh_153 rfl rfl rfl ?_
              refine w_gen (h_7.u (c := 153) (k := 32) (x := (T.1 153 (32)) + 1) rfl (y := _) (show _ = q_enc _ _ _ from rfl)) (hF_7.u (by decide)) (fun m8 h_8 hF_8 => ?_)
              refine w_iload_n (pc' := 90) rfl rfl rfl ?_
              refine w_if_ne (t := 97) (pc' := 93) rfl (by decide) rfl (fun h90 => ?_) (fun h90 => ?_)
              · have g30 : ¬ j2 = 0 := fun q => h90 ((nI_eq (a := j2) (b := 0) (by omega) (by omega)).mpr q)
                refine w_iload_n (pc' := 98) rfl rfl rfl ?_
                refine w_iast (j := ((T.1 153 (32)))) (pc' := 99) rfl rfl sh_175 rfl (by omega) (by decide) ?_
                refine w_gen (h_8.u (c := 175) (k := (T.1 153 (32))) (x := j24) rfl (y := _) (show _ = q_enc _ _ _ from rfl)) (hF_8.u (by decide)) (fun m9 h_9 hF_9 => ?_)
                refine w_aload_n (pc' := 100) rfl rfl rfl rfl ?_
                refine w_getI (pc' := 103) rfl rfl rfl sh_153 rfl ?_
                rw [show m9.1 153 32 = nI ((T.1 153 (32)) + 1) from (rf_32 h_9 :)]
                refine w_iret rfl rfl rfl ?_
                have hf : f_plan T (nI j2) (nI j24) = (nI ((T.1 153 (32)) + 1), (q_Tu (q_Tu (q_Tu T 174 ((T.1 153 (32))) (j2)) 153 (32) ((T.1 153 (32)) + 1)) 175 ((T.1 153 (32))) (j24))) := by simp [f_plan, gn, q_is_nI (n := 4) hj2 (by omega), nI_clamp (show j2 < 2 ^ 31 by omega), hW22, q_is_nI (n := T.1 153 0) hj24 (by omega), nI_clamp (show j24 < 2 ^ 31 by omega), g25, g27, g30]
                rw [hf]
                exact ⟨rfl, h_9, hF_9⟩
              · have g31 : j2 = 0 := (nI_eq (a := j2) (b := 0) (by omega) (by omega)).mp h90
                omega
            · have g32 : (T.1 153 (32)) = 10 := (nI_eq (a := (T.1 153 (32))) (b := 10) (by omega) (by omega)).mp h58
              refine w_bipush (pc' := 63) (-4) rfl rfl bp_m4 ?_
              refine w_iret rfl rfl rfl ?_
              have hf : f_plan T (nI j2) (nI j24) = (-4, T) := by simp [f_plan, gn, q_is_nI (n := 4) hj2 (by omega), nI_clamp (show j2 < 2 ^ 31 by omega), hW22, q_is_nI (n := T.1 153 0) hj24 (by omega), nI_clamp (show j24 < 2 ^ 31 by omega), g25, eq_true g32]
              rw [hf]
              exact ⟨rfl, h, hF⟩
          · have g33 : j2 = 3 := (nI_eq (a := j2) (b := 3) (by omega) (by omega)).mp h40
            omega
  · have gn : a = -1 := h2
    refine w_aload_n (pc' := 6) rfl rfl rfl rfl ?_
    refine w_iconst (pc' := 7) 0 rfl rfl ic_0 ?_
    refine w_putI (pc' := 10) rfl rfl rfl sh_153 rfl rfl rfl ?_
    refine w_gen (h.u (c := 153) (k := 32) (x := 0) rfl (y := _) (show _ = q_enc _ _ _ from rfl)) (hF.u (by decide)) (fun m10 h_10 hF_10 => ?_)
    refine w_iconst (pc' := 11) 0 rfl rfl ic_0 ?_
    refine w_iret rfl rfl rfl ?_
    have hf : f_plan T a n = (0, (q_Tu T 153 (32) (0))) := by simp [f_plan, gn]
    rw [hf]
    exact ⟨rfl, h_10, hF_10⟩
def f_kept (s : Int32) (v : Int64) : Int64 := if s = 0 then v.toInt32.toInt8.toInt32.toInt64 else if s = 1 then v.toInt32.toInt16.toInt32.toInt64 else if s = 2 then v.toInt32.toInt64 else if s = 3 then v else if lg_cmp v 0 = 0 then 0 else 1
set_option maxRecDepth 100000 in
set_option maxHeartbeats 4000000 in
theorem v_m_kept (xs : List Int32) (m : am_Mm) (s : Int32) (v : Int64) : am_V xs 1 223 [.int s, .long v] m (am_qj (f_kept s v) (· = m)) := by
  refine am_V_of ky_223 (Nat.le_of_ble_eq_true rfl) ?_
  show am_P xs 0 m_kept 0 [some (.int s), some (.long v), none] [] m _
  refine w_iload_n (pc' := 1) rfl rfl rfl ?_
  refine w_tsw (t := 48) rfl rfl (fun hD1 => ?_) (fun z1 hl1 hh1 hz1 => ?_)
  · have eD1_0 : ¬ s = 0 := fun q => by rw [q] at hD1; revert hD1; decide
    have eD1_1 : ¬ s = 1 := fun q => by rw [q] at hD1; revert hD1; decide
    have eD1_2 : ¬ s = 2 := fun q => by rw [q] at hD1; revert hD1; decide
    have eD1_3 : ¬ s = 3 := fun q => by rw [q] at hD1; revert hD1; decide
    refine w_lload_n (pc' := 49) rfl rfl rfl ?_
    refine w_lconst (pc' := 50) 0 rfl rfl rfl ?_
    refine w_lcmp (pc' := 51) rfl rfl ?_
    refine w_if_eq (t := 58) (pc' := 54) rfl (by decide) rfl (fun h51 => ?_) (fun h51 => ?_)
    · have hk51 : lg_cmp v 0 = 0 := h51
      refine w_lconst (pc' := 59) 0 rfl rfl rfl ?_
      refine w_lret rfl rfl ?_
      exact ⟨by simp [f_kept, eD1_0, eD1_1, eD1_2, eD1_3, hk51], rfl⟩
    · have hk51 : ¬ lg_cmp v 0 = 0 := h51
      refine w_lconst (pc' := 55) 1 rfl rfl rfl ?_
      refine w_goto (pc' := 59) rfl (by decide) ?_
      refine w_lret rfl rfl ?_
      exact ⟨by simp [f_kept, eD1_0, eD1_1, eD1_2, eD1_3, hk51], rfl⟩
  · rcases (show z1 = 0 ∨ z1 = 1 ∨ z1 = 2 ∨ z1 = 3 by omega) with rfl | rfl | rfl | rfl
    · refine ⟨31, 32, rfl, rfl, ?_⟩
      have e1 : s = 0 := ts_eq hz1 (by decide)
      refine w_lload_n (pc' := 33) rfl rfl rfl ?_
      refine w_l2i (pc' := 34) rfl rfl ?_
      refine w_i2b (pc' := 35) rfl rfl ?_
      refine w_i2l (pc' := 36) rfl rfl ?_
      refine w_lret rfl rfl ?_
      exact ⟨by simp [f_kept, e1], rfl⟩
    · refine ⟨36, 37, rfl, rfl, ?_⟩
      have e1 : s = 1 := ts_eq hz1 (by decide)
      refine w_lload_n (pc' := 38) rfl rfl rfl ?_
      refine w_l2i (pc' := 39) rfl rfl ?_
      refine w_i2s (pc' := 40) rfl rfl ?_
      refine w_i2l (pc' := 41) rfl rfl ?_
      refine w_lret rfl rfl ?_
      exact ⟨by simp [f_kept, e1], rfl⟩
    · refine ⟨41, 42, rfl, rfl, ?_⟩
      have e1 : s = 2 := ts_eq hz1 (by decide)
      refine w_lload_n (pc' := 43) rfl rfl rfl ?_
      refine w_l2i (pc' := 44) rfl rfl ?_
      refine w_i2l (pc' := 45) rfl rfl ?_
      refine w_lret rfl rfl ?_
      exact ⟨by simp [f_kept, e1], rfl⟩
    · refine ⟨45, 46, rfl, rfl, ?_⟩
      have e1 : s = 3 := ts_eq hz1 (by decide)
      refine w_lload_n (pc' := 47) rfl rfl rfl ?_
      refine w_lret rfl rfl ?_
      exact ⟨by simp [f_kept, e1], rfl⟩
set_option maxRecDepth 100000 in
set_option maxHeartbeats 4000000 in
theorem v_m_isTape (xs : List Int32) (m : am_Mm) (p : Int32) : am_V xs 2 221 [.int p] m (am_qi (bB (q_is p 6)) (· = m)) := by
  refine am_V_of ky_221 (Nat.le_of_ble_eq_true rfl) ?_
  show am_P xs 1 m_isTape 0 [some (.int p)] [] m _
  refine w_iload_n (pc' := 1) rfl rfl rfl ?_
  refine w_iconst (pc' := 2) 0 rfl rfl ic_0 ?_
  refine w_iconst (pc' := 3) 5 rfl rfl ic_5 ?_
  refine w_cS3i (pc' := 6) (v_m_win xs _ _ _ 6 (by omega) (by decide)) (by decide) rfl rfl rfl (Or.inl rfl) (Nat.le_of_ble_eq_true rfl) (fun m' hm' => ?_)
  rw [show m' = m from hm']
  clear hm' m'
  refine w_iret rfl rfl (by first | rfl | exact am_nbB _) ?_
  exact ⟨rfl, rfl⟩
def f_item (T : q_T) (t i : Int32) (v : Int64) : Int32 × q_T := if q_is t 6 = true then (if 0 < T.1 182 t.toNatClampNeg then (if q_is i (T.1 183 t.toNatClampNeg) = true then (1, q_Ti T t.toNatClampNeg i.toNatClampNeg (f_kept (nI (T.1 182 t.toNatClampNeg) - 1) v)) else (-13, T)) else (-11, T)) else (-1, T)
set_option maxRecDepth 100000 in
set_option maxHeartbeats 4000000 in
theorem v_m_item (xs : List Int32) {T : q_T} {m : am_Mm} (h : q_Rm T m) (hB : q_Bd T) (t : Int32) (i : Int32) (v : Int64) : am_V xs 3 222 [.ref 153, .int t, .int i, .long v] m (am_qi (f_item T t i v).1 (q_G (f_item T t i v).2 m)) := by
  have hF : q_FC m m := q_FC.rf
  have hn : T.1 153 0 < 7 := hB 153 0
  refine am_V_of ky_222 (Nat.le_of_ble_eq_true rfl) ?_
  show am_P xs 2 m_item 0 [some (.ref 153), some (.int t), some (.int i), some (.long v), none] [] m _
  refine w_iload_n (pc' := 1) rfl rfl rfl ?_
  refine w_cS1i (pc' := 4) (v_m_isTape xs _ _) (by decide) rfl rfl rfl (Or.inl rfl) (Nat.le_of_ble_eq_true rfl) (fun m' hm' => ?_)
  rw [show m' = m from hm']
  clear hm' m'
  refine w_if_ne (t := 9) (pc' := 7) rfl (by decide) rfl (fun h4 => ?_) (fun h4 => ?_)
  · obtain ⟨j1, hj1, rfl⟩ := q_is_of (bB_n0.mp h4) (by omega)
    refine w_aload_n (pc' := 10) rfl rfl rfl rfl ?_
    refine w_getC (pc' := 13) rfl rfl rfl sh_153 rfl ?_
    refine w_iload_n (pc' := 14) rfl rfl rfl ?_
    refine w_iald (j := (j1)) (pc' := 15) rfl rfl sh_182 rfl (by omega) (by decide) ?_
    rw [show m.1 182 j1 = nI (T.1 182 (j1)) - 1 from (rd_182 h _ :)]
    have b2 : (T.1 182 (j1)) < 6 := hB 182 (j1)
    refine w_if_ge (t := 21) (pc' := 18) rfl (by decide) rfl (fun h15 => ?_) (fun h15 => ?_)
    · have g3 : 0 < (T.1 182 (j1)) := (nI_p1 (x := (T.1 182 (j1))) (by omega)).mp h15
      refine w_iload_n (pc' := 22) rfl rfl rfl ?_
      refine w_iconst (pc' := 23) 0 rfl rfl ic_0 ?_
      refine w_aload_n (pc' := 24) rfl rfl rfl rfl ?_
      refine w_getC (pc' := 27) rfl rfl rfl sh_153 rfl ?_
      refine w_iload_n (pc' := 28) rfl rfl rfl ?_
      refine w_iald (j := (j1)) (pc' := 29) rfl rfl sh_183 rfl (by omega) (by decide) ?_
      rw [show m.1 183 j1 = nI (T.1 183 (j1)) from (rd_183 h _ :)]
      have b4 : (T.1 183 (j1)) < 61 := hB 183 (j1)
      refine w_iconst (pc' := 30) 1 rfl rfl ic_1 ?_
      refine w_isub (pc' := 31) rfl rfl ?_
      refine w_cS3i (pc' := 34) (v_m_win xs _ _ _ (T.1 183 j1) (by omega) (by first | decide | rfl)) (by decide) rfl rfl rfl (Or.inl rfl) (Nat.le_of_ble_eq_true rfl) (fun m' hm' => ?_)
      rw [show m' = m from hm']
      clear hm' m'
      refine w_if_ne (t := 40) (pc' := 37) rfl (by decide) rfl (fun h34 => ?_) (fun h34 => ?_)
      · obtain ⟨j5, hj5, rfl⟩ := q_is_of (bB_n0.mp h34) (by omega)
        refine w_aload_n (pc' := 41) rfl rfl rfl rfl ?_
        refine w_getC (pc' := 44) rfl rfl rfl sh_153 rfl ?_
        refine w_bipush (pc' := 46) 60 rfl rfl bp_60 ?_
        refine w_iload_n (pc' := 47) rfl rfl rfl ?_
        refine w_imul (pc' := 48) rfl rfl ?_
        rw [show (60 : Int32) * nI (j1) = nI (60 * j1) from nI_mul _ _]
        refine w_iload_n (pc' := 49) rfl rfl rfl ?_
        refine w_iadd (pc' := 50) rfl rfl ?_
        rw [show nI (60 * j1) + nI (j5) = nI ((60 * j1) + j5) from nI_add _ _]
        refine w_aload_n (pc' := 51) rfl rfl rfl rfl ?_
        refine w_getC (pc' := 54) rfl rfl rfl sh_153 rfl ?_
        refine w_iload_n (pc' := 55) rfl rfl rfl ?_
        refine w_iald (j := (j1)) (pc' := 56) rfl rfl sh_182 rfl (by omega) (by decide) ?_
        rw [show m.1 182 j1 = nI (T.1 182 (j1)) - 1 from (rd_182 h _ :)]
        have b6 : (T.1 182 (j1)) < 6 := hB 182 (j1)
        refine w_lload_n (pc' := 57) rfl rfl rfl ?_
        refine w_cS2j (pc' := 60) (v_m_kept xs _ _ _) (by decide) rfl rfl rfl (Or.inl rfl) (Nat.le_of_ble_eq_true rfl) (fun m' hm' => ?_)
        rw [show m' = m from hm']
        clear hm' m'
        refine w_last (j := ((60 * j1) + j5)) (pc' := 61) rfl rfl sh_184 rfl (by omega) (by decide) ?_
        refine w_gen (h.uJ (t := j1) (i := j5) (by omega) (by omega) (f_kept (nI (T.1 182 j1) - 1) v)) (hF.uJ (by decide)) (fun m1 h_1 hF_1 => ?_)
        refine w_iconst (pc' := 62) 1 rfl rfl ic_1 ?_
        refine w_iret rfl rfl rfl ?_
        have hf : f_item T (nI j1) (nI j5) v = (1, (q_Ti T (j1) (j5) ((f_kept (nI (T.1 182 j1) - 1) v)))) := by simp [f_item, q_is_nI (n := 6) hj1 (by omega), nI_clamp (show j1 < 2 ^ 31 by omega), g3, q_is_nI (n := T.1 183 j1) hj5 (by omega), nI_clamp (show j5 < 2 ^ 31 by omega)]
        rw [hf]
        exact ⟨rfl, h_1, hF_1⟩
      · have hN7 := bB_0.mp h34
        refine w_bipush (pc' := 39) (-13) rfl rfl bp_m13 ?_
        refine w_iret rfl rfl rfl ?_
        have hf : f_item T (nI j1) i v = (-13, T) := by simp [f_item, q_is_nI (n := 6) hj1 (by omega), nI_clamp (show j1 < 2 ^ 31 by omega), g3, hN7]
        rw [hf]
        exact ⟨rfl, h, hF⟩
    · have g8 : ¬ 0 < (T.1 182 (j1)) := fun q => h15 ((nI_p1 (x := (T.1 182 (j1))) (by omega)).mpr q)
      refine w_bipush (pc' := 20) (-11) rfl rfl bp_m11 ?_
      refine w_iret rfl rfl rfl ?_
      have hf : f_item T (nI j1) i v = (-11, T) := by simp [f_item, q_is_nI (n := 6) hj1 (by omega), nI_clamp (show j1 < 2 ^ 31 by omega), g8]
      rw [hf]
      exact ⟨rfl, h, hF⟩
  · have hN9 := bB_0.mp h4
    refine w_iconst (pc' := 8) (-1) rfl rfl ic_m1 ?_
    refine w_iret rfl rfl rfl ?_
    have hf : f_item T t i v = (-1, T) := by simp [f_item, hN9]
    rw [hf]
    exact ⟨rfl, h, hF⟩
def f_read (T : q_T) (t i : Int32) : Int64 × q_T := if q_is t 6 = true ∧ 0 < T.1 182 t.toNatClampNeg ∧ q_is i (T.1 183 t.toNatClampNeg) = true then (T.2.2 t.toNatClampNeg i.toNatClampNeg, T) else (-9223372036854775808, T)
set_option maxRecDepth 100000 in
set_option maxHeartbeats 4000000 in
theorem v_m_read (xs : List Int32) {T : q_T} {m : am_Mm} (h : q_Rm T m) (hB : q_Bd T) (t : Int32) (i : Int32) : am_V xs 3 224 [.ref 153, .int t, .int i] m (am_qj (f_read T t i).1 (q_G (f_read T t i).2 m)) := by
  have hF : q_FC m m := q_FC.rf
  have hn : T.1 153 0 < 7 := hB 153 0
  refine am_V_of ky_224 (Nat.le_of_ble_eq_true rfl) ?_
  show am_P xs 2 m_read 0 [some (.ref 153), some (.int t), some (.int i)] [] m _
  refine w_iload_n (pc' := 1) rfl rfl rfl ?_
  refine w_cS1i (pc' := 4) (v_m_isTape xs _ _) (by decide) rfl rfl rfl (Or.inl rfl) (Nat.le_of_ble_eq_true rfl) (fun m' hm' => ?_)
  rw [show m' = m from hm']
  clear hm' m'
  refine w_if_eq (t := 46) (pc' := 7) rfl (by decide) rfl (fun h4 => ?_) (fun h4 => ?_)
  · have hN1 := bB_0.mp h4
    refine w_ldc2_w (pc' := 49) rfl rfl rfl rfl ?_
    refine w_lret rfl rfl ?_
    have hf : f_read T t i = (-9223372036854775808, T) := by simp [f_read, hN1]
    rw [hf]
    exact ⟨rfl, h, hF⟩
  · obtain ⟨j2, hj2, rfl⟩ := q_is_of (bB_n0.mp h4) (by omega)
    refine w_aload_n (pc' := 8) rfl rfl rfl rfl ?_
    refine w_getC (pc' := 11) rfl rfl rfl sh_153 rfl ?_
    refine w_iload_n (pc' := 12) rfl rfl rfl ?_
    refine w_iald (j := (j2)) (pc' := 13) rfl rfl sh_182 rfl (by omega) (by decide) ?_
    rw [show m.1 182 j2 = nI (T.1 182 (j2)) - 1 from (rd_182 h _ :)]
    have b3 : (T.1 182 (j2)) < 6 := hB 182 (j2)
    refine w_if_lt (t := 46) (pc' := 16) rfl (by decide) rfl (fun h13 => ?_) (fun h13 => ?_)
    · have g4 : ¬ 0 < (T.1 182 (j2)) := fun q => Int32.not_lt.mpr ((nI_p1 (x := (T.1 182 (j2))) (by omega)).mpr q) h13
      refine w_ldc2_w (pc' := 49) rfl rfl rfl rfl ?_
      refine w_lret rfl rfl ?_
      have hf : f_read T (nI j2) i = (-9223372036854775808, T) := by simp [f_read, q_is_nI (n := 6) hj2 (by omega), nI_clamp (show j2 < 2 ^ 31 by omega), g4]
      rw [hf]
      exact ⟨rfl, h, hF⟩
    · have g5 : 0 < (T.1 182 (j2)) := (nI_p1 (x := (T.1 182 (j2))) (by omega)).mp (Int32.not_lt.mp h13)
      refine w_iload_n (pc' := 17) rfl rfl rfl ?_
      refine w_iconst (pc' := 18) 0 rfl rfl ic_0 ?_
      refine w_aload_n (pc' := 19) rfl rfl rfl rfl ?_
      refine w_getC (pc' := 22) rfl rfl rfl sh_153 rfl ?_
      refine w_iload_n (pc' := 23) rfl rfl rfl ?_
      refine w_iald (j := (j2)) (pc' := 24) rfl rfl sh_183 rfl (by omega) (by decide) ?_
      rw [show m.1 183 j2 = nI (T.1 183 (j2)) from (rd_183 h _ :)]
      have b6 : (T.1 183 (j2)) < 61 := hB 183 (j2)
      refine w_iconst (pc' := 25) 1 rfl rfl ic_1 ?_
      refine w_isub (pc' := 26) rfl rfl ?_
      refine w_cS3i (pc' := 29) (v_m_win xs _ _ _ (T.1 183 j2) (by omega) (by first | decide | rfl)) (by decide) rfl rfl rfl (Or.inl rfl) (Nat.le_of_ble_eq_true rfl) (fun m' hm' => ?_)
      rw [show m' = m from hm']
      clear hm' m'
      refine w_if_eq (t := 46) (pc' := 32) rfl (by decide) rfl (fun h29 => ?_) (fun h29 => ?_)
      · have hN7 := bB_0.mp h29
        refine w_ldc2_w (pc' := 49) rfl rfl rfl rfl ?_
        refine w_lret rfl rfl ?_
        have hf : f_read T (nI j2) i = (-9223372036854775808, T) := by simp [f_read, q_is_nI (n := 6) hj2 (by omega), nI_clamp (show j2 < 2 ^ 31 by omega), g5, hN7]
        rw [hf]
        exact ⟨rfl, h, hF⟩
      · obtain ⟨j8, hj8, rfl⟩ := q_is_of (bB_n0.mp h29) (by omega)
        refine w_aload_n (pc' := 33) rfl rfl rfl rfl ?_
        refine w_getC (pc' := 36) rfl rfl rfl sh_153 rfl ?_
        refine w_bipush (pc' := 38) 60 rfl rfl bp_60 ?_
        refine w_iload_n (pc' := 39) rfl rfl rfl ?_
        refine w_imul (pc' := 40) rfl rfl ?_
        rw [show (60 : Int32) * nI (j2) = nI (60 * j2) from nI_mul _ _]
        refine w_iload_n (pc' := 41) rfl rfl rfl ?_
        refine w_iadd (pc' := 42) rfl rfl ?_
        rw [show nI (60 * j2) + nI (j8) = nI ((60 * j2) + j8) from nI_add _ _]
        refine w_lald (j := ((60 * j2) + j8)) (pc' := 43) rfl rfl sh_184 rfl (by omega) (by decide) ?_
        rw [show m.2 184 (60 * j2 + j8) = T.2.2 j2 j8 from h.2.2 _ _ (by omega) (by omega)]
        refine w_goto (pc' := 49) rfl (by decide) ?_
        refine w_lret rfl rfl ?_
        have hf : f_read T (nI j2) (nI j8) = (T.2.2 j2 j8, T) := by simp [f_read, q_is_nI (n := 6) hj2 (by omega), nI_clamp (show j2 < 2 ^ 31 by omega), g5, q_is_nI (n := T.1 183 j2) hj8 (by omega), nI_clamp (show j8 < 2 ^ 31 by omega)]
        rw [hf]
        exact ⟨rfl, h, hF⟩
