def q_B (c k : Nat) : Nat := match c with
  | 154 => 7
  | 155 => 10
  | 156 => 16
  | 157 => 9
  | 158 => 2
  | 160 => 40
  | 161 => 10
  | 162 => 8
  | 163 => 128
  | 171 => 6
  | 172 => 13
  | 173 => 8
  | 174 => 4
  | 175 => 16
  | 176 => 16
  | 177 => 8
  | 178 => 100
  | 182 => 6
  | 183 => 61
  | 153 => (match k with | 0 => 7 | 10 => 65536 | 12 => 101 | 19 => 7 | 28 => 6 | 32 => 11 | 35 => 9 | 38 => 100 | 40 => 2 | _ => 2 ^ 40)
  | _ => 2 ^ 40
/-- the places of the model keep to their bounds -/
def q_Bd (T : q_T) : Prop := ∀ c k, T.1 c k < q_B c k
theorem w_gen {xs : List Int32} {d : Nat} {M : am_M} {pc : Nat} {L : am_L} {st : List Value} {m m0 : am_Mm} {Q : am_Q} {T : q_T} (h : q_Rm T m) (hF : q_FC m0 m) (k : ∀ m', q_Rm T m' → q_FC m0 m' → am_P xs d M pc L st m' Q) : am_P xs d M pc L st m Q := k m h hF
theorem nI_mul (a b : Nat) : nI a * nI b = nI (a * b) := (Int32.ofNat_mul a b).symm
def f_put (T : q_T) (d c : Int32) : Int32 × q_T := if q_is d (T.1 153 0) = true ∧ q_is c 16 = true then (nI (T.1 156 d.toNatClampNeg), q_Tu T 156 d.toNatClampNeg c.toNatClampNeg) else (-1, T)
set_option maxRecDepth 100000 in
set_option maxHeartbeats 4000000 in
theorem v_m_put (xs : List Int32) {T : q_T} {m : am_Mm} (h : q_Rm T m) (hB : q_Bd T) (d : Int32) (c : Int32) : am_V xs 3 162 [.ref 153, .int d, .int c] m (am_qi (f_put T d c).1 (q_G (f_put T d c).2 m)) := by
  have hF : q_FC m m := q_FC.rf
  have hn : T.1 153 0 < 7 := hB 153 0
  refine am_V_of ky_162 (Nat.le_of_ble_eq_true rfl) ?_
  show am_P xs 2 m_put 0 [some (.ref 153), some (.int d), some (.int c), none] [] m _
  refine w_aload_n (pc' := 1) rfl rfl rfl rfl ?_
  refine w_iload_n (pc' := 2) rfl rfl rfl ?_
  refine w_cV1i (pc' := 5) (v_m_one xs h (by omega) _) (by decide) rfl rfl rfl (Nat.le_of_ble_eq_true rfl) sh_153 rfl (fun m' hm' => ?_)
  rw [show m' = m from hm']
  clear hm' m'
  refine w_if_eq (t := 15) (pc' := 8) rfl (by decide) rfl (fun h5 => ?_) (fun h5 => ?_)
  · have hN1 := bB_0.mp h5
    refine w_iconst (pc' := 16) (-1) rfl rfl ic_m1 ?_
    refine w_iret rfl rfl rfl ?_
    have hf : f_put T d c = (-1, T) := by simp [f_put, hN1]
    rw [hf]
    exact ⟨rfl, h, hF⟩
  · obtain ⟨j2, hj2, rfl⟩ := q_is_of (bB_n0.mp h5) (by omega)
    refine w_iload_n (pc' := 9) rfl rfl rfl ?_
    refine w_cS1i (pc' := 12) (v_m_cell xs _ _) (by decide) rfl rfl rfl (Or.inl rfl) (Nat.le_of_ble_eq_true rfl) (fun m' hm' => ?_)
    rw [show m' = m from hm']
    clear hm' m'
    refine w_if_ne (t := 17) (pc' := 15) rfl (by decide) rfl (fun h12 => ?_) (fun h12 => ?_)
    · obtain ⟨j3, hj3, rfl⟩ := q_is_of (bB_n0.mp h12) (by omega)
      refine w_aload_n (pc' := 18) rfl rfl rfl rfl ?_
      refine w_getC (pc' := 21) rfl rfl rfl sh_153 rfl ?_
      refine w_iload_n (pc' := 22) rfl rfl rfl ?_
      refine w_iald (j := (j2)) (pc' := 23) rfl rfl sh_156 rfl (by omega) (by decide) ?_
      rw [show m.1 156 j2 = nI (T.1 156 (j2)) from (rd_156 h _ :)]
      have b4 : (T.1 156 (j2)) < 16 := hB 156 (j2)
      refine w_ist3 (pc' := 24) rfl rfl rfl ?_
      refine w_aload_n (pc' := 25) rfl rfl rfl rfl ?_
      refine w_getC (pc' := 28) rfl rfl rfl sh_153 rfl ?_
      refine w_iload_n (pc' := 29) rfl rfl rfl ?_
      refine w_iload_n (pc' := 30) rfl rfl rfl ?_
      refine w_iast (j := (j2)) (pc' := 31) rfl rfl sh_156 rfl (by omega) (by decide) ?_
      refine w_gen (h.u (c := 156) (k := j2) (x := j3) rfl (y := _) (show _ = q_enc _ _ _ from rfl)) (hF.u (by decide)) (fun m1 h_1 hF_1 => ?_)
      refine w_iload_n (pc' := 32) rfl rfl rfl ?_
      refine w_iret rfl rfl rfl ?_
      have hf : f_put T (nI j2) (nI j3) = (nI ((T.1 156 (j2))), (q_Tu T 156 (j2) (j3))) := by simp [f_put, q_is_nI (n := T.1 153 0) hj2 (by omega), nI_clamp (show j2 < 2 ^ 31 by omega), q_is_nI (n := 16) hj3 (by omega), nI_clamp (show j3 < 2 ^ 31 by omega)]
      rw [hf]
      exact ⟨rfl, h_1, hF_1⟩
    · have hN5 := bB_0.mp h12
      refine w_iconst (pc' := 16) (-1) rfl rfl ic_m1 ?_
      refine w_iret rfl rfl rfl ?_
      have hf : f_put T (nI j2) c = (-1, T) := by simp [f_put, q_is_nI (n := T.1 153 0) hj2 (by omega), nI_clamp (show j2 < 2 ^ 31 by omega), hN5]
      rw [hf]
      exact ⟨rfl, h, hF⟩
def f_anew (T : q_T) (d : Int32) : Int32 × q_T := if q_is d (T.1 153 0) = true then (nI (T.1 157 d.toNatClampNeg), q_Tu (q_Tu T 157 d.toNatClampNeg 0) 158 d.toNatClampNeg 0) else (-1, T)
set_option maxRecDepth 100000 in
set_option maxHeartbeats 4000000 in
theorem v_m_anew (xs : List Int32) {T : q_T} {m : am_Mm} (h : q_Rm T m) (hB : q_Bd T) (d : Int32) : am_V xs 3 163 [.ref 153, .int d] m (am_qi (f_anew T d).1 (q_G (f_anew T d).2 m)) := by
  have hF : q_FC m m := q_FC.rf
  have hn : T.1 153 0 < 7 := hB 153 0
  refine am_V_of ky_163 (Nat.le_of_ble_eq_true rfl) ?_
  show am_P xs 2 m_anew 0 [some (.ref 153), some (.int d), none] [] m _
  refine w_aload_n (pc' := 1) rfl rfl rfl rfl ?_
  refine w_iload_n (pc' := 2) rfl rfl rfl ?_
  refine w_cV1i (pc' := 5) (v_m_one xs h (by omega) _) (by decide) rfl rfl rfl (Nat.le_of_ble_eq_true rfl) sh_153 rfl (fun m' hm' => ?_)
  rw [show m' = m from hm']
  clear hm' m'
  refine w_if_ne (t := 10) (pc' := 8) rfl (by decide) rfl (fun h5 => ?_) (fun h5 => ?_)
  · obtain ⟨j1, hj1, rfl⟩ := q_is_of (bB_n0.mp h5) (by omega)
    refine w_aload_n (pc' := 11) rfl rfl rfl rfl ?_
    refine w_getC (pc' := 14) rfl rfl rfl sh_153 rfl ?_
    refine w_iload_n (pc' := 15) rfl rfl rfl ?_
    refine w_iald (j := (j1)) (pc' := 16) rfl rfl sh_157 rfl (by omega) (by decide) ?_
    rw [show m.1 157 j1 = nI (T.1 157 (j1)) from (rd_157 h _ :)]
    have b2 : (T.1 157 (j1)) < 9 := hB 157 (j1)
    refine w_ist2 (pc' := 17) rfl rfl rfl ?_
    refine w_aload_n (pc' := 18) rfl rfl rfl rfl ?_
    refine w_getC (pc' := 21) rfl rfl rfl sh_153 rfl ?_
    refine w_iload_n (pc' := 22) rfl rfl rfl ?_
    refine w_iconst (pc' := 23) 0 rfl rfl ic_0 ?_
    refine w_iast (j := (j1)) (pc' := 24) rfl rfl sh_157 rfl (by omega) (by decide) ?_
    refine w_gen (h.u (c := 157) (k := j1) (x := 0) rfl (y := _) (show _ = q_enc _ _ _ from rfl)) (hF.u (by decide)) (fun m1 h_1 hF_1 => ?_)
    refine w_aload_n (pc' := 25) rfl rfl rfl rfl ?_
    refine w_getC (pc' := 28) rfl rfl rfl sh_153 rfl ?_
    refine w_iload_n (pc' := 29) rfl rfl rfl ?_
    refine w_iconst (pc' := 30) 0 rfl rfl ic_0 ?_
    refine w_iast (j := (j1)) (pc' := 31) rfl rfl sh_158 rfl (by omega) (by decide) ?_
    refine w_gen (h_1.u (c := 158) (k := j1) (x := 0) rfl (y := _) (show _ = q_enc _ _ _ from rfl)) (hF_1.u (by decide)) (fun m2 h_2 hF_2 => ?_)
    refine w_iload_n (pc' := 32) rfl rfl rfl ?_
    refine w_iret rfl rfl rfl ?_
    have hf : f_anew T (nI j1) = (nI ((T.1 157 (j1))), (q_Tu (q_Tu T 157 (j1) (0)) 158 (j1) (0))) := by simp [f_anew, q_is_nI (n := T.1 153 0) hj1 (by omega), nI_clamp (show j1 < 2 ^ 31 by omega)]
    rw [hf]
    exact ⟨rfl, h_2, hF_2⟩
  · have hN3 := bB_0.mp h5
    refine w_iconst (pc' := 9) (-1) rfl rfl ic_m1 ?_
    refine w_iret rfl rfl rfl ?_
    have hf : f_anew T d = (-1, T) := by simp [f_anew, hN3]
    rw [hf]
    exact ⟨rfl, h, hF⟩
def f_mark (T : q_T) (c n : Int32) : Int32 × q_T := if q_is c 16 = true then (if q_is n 8 = true then (nI (T.1 162 c.toNatClampNeg), q_Tu T 162 c.toNatClampNeg n.toNatClampNeg) else (-2, T)) else (-1, T)
set_option maxRecDepth 100000 in
set_option maxHeartbeats 4000000 in
theorem v_m_mark (xs : List Int32) {T : q_T} {m : am_Mm} (h : q_Rm T m) (hB : q_Bd T) (c : Int32) (n : Int32) : am_V xs 3 164 [.ref 153, .int c, .int n] m (am_qi (f_mark T c n).1 (q_G (f_mark T c n).2 m)) := by
  have hF : q_FC m m := q_FC.rf
  have hn : T.1 153 0 < 7 := hB 153 0
  refine am_V_of ky_164 (Nat.le_of_ble_eq_true rfl) ?_
  show am_P xs 2 m_mark 0 [some (.ref 153), some (.int c), some (.int n), none] [] m _
  refine w_iload_n (pc' := 1) rfl rfl rfl ?_
  refine w_cS1i (pc' := 4) (v_m_cell xs _ _) (by decide) rfl rfl rfl (Or.inl rfl) (Nat.le_of_ble_eq_true rfl) (fun m' hm' => ?_)
  rw [show m' = m from hm']
  clear hm' m'
  refine w_if_ne (t := 9) (pc' := 7) rfl (by decide) rfl (fun h4 => ?_) (fun h4 => ?_)
  · obtain ⟨j1, hj1, rfl⟩ := q_is_of (bB_n0.mp h4) (by omega)
    refine w_iload_n (pc' := 10) rfl rfl rfl ?_
    refine w_iconst (pc' := 11) 0 rfl rfl ic_0 ?_
    refine w_bipush (pc' := 13) 7 rfl rfl bp_7 ?_
    refine w_cS3i (pc' := 16) (v_m_win xs _ _ _ (8) (by omega) (by first | decide | rfl)) (by decide) rfl rfl rfl (Or.inl rfl) (Nat.le_of_ble_eq_true rfl) (fun m' hm' => ?_)
    rw [show m' = m from hm']
    clear hm' m'
    refine w_if_ne (t := 22) (pc' := 19) rfl (by decide) rfl (fun h16 => ?_) (fun h16 => ?_)
    · obtain ⟨j2, hj2, rfl⟩ := q_is_of (bB_n0.mp h16) (by omega)
      refine w_aload_n (pc' := 23) rfl rfl rfl rfl ?_
      refine w_getC (pc' := 26) rfl rfl rfl sh_153 rfl ?_
      refine w_iload_n (pc' := 27) rfl rfl rfl ?_
      refine w_iald (j := (j1)) (pc' := 28) rfl rfl sh_162 rfl (by omega) (by decide) ?_
      rw [show m.1 162 j1 = nI (T.1 162 (j1)) from (rd_162 h _ :)]
      have b3 : (T.1 162 (j1)) < 8 := hB 162 (j1)
      refine w_ist3 (pc' := 29) rfl rfl rfl ?_
      refine w_aload_n (pc' := 30) rfl rfl rfl rfl ?_
      refine w_getC (pc' := 33) rfl rfl rfl sh_153 rfl ?_
      refine w_iload_n (pc' := 34) rfl rfl rfl ?_
      refine w_iload_n (pc' := 35) rfl rfl rfl ?_
      refine w_iast (j := (j1)) (pc' := 36) rfl rfl sh_162 rfl (by omega) (by decide) ?_
      refine w_gen (h.u (c := 162) (k := j1) (x := j2) rfl (y := _) (show _ = q_enc _ _ _ from rfl)) (hF.u (by decide)) (fun m1 h_1 hF_1 => ?_)
      refine w_iload_n (pc' := 37) rfl rfl rfl ?_
      refine w_iret rfl rfl rfl ?_
      have hf : f_mark T (nI j1) (nI j2) = (nI ((T.1 162 (j1))), (q_Tu T 162 (j1) (j2))) := by simp [f_mark, q_is_nI (n := 16) hj1 (by omega), nI_clamp (show j1 < 2 ^ 31 by omega), q_is_nI (n := 8) hj2 (by omega), nI_clamp (show j2 < 2 ^ 31 by omega)]
      rw [hf]
      exact ⟨rfl, h_1, hF_1⟩
    · have hN4 := bB_0.mp h16
      refine w_bipush (pc' := 21) (-2) rfl rfl bp_m2 ?_
      refine w_iret rfl rfl rfl ?_
      have hf : f_mark T (nI j1) n = (-2, T) := by simp [f_mark, q_is_nI (n := 16) hj1 (by omega), nI_clamp (show j1 < 2 ^ 31 by omega), hN4]
      rw [hf]
      exact ⟨rfl, h, hF⟩
  · have hN5 := bB_0.mp h4
    refine w_iconst (pc' := 8) (-1) rfl rfl ic_m1 ?_
    refine w_iret rfl rfl rfl ?_
    have hf : f_mark T c n = (-1, T) := by simp [f_mark, hN5]
    rw [hf]
    exact ⟨rfl, h, hF⟩
def f_row (T : q_T) (d p n : Int32) : Int32 × q_T := if q_is d (T.1 153 0) = true ∧ q_is p 4 = true then (if q_is n 10 = true then (if T.1 154 d.toNatClampNeg = 6 then (nI (T.1 161 (4 * d.toNatClampNeg + p.toNatClampNeg)), q_Tu T 161 (4 * d.toNatClampNeg + p.toNatClampNeg) n.toNatClampNeg) else (-3, T)) else (-2, T)) else (-1, T)
set_option maxRecDepth 100000 in
set_option maxHeartbeats 4000000 in
theorem v_m_row (xs : List Int32) {T : q_T} {m : am_Mm} (h : q_Rm T m) (hB : q_Bd T) (d : Int32) (p : Int32) (n : Int32) : am_V xs 3 165 [.ref 153, .int d, .int p, .int n] m (am_qi (f_row T d p n).1 (q_G (f_row T d p n).2 m)) := by
  have hF : q_FC m m := q_FC.rf
  have hn : T.1 153 0 < 7 := hB 153 0
  refine am_V_of ky_165 (Nat.le_of_ble_eq_true rfl) ?_
  show am_P xs 2 m_row 0 [some (.ref 153), some (.int d), some (.int p), some (.int n), none] [] m _
  refine w_aload_n (pc' := 1) rfl rfl rfl rfl ?_
  refine w_iload_n (pc' := 2) rfl rfl rfl ?_
  refine w_cV1i (pc' := 5) (v_m_one xs h (by omega) _) (by decide) rfl rfl rfl (Nat.le_of_ble_eq_true rfl) sh_153 rfl (fun m' hm' => ?_)
  rw [show m' = m from hm']
  clear hm' m'
  refine w_if_eq (t := 17) (pc' := 8) rfl (by decide) rfl (fun h5 => ?_) (fun h5 => ?_)
  · have hN1 := bB_0.mp h5
    refine w_iconst (pc' := 18) (-1) rfl rfl ic_m1 ?_
    refine w_iret rfl rfl rfl ?_
    have hf : f_row T d p n = (-1, T) := by simp [f_row, hN1]
    rw [hf]
    exact ⟨rfl, h, hF⟩
  · obtain ⟨j2, hj2, rfl⟩ := q_is_of (bB_n0.mp h5) (by omega)
    refine w_iload_n (pc' := 9) rfl rfl rfl ?_
    refine w_iconst (pc' := 10) 0 rfl rfl ic_0 ?_
    refine w_iconst (pc' := 11) 3 rfl rfl ic_3 ?_
    refine w_cS3i (pc' := 14) (v_m_win xs _ _ _ (4) (by omega) (by first | decide | rfl)) (by decide) rfl rfl rfl (Or.inl rfl) (Nat.le_of_ble_eq_true rfl) (fun m' hm' => ?_)
    rw [show m' = m from hm']
    clear hm' m'
    refine w_if_ne (t := 19) (pc' := 17) rfl (by decide) rfl (fun h14 => ?_) (fun h14 => ?_)
    · obtain ⟨j3, hj3, rfl⟩ := q_is_of (bB_n0.mp h14) (by omega)
      refine w_iload_n (pc' := 20) rfl rfl rfl ?_
      refine w_iconst (pc' := 21) 0 rfl rfl ic_0 ?_
      refine w_bipush (pc' := 23) 9 rfl rfl bp_9 ?_
      refine w_cS3i (pc' := 26) (v_m_win xs _ _ _ (10) (by omega) (by first | decide | rfl)) (by decide) rfl rfl rfl (Or.inl rfl) (Nat.le_of_ble_eq_true rfl) (fun m' hm' => ?_)
      rw [show m' = m from hm']
      clear hm' m'
      refine w_if_ne (t := 32) (pc' := 29) rfl (by decide) rfl (fun h26 => ?_) (fun h26 => ?_)
      · obtain ⟨j4, hj4, rfl⟩ := q_is_of (bB_n0.mp h26) (by omega)
        refine w_aload_n (pc' := 33) rfl rfl rfl rfl ?_
        refine w_getC (pc' := 36) rfl rfl rfl sh_153 rfl ?_
        refine w_iload_n (pc' := 37) rfl rfl rfl ?_
        refine w_iald (j := (j2)) (pc' := 38) rfl rfl sh_154 rfl (by omega) (by decide) ?_
        rw [show m.1 154 j2 = nI (T.1 154 (j2)) from (rd_154 h _ :)]
        have b5 : (T.1 154 (j2)) < 7 := hB 154 (j2)
        refine w_bipush (pc' := 40) 6 rfl rfl bp_6 ?_
        refine w_ic_eq (t := 46) (pc' := 43) rfl (by decide) rfl (fun h40 => ?_) (fun h40 => ?_)
        · have g6 : (T.1 154 (j2)) = 6 := (nI_eq (a := (T.1 154 (j2))) (b := 6) (by omega) (by omega)).mp h40
          refine w_aload_n (pc' := 47) rfl rfl rfl rfl ?_
          refine w_getC (pc' := 50) rfl rfl rfl sh_153 rfl ?_
          refine w_iconst (pc' := 51) 4 rfl rfl ic_4 ?_
          refine w_iload_n (pc' := 52) rfl rfl rfl ?_
          refine w_imul (pc' := 53) rfl rfl ?_
          rw [show (4 : Int32) * nI (j2) = nI (4 * j2) from nI_mul _ _]
          refine w_iload_n (pc' := 54) rfl rfl rfl ?_
          refine w_iadd (pc' := 55) rfl rfl ?_
          rw [show nI (4 * j2) + nI (j3) = nI ((4 * j2) + j3) from nI_add _ _]
          refine w_iald (j := ((4 * j2) + j3)) (pc' := 56) rfl rfl sh_161 rfl (by omega) (by decide) ?_
          rw [show m.1 161 ((4 * j2) + j3) = nI (T.1 161 ((4 * j2) + j3)) from (rd_161 h _ :)]
          have b7 : (T.1 161 ((4 * j2) + j3)) < 10 := hB 161 ((4 * j2) + j3)
          refine w_ist4 (pc' := 58) rfl rfl rfl ?_
          refine w_aload_n (pc' := 59) rfl rfl rfl rfl ?_
          refine w_getC (pc' := 62) rfl rfl rfl sh_153 rfl ?_
          refine w_iconst (pc' := 63) 4 rfl rfl ic_4 ?_
          refine w_iload_n (pc' := 64) rfl rfl rfl ?_
          refine w_imul (pc' := 65) rfl rfl ?_
          rw [show (4 : Int32) * nI (j2) = nI (4 * j2) from nI_mul _ _]
          refine w_iload_n (pc' := 66) rfl rfl rfl ?_
          refine w_iadd (pc' := 67) rfl rfl ?_
          rw [show nI (4 * j2) + nI (j3) = nI ((4 * j2) + j3) from nI_add _ _]
          refine w_iload_n (pc' := 68) rfl rfl rfl ?_
          refine w_iast (j := ((4 * j2) + j3)) (pc' := 69) rfl rfl sh_161 rfl (by omega) (by decide) ?_
          refine w_gen (h.u (c := 161) (k := (4 * j2) + j3) (x := j4) rfl (y := _) (show _ = q_enc _ _ _ from rfl)) (hF.u (by decide)) (fun m1 h_1 hF_1 => ?_)
          refine w_iload (pc' := 71) rfl rfl rfl ?_
          refine w_iret rfl rfl rfl ?_
          have hf : f_row T (nI j2) (nI j3) (nI j4) = (nI ((T.1 161 ((4 * j2) + j3))), (q_Tu T 161 ((4 * j2) + j3) (j4))) := by simp [f_row, q_is_nI (n := T.1 153 0) hj2 (by omega), nI_clamp (show j2 < 2 ^ 31 by omega), q_is_nI (n := 4) hj3 (by omega), nI_clamp (show j3 < 2 ^ 31 by omega), q_is_nI (n := 10) hj4 (by omega), nI_clamp (show j4 < 2 ^ 31 by omega), eq_true g6]
          rw [hf]
          exact ⟨rfl, h_1, hF_1⟩
        · have g8 : ¬ (T.1 154 (j2)) = 6 := fun q => h40 ((nI_eq (a := (T.1 154 (j2))) (b := 6) (by omega) (by omega)).mpr q)
          refine w_bipush (pc' := 45) (-3) rfl rfl bp_m3 ?_
          refine w_iret rfl rfl rfl ?_
          have hf : f_row T (nI j2) (nI j3) (nI j4) = (-3, T) := by simp [f_row, q_is_nI (n := T.1 153 0) hj2 (by omega), nI_clamp (show j2 < 2 ^ 31 by omega), q_is_nI (n := 4) hj3 (by omega), nI_clamp (show j3 < 2 ^ 31 by omega), q_is_nI (n := 10) hj4 (by omega), nI_clamp (show j4 < 2 ^ 31 by omega), g8]
          rw [hf]
          exact ⟨rfl, h, hF⟩
      · have hN9 := bB_0.mp h26
        refine w_bipush (pc' := 31) (-2) rfl rfl bp_m2 ?_
        refine w_iret rfl rfl rfl ?_
        have hf : f_row T (nI j2) (nI j3) n = (-2, T) := by simp [f_row, q_is_nI (n := T.1 153 0) hj2 (by omega), nI_clamp (show j2 < 2 ^ 31 by omega), q_is_nI (n := 4) hj3 (by omega), nI_clamp (show j3 < 2 ^ 31 by omega), hN9]
        rw [hf]
        exact ⟨rfl, h, hF⟩
    · have hN10 := bB_0.mp h14
      refine w_iconst (pc' := 18) (-1) rfl rfl ic_m1 ?_
      refine w_iret rfl rfl rfl ?_
      have hf : f_row T (nI j2) p n = (-1, T) := by simp [f_row, q_is_nI (n := T.1 153 0) hj2 (by omega), nI_clamp (show j2 < 2 ^ 31 by omega), hN10]
      rw [hf]
      exact ⟨rfl, h, hF⟩
def f_feed (T : q_T) (s : Int32) : Int32 × q_T := if q_is s 128 = true then (if T.1 153 12 = 100 then (-4, T) else (nI (T.1 153 12 + 1), q_Tu (q_Tu T 153 12 (T.1 153 12 + 1)) 163 (T.1 153 12) s.toNatClampNeg)) else (-2, T)
set_option maxRecDepth 100000 in
set_option maxHeartbeats 4000000 in
theorem v_m_feed (xs : List Int32) {T : q_T} {m : am_Mm} (h : q_Rm T m) (hB : q_Bd T) (s : Int32) : am_V xs 3 166 [.ref 153, .int s] m (am_qi (f_feed T s).1 (q_G (f_feed T s).2 m)) := by
  have hF : q_FC m m := q_FC.rf
  have hn : T.1 153 0 < 7 := hB 153 0
  refine am_V_of ky_166 (Nat.le_of_ble_eq_true rfl) ?_
  show am_P xs 2 m_feed 0 [some (.ref 153), some (.int s)] [] m _
  refine w_iload_n (pc' := 1) rfl rfl rfl ?_
  refine w_iconst (pc' := 2) 0 rfl rfl ic_0 ?_
  refine w_bipush (pc' := 4) 127 rfl rfl bp_127 ?_
  refine w_cS3i (pc' := 7) (v_m_win xs _ _ _ (128) (by omega) (by first | decide | rfl)) (by decide) rfl rfl rfl (Or.inl rfl) (Nat.le_of_ble_eq_true rfl) (fun m' hm' => ?_)
  rw [show m' = m from hm']
  clear hm' m'
  refine w_if_ne (t := 13) (pc' := 10) rfl (by decide) rfl (fun h7 => ?_) (fun h7 => ?_)
  · obtain ⟨j1, hj1, rfl⟩ := q_is_of (bB_n0.mp h7) (by omega)
    refine w_aload_n (pc' := 14) rfl rfl rfl rfl ?_
    refine w_getI (pc' := 17) rfl rfl rfl sh_153 rfl ?_
    rw [show m.1 153 12 = nI (T.1 153 (12)) from (rf_12 h :)]
    have b2 : (T.1 153 (12)) < 101 := hB 153 (12)
    refine w_bipush (pc' := 19) 100 rfl rfl bp_100 ?_
    refine w_ic_ne (t := 25) (pc' := 22) rfl (by decide) rfl (fun h19 => ?_) (fun h19 => ?_)
    · have g3 : ¬ (T.1 153 (12)) = 100 := fun q => h19 ((nI_eq (a := (T.1 153 (12))) (b := 100) (by omega) (by omega)).mpr q)
      refine w_aload_n (pc' := 26) rfl rfl rfl rfl ?_
      refine w_getC (pc' := 29) rfl rfl rfl sh_153 rfl ?_
      refine w_aload_n (pc' := 30) rfl rfl rfl rfl ?_
      refine w_dup (pc' := 31) rfl rfl rfl ?_
      refine w_getI (pc' := 34) rfl rfl rfl sh_153 rfl ?_
      rw [show m.1 153 12 = nI (T.1 153 (12)) from (rf_12 h :)]
      have b4 : (T.1 153 (12)) < 101 := hB 153 (12)
      refine w_dup_x1 (pc' := 35) rfl rfl ⟨rfl, rfl⟩ ?_
      refine w_iconst (pc' := 36) 1 rfl rfl ic_1 ?_
      refine w_iadd (pc' := 37) rfl rfl ?_
      rw [show nI ((T.1 153 (12))) + (1 : Int32) = nI ((T.1 153 (12)) + 1) from nI_add _ _]
      refine w_putI (pc' := 40) rfl rfl rfl sh_153 rfl rfl rfl ?_
      refine w_gen (h.u (c := 153) (k := 12) (x := (T.1 153 (12)) + 1) rfl (y := _) (show _ = q_enc _ _ _ from rfl)) (hF.u (by decide)) (fun m1 h_1 hF_1 => ?_)
      refine w_iload_n (pc' := 41) rfl rfl rfl ?_
      refine w_iast (j := ((T.1 153 (12)))) (pc' := 42) rfl rfl sh_163 rfl (by omega) (by decide) ?_
      refine w_gen (h_1.u (c := 163) (k := (T.1 153 (12))) (x := j1) rfl (y := _) (show _ = q_enc _ _ _ from rfl)) (hF_1.u (by decide)) (fun m2 h_2 hF_2 => ?_)
      refine w_aload_n (pc' := 43) rfl rfl rfl rfl ?_
      refine w_getI (pc' := 46) rfl rfl rfl sh_153 rfl ?_
      rw [show m2.1 153 12 = nI ((T.1 153 (12)) + 1) from (rf_12 h_2 :)]
      refine w_iret rfl rfl rfl ?_
      have hf : f_feed T (nI j1) = (nI ((T.1 153 (12)) + 1), (q_Tu (q_Tu T 153 (12) ((T.1 153 (12)) + 1)) 163 ((T.1 153 (12))) (j1))) := by simp [f_feed, q_is_nI (n := 128) hj1 (by omega), nI_clamp (show j1 < 2 ^ 31 by omega), g3]
      rw [hf]
      exact ⟨rfl, h_2, hF_2⟩
    · have g5 : (T.1 153 (12)) = 100 := (nI_eq (a := (T.1 153 (12))) (b := 100) (by omega) (by omega)).mp h19
      refine w_bipush (pc' := 24) (-4) rfl rfl bp_m4 ?_
      refine w_iret rfl rfl rfl ?_
      have hf : f_feed T (nI j1) = (-4, T) := by simp [f_feed, q_is_nI (n := 128) hj1 (by omega), nI_clamp (show j1 < 2 ^ 31 by omega), eq_true g5]
      rw [hf]
      exact ⟨rfl, h, hF⟩
  · have hN6 := bB_0.mp h7
    refine w_bipush (pc' := 12) (-2) rfl rfl bp_m2 ?_
    refine w_iret rfl rfl rfl ?_
    have hf : f_feed T s = (-2, T) := by simp [f_feed, hN6]
    rw [hf]
    exact ⟨rfl, h, hF⟩
def f_sheet (T : q_T) (d i : Int32) : Int32 × q_T := if q_is d (T.1 153 0) = true ∧ q_is i (T.1 157 d.toNatClampNeg) = true then (nI (T.1 160 (8 * d.toNatClampNeg + i.toNatClampNeg)), T) else (-1, T)
set_option maxRecDepth 100000 in
set_option maxHeartbeats 4000000 in
theorem v_m_sheet (xs : List Int32) {T : q_T} {m : am_Mm} (h : q_Rm T m) (hB : q_Bd T) (d : Int32) (i : Int32) : am_V xs 3 161 [.ref 153, .int d, .int i] m (am_qi (f_sheet T d i).1 (q_G (f_sheet T d i).2 m)) := by
  have hF : q_FC m m := q_FC.rf
  have hn : T.1 153 0 < 7 := hB 153 0
  refine am_V_of ky_161 (Nat.le_of_ble_eq_true rfl) ?_
  show am_P xs 2 m_sheet 0 [some (.ref 153), some (.int d), some (.int i)] [] m _
  refine w_aload_n (pc' := 1) rfl rfl rfl rfl ?_
  refine w_iload_n (pc' := 2) rfl rfl rfl ?_
  refine w_cV1i (pc' := 5) (v_m_one xs h (by omega) _) (by decide) rfl rfl rfl (Nat.le_of_ble_eq_true rfl) sh_153 rfl (fun m' hm' => ?_)
  rw [show m' = m from hm']
  clear hm' m'
  refine w_if_eq (t := 38) (pc' := 8) rfl (by decide) rfl (fun h5 => ?_) (fun h5 => ?_)
  · have hN1 := bB_0.mp h5
    refine w_iconst (pc' := 39) (-1) rfl rfl ic_m1 ?_
    refine w_iret rfl rfl rfl ?_
    have hf : f_sheet T d i = (-1, T) := by simp [f_sheet, hN1]
    rw [hf]
    exact ⟨rfl, h, hF⟩
  · obtain ⟨j2, hj2, rfl⟩ := q_is_of (bB_n0.mp h5) (by omega)
    refine w_iload_n (pc' := 9) rfl rfl rfl ?_
    refine w_iconst (pc' := 10) 0 rfl rfl ic_0 ?_
    refine w_aload_n (pc' := 11) rfl rfl rfl rfl ?_
    refine w_getC (pc' := 14) rfl rfl rfl sh_153 rfl ?_
    refine w_iload_n (pc' := 15) rfl rfl rfl ?_
    refine w_iald (j := (j2)) (pc' := 16) rfl rfl sh_157 rfl (by omega) (by decide) ?_
    rw [show m.1 157 j2 = nI (T.1 157 (j2)) from (rd_157 h _ :)]
    have b3 : (T.1 157 (j2)) < 9 := hB 157 (j2)
    refine w_iconst (pc' := 17) 1 rfl rfl ic_1 ?_
    refine w_isub (pc' := 18) rfl rfl ?_
    refine w_cS3i (pc' := 21) (v_m_win xs _ _ _ (T.1 157 j2) (by omega) (by first | decide | rfl)) (by decide) rfl rfl rfl (Or.inl rfl) (Nat.le_of_ble_eq_true rfl) (fun m' hm' => ?_)
    rw [show m' = m from hm']
    clear hm' m'
    refine w_if_eq (t := 38) (pc' := 24) rfl (by decide) rfl (fun h21 => ?_) (fun h21 => ?_)
    · have hN4 := bB_0.mp h21
      refine w_iconst (pc' := 39) (-1) rfl rfl ic_m1 ?_
      refine w_iret rfl rfl rfl ?_
      have hf : f_sheet T (nI j2) i = (-1, T) := by simp [f_sheet, q_is_nI (n := T.1 153 0) hj2 (by omega), nI_clamp (show j2 < 2 ^ 31 by omega), hN4]
      rw [hf]
      exact ⟨rfl, h, hF⟩
    · obtain ⟨j5, hj5, rfl⟩ := q_is_of (bB_n0.mp h21) (by omega)
      refine w_aload_n (pc' := 25) rfl rfl rfl rfl ?_
      refine w_getC (pc' := 28) rfl rfl rfl sh_153 rfl ?_
      refine w_bipush (pc' := 30) 8 rfl rfl bp_8 ?_
      refine w_iload_n (pc' := 31) rfl rfl rfl ?_
      refine w_imul (pc' := 32) rfl rfl ?_
      rw [show (8 : Int32) * nI (j2) = nI (8 * j2) from nI_mul _ _]
      refine w_iload_n (pc' := 33) rfl rfl rfl ?_
      refine w_iadd (pc' := 34) rfl rfl ?_
      rw [show nI (8 * j2) + nI (j5) = nI ((8 * j2) + j5) from nI_add _ _]
      refine w_iald (j := ((8 * j2) + j5)) (pc' := 35) rfl rfl sh_160 rfl (by omega) (by decide) ?_
      rw [show m.1 160 ((8 * j2) + j5) = nI (T.1 160 ((8 * j2) + j5)) from (rd_160 h _ :)]
      have b6 : (T.1 160 ((8 * j2) + j5)) < 40 := hB 160 ((8 * j2) + j5)
      refine w_goto (pc' := 39) rfl (by decide) ?_
      refine w_iret rfl rfl rfl ?_
      have hf : f_sheet T (nI j2) (nI j5) = (nI ((T.1 160 ((8 * j2) + j5))), T) := by simp [f_sheet, q_is_nI (n := T.1 153 0) hj2 (by omega), nI_clamp (show j2 < 2 ^ 31 by omega), q_is_nI (n := T.1 157 j2) hj5 (by omega), nI_clamp (show j5 < 2 ^ 31 by omega)]
      rw [hf]
      exact ⟨rfl, h, hF⟩
def f_see (T : q_T) (d n k : Int32) : Int32 × q_T := if d = -1 then (0, q_Tu T 153 28 0) else if q_is d (T.1 153 0) = true then (if q_is n 13 = true ∧ q_is k 8 = true then (if T.1 153 28 = 5 then (-4, T) else (nI (T.1 153 28 + 1), q_Tu (q_Tu (q_Tu (q_Tu T 171 (T.1 153 28) d.toNatClampNeg) 172 (T.1 153 28) n.toNatClampNeg) 153 28 (T.1 153 28 + 1)) 173 (T.1 153 28) k.toNatClampNeg)) else (-2, T)) else (-1, T)
set_option maxRecDepth 100000 in
set_option maxHeartbeats 4000000 in
theorem v_m_see (xs : List Int32) {T : q_T} {m : am_Mm} (h : q_Rm T m) (hB : q_Bd T) (d : Int32) (n : Int32) (k : Int32) : am_V xs 3 197 [.ref 153, .int d, .int n, .int k] m (am_qi (f_see T d n k).1 (q_G (f_see T d n k).2 m)) := by
  have hF : q_FC m m := q_FC.rf
  have hn : T.1 153 0 < 7 := hB 153 0
  refine am_V_of ky_197 (Nat.le_of_ble_eq_true rfl) ?_
  show am_P xs 2 m_see 0 [some (.ref 153), some (.int d), some (.int n), some (.int k)] [] m _
  refine w_iload_n (pc' := 1) rfl rfl rfl ?_
  refine w_iconst (pc' := 2) (-1) rfl rfl ic_m1 ?_
  refine w_ic_ne (t := 12) (pc' := 5) rfl (by decide) rfl (fun h2 => ?_) (fun h2 => ?_)
  · have gn : ¬ d = -1 := h2
    refine w_aload_n (pc' := 13) rfl rfl rfl rfl ?_
    refine w_iload_n (pc' := 14) rfl rfl rfl ?_
    refine w_cV1i (pc' := 17) (v_m_one xs h (by omega) _) (by decide) rfl rfl rfl (Nat.le_of_ble_eq_true rfl) sh_153 rfl (fun m' hm' => ?_)
    rw [show m' = m from hm']
    clear hm' m'
    refine w_if_ne (t := 22) (pc' := 20) rfl (by decide) rfl (fun h17 => ?_) (fun h17 => ?_)
    · obtain ⟨j1, hj1, rfl⟩ := q_is_of (bB_n0.mp h17) (by omega)
      refine w_iload_n (pc' := 23) rfl rfl rfl ?_
      refine w_iconst (pc' := 24) 0 rfl rfl ic_0 ?_
      refine w_bipush (pc' := 26) 12 rfl rfl bp_12 ?_
      refine w_cS3i (pc' := 29) (v_m_win xs _ _ _ (13) (by omega) (by first | decide | rfl)) (by decide) rfl rfl rfl (Or.inl rfl) (Nat.le_of_ble_eq_true rfl) (fun m' hm' => ?_)
      rw [show m' = m from hm']
      clear hm' m'
      refine w_if_eq (t := 42) (pc' := 32) rfl (by decide) rfl (fun h29 => ?_) (fun h29 => ?_)
      · have hN2 := bB_0.mp h29
        refine w_bipush (pc' := 44) (-2) rfl rfl bp_m2 ?_
        refine w_iret rfl rfl rfl ?_
        have hf : f_see T (nI j1) n k = (-2, T) := by simp [f_see, gn, q_is_nI (n := T.1 153 0) hj1 (by omega), nI_clamp (show j1 < 2 ^ 31 by omega), hN2]
        rw [hf]
        exact ⟨rfl, h, hF⟩
      · obtain ⟨j3, hj3, rfl⟩ := q_is_of (bB_n0.mp h29) (by omega)
        refine w_iload_n (pc' := 33) rfl rfl rfl ?_
        refine w_iconst (pc' := 34) 0 rfl rfl ic_0 ?_
        refine w_bipush (pc' := 36) 7 rfl rfl bp_7 ?_
        refine w_cS3i (pc' := 39) (v_m_win xs _ _ _ (8) (by omega) (by first | decide | rfl)) (by decide) rfl rfl rfl (Or.inl rfl) (Nat.le_of_ble_eq_true rfl) (fun m' hm' => ?_)
        rw [show m' = m from hm']
        clear hm' m'
        refine w_if_ne (t := 45) (pc' := 42) rfl (by decide) rfl (fun h39 => ?_) (fun h39 => ?_)
        · obtain ⟨j4, hj4, rfl⟩ := q_is_of (bB_n0.mp h39) (by omega)
          refine w_aload_n (pc' := 46) rfl rfl rfl rfl ?_
          refine w_getI (pc' := 49) rfl rfl rfl sh_153 rfl ?_
          rw [show m.1 153 28 = nI (T.1 153 (28)) from (rf_28 h :)]
          have b5 : (T.1 153 (28)) < 6 := hB 153 (28)
          refine w_iconst (pc' := 50) 5 rfl rfl ic_5 ?_
          refine w_ic_ne (t := 56) (pc' := 53) rfl (by decide) rfl (fun h50 => ?_) (fun h50 => ?_)
          · have g6 : ¬ (T.1 153 (28)) = 5 := fun q => h50 ((nI_eq (a := (T.1 153 (28))) (b := 5) (by omega) (by omega)).mpr q)
            refine w_aload_n (pc' := 57) rfl rfl rfl rfl ?_
            refine w_getC (pc' := 60) rfl rfl rfl sh_153 rfl ?_
            refine w_aload_n (pc' := 61) rfl rfl rfl rfl ?_
            refine w_getI (pc' := 64) rfl rfl rfl sh_153 rfl ?_
            rw [show m.1 153 28 = nI (T.1 153 (28)) from (rf_28 h :)]
            have b7 : (T.1 153 (28)) < 6 := hB 153 (28)
            refine w_iload_n (pc' := 65) rfl rfl rfl ?_
            refine w_iast (j := ((T.1 153 (28)))) (pc' := 66) rfl rfl sh_171 rfl (by omega) (by decide) ?_
            refine w_gen (h.u (c := 171) (k := (T.1 153 (28))) (x := j1) rfl (y := _) (show _ = q_enc _ _ _ from rfl)) (hF.u (by decide)) (fun m1 h_1 hF_1 => ?_)
            refine w_aload_n (pc' := 67) rfl rfl rfl rfl ?_
            refine w_getC (pc' := 70) rfl rfl rfl sh_153 rfl ?_
            refine w_aload_n (pc' := 71) rfl rfl rfl rfl ?_
            refine w_getI (pc' := 74) rfl rfl rfl sh_153 rfl ?_
            rw [show m1.1 153 28 = nI (T.1 153 (28)) from (rf_28 h_1 :)]
            have b8 : (T.1 153 (28)) < 6 := hB 153 (28)
            refine w_iload_n (pc' := 75) rfl rfl rfl ?_
            refine w_iast (j := ((T.1 153 (28)))) (pc' := 76) rfl rfl sh_172 rfl (by omega) (by decide) ?_
            refine w_gen (h_1.u (c := 172) (k := (T.1 153 (28))) (x := j3) rfl (y := _) (show _ = q_enc _ _ _ from rfl)) (hF_1.u (by decide)) (fun m2 h_2 hF_2 => ?_)
            refine w_aload_n (pc' := 77) rfl rfl rfl rfl ?_
            refine w_getC (pc' := 80) rfl rfl rfl sh_153 rfl ?_
            refine w_aload_n (pc' := 81) rfl rfl rfl rfl ?_
            refine w_dup (pc' := 82) rfl rfl rfl ?_
            refine w_getI (pc' := 85) rfl rfl rfl sh_153 rfl ?_
            rw [show m2.1 153 28 = nI (T.1 153 (28)) from (rf_28 h_2 :)]
            have b9 : (T.1 153 (28)) < 6 := hB 153 (28)
            refine w_dup_x1 (pc' := 86) rfl rfl ⟨rfl, rfl⟩ ?_
            refine w_iconst (pc' := 87) 1 rfl rfl ic_1 ?_
            refine w_iadd (pc' := 88) rfl rfl ?_
            rw [show nI ((T.1 153 (28))) + (1 : Int32) = nI ((T.1 153 (28)) + 1) from nI_add _ _]
            refine w_putI (pc' := 91) rfl rfl rfl sh_153 rfl rfl rfl ?_
            refine w_gen (h_2.u (c := 153) (k := 28) (x := (T.1 153 (28)) + 1) rfl (y := _) (show _ = q_enc _ _ _ from rfl)) (hF_2.u (by decide)) (fun m3 h_3 hF_3 => ?_)
            refine w_iload_n (pc' := 92) rfl rfl rfl ?_
            refine w_iast (j := ((T.1 153 (28)))) (pc' := 93) rfl rfl sh_173 rfl (by omega) (by decide) ?_
            refine w_gen (h_3.u (c := 173) (k := (T.1 153 (28))) (x := j4) rfl (y := _) (show _ = q_enc _ _ _ from rfl)) (hF_3.u (by decide)) (fun m4 h_4 hF_4 => ?_)
            refine w_aload_n (pc' := 94) rfl rfl rfl rfl ?_
            refine w_getI (pc' := 97) rfl rfl rfl sh_153 rfl ?_
            rw [show m4.1 153 28 = nI ((T.1 153 (28)) + 1) from (rf_28 h_4 :)]
            refine w_iret rfl rfl rfl ?_
            have hf : f_see T (nI j1) (nI j3) (nI j4) = (nI ((T.1 153 (28)) + 1), (q_Tu (q_Tu (q_Tu (q_Tu T 171 ((T.1 153 (28))) (j1)) 172 ((T.1 153 (28))) (j3)) 153 (28) ((T.1 153 (28)) + 1)) 173 ((T.1 153 (28))) (j4))) := by simp [f_see, gn, q_is_nI (n := T.1 153 0) hj1 (by omega), nI_clamp (show j1 < 2 ^ 31 by omega), q_is_nI (n := 13) hj3 (by omega), nI_clamp (show j3 < 2 ^ 31 by omega), q_is_nI (n := 8) hj4 (by omega), nI_clamp (show j4 < 2 ^ 31 by omega), g6]
            rw [hf]
            exact ⟨rfl, h_4, hF_4⟩
          · have g10 : (T.1 153 (28)) = 5 := (nI_eq (a := (T.1 153 (28))) (b := 5) (by omega) (by omega)).mp h50
            refine w_bipush (pc' := 55) (-4) rfl rfl bp_m4 ?_
            refine w_iret rfl rfl rfl ?_
            have hf : f_see T (nI j1) (nI j3) (nI j4) = (-4, T) := by simp [f_see, gn, q_is_nI (n := T.1 153 0) hj1 (by omega), nI_clamp (show j1 < 2 ^ 31 by omega), q_is_nI (n := 13) hj3 (by omega), nI_clamp (show j3 < 2 ^ 31 by omega), q_is_nI (n := 8) hj4 (by omega), nI_clamp (show j4 < 2 ^ 31 by omega), eq_true g10]
            rw [hf]
            exact ⟨rfl, h, hF⟩
        · have hN11 := bB_0.mp h39
          refine w_bipush (pc' := 44) (-2) rfl rfl bp_m2 ?_
          refine w_iret rfl rfl rfl ?_
          have hf : f_see T (nI j1) (nI j3) k = (-2, T) := by simp [f_see, gn, q_is_nI (n := T.1 153 0) hj1 (by omega), nI_clamp (show j1 < 2 ^ 31 by omega), q_is_nI (n := 13) hj3 (by omega), nI_clamp (show j3 < 2 ^ 31 by omega), hN11]
          rw [hf]
          exact ⟨rfl, h, hF⟩
    · have hN12 := bB_0.mp h17
      refine w_iconst (pc' := 21) (-1) rfl rfl ic_m1 ?_
      refine w_iret rfl rfl rfl ?_
      have hf : f_see T d n k = (-1, T) := by simp [f_see, gn, hN12]
      rw [hf]
      exact ⟨rfl, h, hF⟩
  · have gn : d = -1 := h2
    refine w_aload_n (pc' := 6) rfl rfl rfl rfl ?_
    refine w_iconst (pc' := 7) 0 rfl rfl ic_0 ?_
    refine w_putI (pc' := 10) rfl rfl rfl sh_153 rfl rfl rfl ?_
    refine w_gen (h.u (c := 153) (k := 28) (x := 0) rfl (y := _) (show _ = q_enc _ _ _ from rfl)) (hF.u (by decide)) (fun m5 h_5 hF_5 => ?_)
    refine w_iconst (pc' := 11) 0 rfl rfl ic_0 ?_
    refine w_iret rfl rfl rfl ?_
    have hf : f_see T d n k = (0, (q_Tu T 153 (28) (0))) := by simp [f_see, gn]
    rw [hf]
    exact ⟨rfl, h_5, hF_5⟩
def f_book (T : q_T) (c k : Int32) : Int32 × q_T := if c = -1 then (0, q_Tu T 153 35 0) else if q_is c 16 = true then (if q_is k 8 = true then (if T.1 153 35 = 8 then (-4, T) else (nI (T.1 153 35 + 1), q_Tu (q_Tu (q_Tu T 176 (T.1 153 35) c.toNatClampNeg) 153 35 (T.1 153 35 + 1)) 177 (T.1 153 35) k.toNatClampNeg)) else (-2, T)) else (-1, T)
set_option maxRecDepth 100000 in
set_option maxHeartbeats 4000000 in
theorem v_m_book (xs : List Int32) {T : q_T} {m : am_Mm} (h : q_Rm T m) (hB : q_Bd T) (c : Int32) (k : Int32) : am_V xs 3 206 [.ref 153, .int c, .int k] m (am_qi (f_book T c k).1 (q_G (f_book T c k).2 m)) := by
  have hF : q_FC m m := q_FC.rf
  have hn : T.1 153 0 < 7 := hB 153 0
  refine am_V_of ky_206 (Nat.le_of_ble_eq_true rfl) ?_
  show am_P xs 2 m_book 0 [some (.ref 153), some (.int c), some (.int k)] [] m _
  refine w_iload_n (pc' := 1) rfl rfl rfl ?_
  refine w_iconst (pc' := 2) (-1) rfl rfl ic_m1 ?_
  refine w_ic_ne (t := 12) (pc' := 5) rfl (by decide) rfl (fun h2 => ?_) (fun h2 => ?_)
  · have gn : ¬ c = -1 := h2
    refine w_iload_n (pc' := 13) rfl rfl rfl ?_
    refine w_cS1i (pc' := 16) (v_m_cell xs _ _) (by decide) rfl rfl rfl (Or.inl rfl) (Nat.le_of_ble_eq_true rfl) (fun m' hm' => ?_)
    rw [show m' = m from hm']
    clear hm' m'
    refine w_if_ne (t := 21) (pc' := 19) rfl (by decide) rfl (fun h16 => ?_) (fun h16 => ?_)
    · obtain ⟨j1, hj1, rfl⟩ := q_is_of (bB_n0.mp h16) (by omega)
      refine w_iload_n (pc' := 22) rfl rfl rfl ?_
      refine w_iconst (pc' := 23) 0 rfl rfl ic_0 ?_
      refine w_bipush (pc' := 25) 7 rfl rfl bp_7 ?_
      refine w_cS3i (pc' := 28) (v_m_win xs _ _ _ (8) (by omega) (by first | decide | rfl)) (by decide) rfl rfl rfl (Or.inl rfl) (Nat.le_of_ble_eq_true rfl) (fun m' hm' => ?_)
      rw [show m' = m from hm']
      clear hm' m'
      refine w_if_ne (t := 34) (pc' := 31) rfl (by decide) rfl (fun h28 => ?_) (fun h28 => ?_)
      · obtain ⟨j2, hj2, rfl⟩ := q_is_of (bB_n0.mp h28) (by omega)
        refine w_aload_n (pc' := 35) rfl rfl rfl rfl ?_
        refine w_getI (pc' := 38) rfl rfl rfl sh_153 rfl ?_
        rw [show m.1 153 35 = nI (T.1 153 (35)) from (rf_35 h :)]
        have b3 : (T.1 153 (35)) < 9 := hB 153 (35)
        refine w_bipush (pc' := 40) 8 rfl rfl bp_8 ?_
        refine w_ic_ne (t := 46) (pc' := 43) rfl (by decide) rfl (fun h40 => ?_) (fun h40 => ?_)
        · have g4 : ¬ (T.1 153 (35)) = 8 := fun q => h40 ((nI_eq (a := (T.1 153 (35))) (b := 8) (by omega) (by omega)).mpr q)
          refine w_aload_n (pc' := 47) rfl rfl rfl rfl ?_
          refine w_getC (pc' := 50) rfl rfl rfl sh_153 rfl ?_
          refine w_aload_n (pc' := 51) rfl rfl rfl rfl ?_
          refine w_getI (pc' := 54) rfl rfl rfl sh_153 rfl ?_
          rw [show m.1 153 35 = nI (T.1 153 (35)) from (rf_35 h :)]
          have b5 : (T.1 153 (35)) < 9 := hB 153 (35)
          refine w_iload_n (pc' := 55) rfl rfl rfl ?_
          refine w_iast (j := ((T.1 153 (35)))) (pc' := 56) rfl rfl sh_176 rfl (by omega) (by decide) ?_
          refine w_gen (h.u (c := 176) (k := (T.1 153 (35))) (x := j1) rfl (y := _) (show _ = q_enc _ _ _ from rfl)) (hF.u (by decide)) (fun m1 h_1 hF_1 => ?_)
          refine w_aload_n (pc' := 57) rfl rfl rfl rfl ?_
          refine w_getC (pc' := 60) rfl rfl rfl sh_153 rfl ?_
          refine w_aload_n (pc' := 61) rfl rfl rfl rfl ?_
          refine w_dup (pc' := 62) rfl rfl rfl ?_
          refine w_getI (pc' := 65) rfl rfl rfl sh_153 rfl ?_
          rw [show m1.1 153 35 = nI (T.1 153 (35)) from (rf_35 h_1 :)]
          have b6 : (T.1 153 (35)) < 9 := hB 153 (35)
          refine w_dup_x1 (pc' := 66) rfl rfl ⟨rfl, rfl⟩ ?_
          refine w_iconst (pc' := 67) 1 rfl rfl ic_1 ?_
          refine w_iadd (pc' := 68) rfl rfl ?_
          rw [show nI ((T.1 153 (35))) + (1 : Int32) = nI ((T.1 153 (35)) + 1) from nI_add _ _]
          refine w_putI (pc' := 71) rfl rfl rfl sh_153 rfl rfl rfl ?_
          refine w_gen (h_1.u (c := 153) (k := 35) (x := (T.1 153 (35)) + 1) rfl (y := _) (show _ = q_enc _ _ _ from rfl)) (hF_1.u (by decide)) (fun m2 h_2 hF_2 => ?_)
          refine w_iload_n (pc' := 72) rfl rfl rfl ?_
          refine w_iast (j := ((T.1 153 (35)))) (pc' := 73) rfl rfl sh_177 rfl (by omega) (by decide) ?_
          refine w_gen (h_2.u (c := 177) (k := (T.1 153 (35))) (x := j2) rfl (y := _) (show _ = q_enc _ _ _ from rfl)) (hF_2.u (by decide)) (fun m3 h_3 hF_3 => ?_)
          refine w_aload_n (pc' := 74) rfl rfl rfl rfl ?_
          refine w_getI (pc' := 77) rfl rfl rfl sh_153 rfl ?_
          rw [show m3.1 153 35 = nI ((T.1 153 (35)) + 1) from (rf_35 h_3 :)]
          refine w_iret rfl rfl rfl ?_
          have hf : f_book T (nI j1) (nI j2) = (nI ((T.1 153 (35)) + 1), (q_Tu (q_Tu (q_Tu T 176 ((T.1 153 (35))) (j1)) 153 (35) ((T.1 153 (35)) + 1)) 177 ((T.1 153 (35))) (j2))) := by simp [f_book, gn, q_is_nI (n := 16) hj1 (by omega), nI_clamp (show j1 < 2 ^ 31 by omega), q_is_nI (n := 8) hj2 (by omega), nI_clamp (show j2 < 2 ^ 31 by omega), g4]
          rw [hf]
          exact ⟨rfl, h_3, hF_3⟩
        · have g7 : (T.1 153 (35)) = 8 := (nI_eq (a := (T.1 153 (35))) (b := 8) (by omega) (by omega)).mp h40
          refine w_bipush (pc' := 45) (-4) rfl rfl bp_m4 ?_
          refine w_iret rfl rfl rfl ?_
          have hf : f_book T (nI j1) (nI j2) = (-4, T) := by simp [f_book, gn, q_is_nI (n := 16) hj1 (by omega), nI_clamp (show j1 < 2 ^ 31 by omega), q_is_nI (n := 8) hj2 (by omega), nI_clamp (show j2 < 2 ^ 31 by omega), eq_true g7]
          rw [hf]
          exact ⟨rfl, h, hF⟩
      · have hN8 := bB_0.mp h28
        refine w_bipush (pc' := 33) (-2) rfl rfl bp_m2 ?_
        refine w_iret rfl rfl rfl ?_
        have hf : f_book T (nI j1) k = (-2, T) := by simp [f_book, gn, q_is_nI (n := 16) hj1 (by omega), nI_clamp (show j1 < 2 ^ 31 by omega), hN8]
        rw [hf]
        exact ⟨rfl, h, hF⟩
    · have hN9 := bB_0.mp h16
      refine w_iconst (pc' := 20) (-1) rfl rfl ic_m1 ?_
      refine w_iret rfl rfl rfl ?_
      have hf : f_book T c k = (-1, T) := by simp [f_book, gn, hN9]
      rw [hf]
      exact ⟨rfl, h, hF⟩
  · have gn : c = -1 := h2
    refine w_aload_n (pc' := 6) rfl rfl rfl rfl ?_
    refine w_iconst (pc' := 7) 0 rfl rfl ic_0 ?_
    refine w_putI (pc' := 10) rfl rfl rfl sh_153 rfl rfl rfl ?_
    refine w_gen (h.u (c := 153) (k := 35) (x := 0) rfl (y := _) (show _ = q_enc _ _ _ from rfl)) (hF.u (by decide)) (fun m4 h_4 hF_4 => ?_)
    refine w_iconst (pc' := 11) 0 rfl rfl ic_0 ?_
    refine w_iret rfl rfl rfl ?_
    have hf : f_book T c k = (0, (q_Tu T 153 (35) (0))) := by simp [f_book, gn]
    rw [hf]
    exact ⟨rfl, h_4, hF_4⟩
