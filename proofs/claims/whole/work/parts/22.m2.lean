def f_put (T : q_T) (d c : Int32) : Int32 × q_T := if q_is d (T.1 153 0) = true ∧ q_is c 16 = true then (nI (T.1 156 d.toNatClampNeg), q_Tu T 156 d.toNatClampNeg c.toNatClampNeg) else (-1, T)
set_option maxRecDepth 100000 in
set_option maxHeartbeats 4000000 in
theorem v_m_put (xs : List Int32) {T : q_T} {m : am_Mm} (h : q_Rm T m) (hn : T.1 153 0 ≤ 6) (d : Int32) (c : Int32) : am_V xs 3 162 [.ref 153, .int d, .int c] m (am_qi (f_put T d c).1 (q_G (f_put T d c).2 m)) := by
  refine am_V_of ky_162 (Nat.le_of_ble_eq_true rfl) ?_
  show am_P xs 2 m_put 0 [some (.ref 153), some (.int d), some (.int c), none] [] m _
  refine w_aload_n (pc' := 1) rfl rfl rfl rfl ?_
  refine w_iload_n (pc' := 2) rfl rfl rfl ?_
  refine w_cV1i (pc' := 5) (v_m_one xs h hn _) (by decide) rfl rfl rfl (Nat.le_of_ble_eq_true rfl) sh_153 rfl (fun m' hm' => ?_)
  subst hm'
  refine w_if_eq (t := 15) (pc' := 8) rfl (by decide) rfl (fun h5 => ?_) (fun h5 => ?_)
  · have hN1 := bB_0.mp h5
    refine w_iconst (pc' := 16) (-1) rfl rfl ic_m1 ?_
    refine w_iret rfl rfl rfl ?_
    have hf : f_put T d c = (-1, T) := by simp [f_put, hN1]
    rw [hf]
    exact ⟨rfl, h, q_FC.rf⟩
  · obtain ⟨j2, hj2, rfl⟩ := q_is_of (bB_n0.mp h5) (by omega)
    refine w_iload_n (pc' := 9) rfl rfl rfl ?_
    refine w_cS1i (pc' := 12) (v_m_cell xs _ _) (by decide) rfl rfl rfl (Or.inl rfl) (Nat.le_of_ble_eq_true rfl) (fun m' hm' => ?_)
    subst hm'
    refine w_if_ne (t := 17) (pc' := 15) rfl (by decide) rfl (fun h12 => ?_) (fun h12 => ?_)
    · obtain ⟨j3, hj3, rfl⟩ := q_is_of (bB_n0.mp h12) (by omega)
      refine w_aload_n (pc' := 18) rfl rfl rfl rfl ?_
      refine w_getC (pc' := 21) rfl rfl rfl sh_153 rfl ?_
      refine w_iload_n (pc' := 22) rfl rfl rfl ?_
      refine w_iald (j := j2) (pc' := 23) rfl rfl sh_156 rfl (by omega) (by decide) ?_
      refine w_ist3 (pc' := 24) rfl rfl rfl ?_
      refine w_aload_n (pc' := 25) rfl rfl rfl rfl ?_
      refine w_getC (pc' := 28) rfl rfl rfl sh_153 rfl ?_
      refine w_iload_n (pc' := 29) rfl rfl rfl ?_
      refine w_iload_n (pc' := 30) rfl rfl rfl ?_
      refine w_iast (j := j2) (pc' := 31) rfl rfl sh_156 rfl (by omega) (by decide) ?_
      refine w_iload_n (pc' := 32) rfl rfl rfl ?_
      refine w_iret rfl rfl rfl ?_
      have hf : f_put T (nI j2) (nI j3) = (nI (T.1 156 j2), q_Tu T 156 j2 j3) := by simp [f_put, q_is_nI (n := T.1 153 0) hj2 (by omega), nI_clamp (show j2 < 2 ^ 31 by omega), q_is_nI (n := 16) hj3 (by omega), nI_clamp (show j3 < 2 ^ 31 by omega)]
      rw [hf]
      exact ⟨by rw [rd_156 h], h.u rfl rfl, q_FC.rf.u (by decide)⟩
    · have hN4 := bB_0.mp h12
      refine w_iconst (pc' := 16) (-1) rfl rfl ic_m1 ?_
      refine w_iret rfl rfl rfl ?_
      have hf : f_put T (nI j2) c = (-1, T) := by simp [f_put, q_is_nI (n := T.1 153 0) hj2 (by omega), nI_clamp (show j2 < 2 ^ 31 by omega), hN4]
      rw [hf]
      exact ⟨rfl, h, q_FC.rf⟩
def f_anew (T : q_T) (d : Int32) : Int32 × q_T := if q_is d (T.1 153 0) = true then (nI (T.1 157 d.toNatClampNeg), q_Tu (q_Tu T 157 d.toNatClampNeg 0) 158 d.toNatClampNeg 0) else (-1, T)
set_option maxRecDepth 100000 in
set_option maxHeartbeats 4000000 in
theorem v_m_anew (xs : List Int32) {T : q_T} {m : am_Mm} (h : q_Rm T m) (hn : T.1 153 0 ≤ 6) (d : Int32) : am_V xs 3 163 [.ref 153, .int d] m (am_qi (f_anew T d).1 (q_G (f_anew T d).2 m)) := by
  refine am_V_of ky_163 (Nat.le_of_ble_eq_true rfl) ?_
  show am_P xs 2 m_anew 0 [some (.ref 153), some (.int d), none] [] m _
  refine w_aload_n (pc' := 1) rfl rfl rfl rfl ?_
  refine w_iload_n (pc' := 2) rfl rfl rfl ?_
  refine w_cV1i (pc' := 5) (v_m_one xs h hn _) (by decide) rfl rfl rfl (Nat.le_of_ble_eq_true rfl) sh_153 rfl (fun m' hm' => ?_)
  subst hm'
  refine w_if_ne (t := 10) (pc' := 8) rfl (by decide) rfl (fun h5 => ?_) (fun h5 => ?_)
  · obtain ⟨j1, hj1, rfl⟩ := q_is_of (bB_n0.mp h5) (by omega)
    refine w_aload_n (pc' := 11) rfl rfl rfl rfl ?_
    refine w_getC (pc' := 14) rfl rfl rfl sh_153 rfl ?_
    refine w_iload_n (pc' := 15) rfl rfl rfl ?_
    refine w_iald (j := j1) (pc' := 16) rfl rfl sh_157 rfl (by omega) (by decide) ?_
    refine w_ist2 (pc' := 17) rfl rfl rfl ?_
    refine w_aload_n (pc' := 18) rfl rfl rfl rfl ?_
    refine w_getC (pc' := 21) rfl rfl rfl sh_153 rfl ?_
    refine w_iload_n (pc' := 22) rfl rfl rfl ?_
    refine w_iconst (pc' := 23) 0 rfl rfl ic_0 ?_
    refine w_iast (j := j1) (pc' := 24) rfl rfl sh_157 rfl (by omega) (by decide) ?_
    refine w_aload_n (pc' := 25) rfl rfl rfl rfl ?_
    refine w_getC (pc' := 28) rfl rfl rfl sh_153 rfl ?_
    refine w_iload_n (pc' := 29) rfl rfl rfl ?_
    refine w_iconst (pc' := 30) 0 rfl rfl ic_0 ?_
    refine w_iast (j := j1) (pc' := 31) rfl rfl sh_158 rfl (by omega) (by decide) ?_
    refine w_iload_n (pc' := 32) rfl rfl rfl ?_
    refine w_iret rfl rfl rfl ?_
    have hf : f_anew T (nI j1) = (nI (T.1 157 j1), q_Tu (q_Tu T 157 j1 0) 158 j1 0) := by simp [f_anew, q_is_nI (n := T.1 153 0) hj1 (by omega), nI_clamp (show j1 < 2 ^ 31 by omega)]
    rw [hf]
    exact ⟨by rw [rd_157 h], (h.u rfl rfl).u rfl rfl, (q_FC.rf.u (by decide)).u (by decide)⟩
  · have hN2 := bB_0.mp h5
    refine w_iconst (pc' := 9) (-1) rfl rfl ic_m1 ?_
    refine w_iret rfl rfl rfl ?_
    have hf : f_anew T d = (-1, T) := by simp [f_anew, hN2]
    rw [hf]
    exact ⟨rfl, h, q_FC.rf⟩
def f_mark (T : q_T) (c n : Int32) : Int32 × q_T := if q_is c 16 = true then (if q_is n 8 = true then (nI (T.1 162 c.toNatClampNeg), q_Tu T 162 c.toNatClampNeg n.toNatClampNeg) else (-2, T)) else (-1, T)
set_option maxRecDepth 100000 in
set_option maxHeartbeats 4000000 in
theorem v_m_mark (xs : List Int32) {T : q_T} {m : am_Mm} (h : q_Rm T m) (hn : T.1 153 0 ≤ 6) (c : Int32) (n : Int32) : am_V xs 3 164 [.ref 153, .int c, .int n] m (am_qi (f_mark T c n).1 (q_G (f_mark T c n).2 m)) := by
  refine am_V_of ky_164 (Nat.le_of_ble_eq_true rfl) ?_
  show am_P xs 2 m_mark 0 [some (.ref 153), some (.int c), some (.int n), none] [] m _
  refine w_iload_n (pc' := 1) rfl rfl rfl ?_
  refine w_cS1i (pc' := 4) (v_m_cell xs _ _) (by decide) rfl rfl rfl (Or.inl rfl) (Nat.le_of_ble_eq_true rfl) (fun m' hm' => ?_)
  subst hm'
  refine w_if_ne (t := 9) (pc' := 7) rfl (by decide) rfl (fun h4 => ?_) (fun h4 => ?_)
  · obtain ⟨j1, hj1, rfl⟩ := q_is_of (bB_n0.mp h4) (by omega)
    refine w_iload_n (pc' := 10) rfl rfl rfl ?_
    refine w_iconst (pc' := 11) 0 rfl rfl ic_0 ?_
    refine w_bipush (pc' := 13) 7 rfl rfl bp_7 ?_
    refine w_cS3i (pc' := 16) (v_m_win xs _ _ _ 8 (by decide) (by decide)) (by decide) rfl rfl rfl (Or.inl rfl) (Nat.le_of_ble_eq_true rfl) (fun m' hm' => ?_)
    subst hm'
    refine w_if_ne (t := 22) (pc' := 19) rfl (by decide) rfl (fun h16 => ?_) (fun h16 => ?_)
    · obtain ⟨j2, hj2, rfl⟩ := q_is_of (bB_n0.mp h16) (by omega)
      refine w_aload_n (pc' := 23) rfl rfl rfl rfl ?_
      refine w_getC (pc' := 26) rfl rfl rfl sh_153 rfl ?_
      refine w_iload_n (pc' := 27) rfl rfl rfl ?_
      refine w_iald (j := j1) (pc' := 28) rfl rfl sh_162 rfl (by omega) (by decide) ?_
      refine w_ist3 (pc' := 29) rfl rfl rfl ?_
      refine w_aload_n (pc' := 30) rfl rfl rfl rfl ?_
      refine w_getC (pc' := 33) rfl rfl rfl sh_153 rfl ?_
      refine w_iload_n (pc' := 34) rfl rfl rfl ?_
      refine w_iload_n (pc' := 35) rfl rfl rfl ?_
      refine w_iast (j := j1) (pc' := 36) rfl rfl sh_162 rfl (by omega) (by decide) ?_
      refine w_iload_n (pc' := 37) rfl rfl rfl ?_
      refine w_iret rfl rfl rfl ?_
      have hf : f_mark T (nI j1) (nI j2) = (nI (T.1 162 j1), q_Tu T 162 j1 j2) := by simp [f_mark, q_is_nI (n := 16) hj1 (by omega), nI_clamp (show j1 < 2 ^ 31 by omega), q_is_nI (n := 8) hj2 (by omega), nI_clamp (show j2 < 2 ^ 31 by omega)]
      rw [hf]
      exact ⟨by rw [rd_162 h], h.u rfl rfl, q_FC.rf.u (by decide)⟩
    · have hN3 := bB_0.mp h16
      refine w_bipush (pc' := 21) (-2) rfl rfl bp_m2 ?_
      refine w_iret rfl rfl rfl ?_
      have hf : f_mark T (nI j1) n = (-2, T) := by simp [f_mark, q_is_nI (n := 16) hj1 (by omega), nI_clamp (show j1 < 2 ^ 31 by omega), hN3]
      rw [hf]
      exact ⟨rfl, h, q_FC.rf⟩
  · have hN4 := bB_0.mp h4
    refine w_iconst (pc' := 8) (-1) rfl rfl ic_m1 ?_
    refine w_iret rfl rfl rfl ?_
    have hf : f_mark T c n = (-1, T) := by simp [f_mark, hN4]
    rw [hf]
    exact ⟨rfl, h, q_FC.rf⟩
def f_row (T : q_T) (d p n : Int32) : Int32 × q_T := if q_is d (T.1 153 0) = true ∧ q_is p 4 = true then (if q_is n 10 = true then (if T.1 154 d.toNatClampNeg = 6 then (nI (T.1 161 (4 * d.toNatClampNeg + p.toNatClampNeg)), q_Tu T 161 (4 * d.toNatClampNeg + p.toNatClampNeg) n.toNatClampNeg) else (-3, T)) else (-2, T)) else (-1, T)
