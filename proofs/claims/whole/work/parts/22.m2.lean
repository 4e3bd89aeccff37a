def f_put (T : q_T) (d c : Int32) : Int32 × q_T := if q_is d (T.1 153 0) = true ∧ q_is c 16 = true then (nI (T.1 156 d.toNatClampNeg), q_Tu T 156 d.toNatClampNeg c.toNatClampNeg) else (-1, T)
set_option maxRecDepth 100000 in
set_option maxHeartbeats 4000000 in
theorem v_m_put (xs : List Int32) {T : q_T} {m : am_Mm} (h : q_Rm T m) (hn : T.1 153 0 ≤ 6) (d c : Int32) : am_V xs 3 162 [.ref 153, .int d, .int c] m (am_qi (f_put T d c).1 (q_G (f_put T d c).2 m)) := by
  refine am_V_of ky_162 (Nat.le_of_ble_eq_true rfl) ?_
  show am_P xs 2 m_put 0 [some (.ref 153), some (.int d), some (.int c), none] [] m _
  refine w_aload_n (pc' := 1) rfl rfl rfl rfl ?_
  refine w_iload_n (pc' := 2) rfl rfl rfl ?_
  refine w_cV1i (pc' := 5) (v_m_one xs h hn _) (by decide) rfl rfl rfl (Nat.le_of_ble_eq_true rfl) sh_153 rfl (fun m' hm' => ?_)
  subst hm'
  refine w_if_eq (t := 15) (pc' := 8) rfl (by decide) rfl (fun h5 => ?_) (fun h5 => ?_)
  · have hN := bB_0.mp h5
    refine w_iconst (pc' := 16) (-1) rfl rfl ic_m1 ?_
    refine w_iret rfl rfl rfl ?_
    have hf : f_put T d c = (-1, T) := by simp [f_put, hN]
    rw [hf]
    exact ⟨rfl, h, q_FC.rf⟩
  · obtain ⟨j, hj, rfl⟩ := q_is_of (bB_n0.mp h5) (by omega)
    refine w_iload_n (pc' := 9) rfl rfl rfl ?_
    refine w_cS1i (pc' := 12) (v_m_cell xs _ _) (by decide) rfl rfl rfl (Or.inl rfl) (Nat.le_of_ble_eq_true rfl) (fun m' hm' => ?_)
    subst hm'
    refine w_if_ne (t := 17) (pc' := 15) rfl (by decide) rfl (fun h12 => ?_) (fun h12 => ?_)
    · obtain ⟨k, hk, rfl⟩ := q_is_of (bB_n0.mp h12) (by omega)
      refine w_aload_n (pc' := 18) rfl rfl rfl rfl ?_
      refine w_getC (pc' := 21) rfl rfl rfl sh_153 rfl ?_
      refine w_iload_n (pc' := 22) rfl rfl rfl ?_
      refine w_iald (j := _) (pc' := 23) rfl rfl sh_156 rfl (by omega) (by decide) ?_
      refine w_ist3 (pc' := 24) rfl rfl rfl ?_
      refine w_aload_n (pc' := 25) rfl rfl rfl rfl ?_
      refine w_getC (pc' := 28) rfl rfl rfl sh_153 rfl ?_
      refine w_iload_n (pc' := 29) rfl rfl rfl ?_
      refine w_iload_n (pc' := 30) rfl rfl rfl ?_
      refine w_iast (j := _) (pc' := 31) rfl rfl sh_156 rfl (by omega) (by decide) ?_
      refine w_iload_n (pc' := 32) rfl rfl rfl ?_
      refine w_iret rfl rfl rfl ?_
      have hf : f_put T (nI j) (nI k) = (nI (T.1 156 j), q_Tu T 156 j k) := by simp [f_put, q_is_nI (n := T.1 153 0) hj (by omega), q_is_nI (n := 16) hk (by omega), nI_clamp (show j < 2 ^ 31 by omega), nI_clamp (show k < 2 ^ 31 by omega)]
      rw [hf]
      exact ⟨by rw [rd_156 h], h.u rfl rfl, q_FC.rf.u (by decide)⟩
    · have hN := bB_0.mp h12
      refine w_iconst (pc' := 16) (-1) rfl rfl ic_m1 ?_
      refine w_iret rfl rfl rfl ?_
      have hf : f_put T (nI j) c = (-1, T) := by simp [f_put, hN]
      rw [hf]
      exact ⟨rfl, h, q_FC.rf⟩
