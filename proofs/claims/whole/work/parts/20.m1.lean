def bI (c : Prop) [Decidable c] : Int32 := if c then 1 else 0
theorem bI_t {c : Prop} [Decidable c] (h : c) : bI c = 1 := if_pos h
theorem bI_f {c : Prop} [Decidable c] (h : ¬ c) : bI c = 0 := if_neg h
theorem bI_0 {c : Prop} [Decidable c] : bI c = 0 ↔ ¬ c := by unfold bI; split <;> simp_all
theorem bI_n0 {c : Prop} [Decidable c] : ¬ bI c = 0 ↔ c := by rw [bI_0]; exact Decidable.not_not
theorem am_nbI (c : Prop) [Decidable c] : narrow .boolean (.int (bI c)) = .int (bI c) := by unfold bI; split <;> rfl
set_option maxRecDepth 100000 in
set_option maxHeartbeats 4000000 in
theorem v_m_within (xs : List Int32) (m : am_Mm) (v lo hi : Int32) : am_V xs 1 141 [.int v, .int lo, .int hi] m (am_qi (bI (lo ≤ v ∧ v ≤ hi)) (· = m)) := by
  refine am_V_of ky_141 (Nat.le_of_ble_eq_true rfl) ?_
  show am_P xs 0 m_within 0 [some (.int v), some (.int lo), some (.int hi)] [] m _
  refine w_iload_n (pc' := 1) rfl rfl rfl ?_
  refine w_iload_n (pc' := 2) rfl rfl rfl ?_
  refine w_ic_lt (t := 14) (pc' := 5) rfl (by decide) rfl (fun h2 => ?_) (fun h2 => ?_)
  · refine w_iconst (pc' := 15) 0 rfl rfl ic_0 ?_
    refine w_iret rfl rfl (by first | rfl | exact am_nbI _) ?_
    exact ⟨by rw [bI_f (fun q => absurd q.1 (Int32.not_le.mpr h2))], rfl⟩
  · refine w_iload_n (pc' := 6) rfl rfl rfl ?_
    refine w_iload_n (pc' := 7) rfl rfl rfl ?_
    refine w_ic_gt (t := 14) (pc' := 10) rfl (by decide) rfl (fun h7 => ?_) (fun h7 => ?_)
    · refine w_iconst (pc' := 15) 0 rfl rfl ic_0 ?_
      refine w_iret rfl rfl (by first | rfl | exact am_nbI _) ?_
      exact ⟨by simp_all [bI], rfl⟩
    · refine w_iconst (pc' := 11) 1 rfl rfl ic_1 ?_
      refine w_goto (pc' := 15) rfl (by decide) ?_
      refine w_iret rfl rfl (by first | rfl | exact am_nbI _) ?_
      exact ⟨by simp_all [bI], rfl⟩
set_option maxRecDepth 100000 in
set_option maxHeartbeats 4000000 in
theorem v_m_isOne (xs : List Int32) (m : am_Mm) (p : Int32) : am_V xs 2 144 [.ref 153, .int p] m (am_qi (bI (0 ≤ p ∧ p ≤ m.1 153 0 - 1)) (· = m)) := by
  refine am_V_of ky_144 (Nat.le_of_ble_eq_true rfl) ?_
  show am_P xs 1 m_isOne 0 [some (.ref 153), some (.int p)] [] m _
  refine w_iload_n (pc' := 1) rfl rfl rfl ?_
  refine w_iconst (pc' := 2) 0 rfl rfl ic_0 ?_
  refine w_aload_n (pc' := 3) rfl rfl rfl rfl ?_
  refine w_getI (pc' := 6) rfl rfl rfl sh_153 rfl ?_
  refine w_iconst (pc' := 7) 1 rfl rfl ic_1 ?_
  refine w_isub (pc' := 8) rfl rfl ?_
  refine w_cS3i (pc' := 11) (v_m_within xs m _ _ _) (by decide) rfl rfl rfl (Or.inl rfl) (Nat.le_of_ble_eq_true rfl) (fun m' hm' => ?_)
  subst hm'
  refine w_iret rfl rfl (by first | rfl | exact am_nbI _) ?_
  exact ⟨rfl, rfl⟩
set_option maxRecDepth 100000 in
set_option maxHeartbeats 4000000 in
theorem v_m_isCell (xs : List Int32) (m : am_Mm) (p : Int32) : am_V xs 2 142 [.int p] m (am_qi (bI (0 ≤ p ∧ p ≤ 15)) (· = m)) := by
  refine am_V_of ky_142 (Nat.le_of_ble_eq_true rfl) ?_
  show am_P xs 1 m_isCell 0 [some (.int p)] [] m _
  refine w_iload_n (pc' := 1) rfl rfl rfl ?_
  refine w_iconst (pc' := 2) 0 rfl rfl ic_0 ?_
  refine w_bipush (pc' := 4) 15 rfl rfl bp_15 ?_
  refine w_cS3i (pc' := 7) (v_m_within xs m _ _ _) (by decide) rfl rfl rfl (Or.inl rfl) (Nat.le_of_ble_eq_true rfl) (fun m' hm' => ?_)
  subst hm'
  refine w_iret rfl rfl (by first | rfl | exact am_nbI _) ?_
  exact ⟨rfl, rfl⟩
