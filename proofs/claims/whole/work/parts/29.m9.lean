/-- where a kept place stands; 999 where it is not kept -/
def q_pi (c k : Nat) : Nat := match c with
  | 154 => if k < 6 then k else 999
  | 155 => if k < 6 then 6 + k else 999
  | 156 => if k < 6 then 12 + k else 999
  | 157 => if k < 6 then 18 + k else 999
  | 158 => if k < 6 then 24 + k else 999
  | 159 => if k < 6 then 30 + k else 999
  | 160 => if k < 48 then 36 + k else 999
  | 161 => if k < 24 then 84 + k else 999
  | 162 => if k < 16 then 108 + k else 999
  | 171 => if k < 5 then 124 + k else 999
  | 172 => if k < 5 then 129 + k else 999
  | 173 => if k < 5 then 134 + k else 999
  | 174 => if k < 10 then 139 + k else 999
  | 175 => if k < 10 then 149 + k else 999
  | 176 => if k < 8 then 159 + k else 999
  | 177 => if k < 8 then 167 + k else 999
  | 153 => (match k with | 0 => 175 | 10 => 176 | 11 => 177 | 19 => 181 | 28 => 178 | 32 => 179 | 35 => 180 | _ => 999)
  | _ => 999
theorem q_kp_pi (c k : Nat) (h : q_pi c k < 182) : q_kp (q_pi c k) = (c, k) := by
  unfold q_pi at h ⊢
  split at h
  · split at h
    · rename_i hk
      rw [if_pos hk]
      exact q_kp_154 hk
    · omega
  · split at h
    · rename_i hk
      rw [if_pos hk]
      exact q_kp_155 hk
    · omega
  · split at h
    · rename_i hk
      rw [if_pos hk]
      exact q_kp_156 hk
    · omega
  · split at h
    · rename_i hk
      rw [if_pos hk]
      exact q_kp_157 hk
    · omega
  · split at h
    · rename_i hk
      rw [if_pos hk]
      exact q_kp_158 hk
    · omega
  · split at h
    · rename_i hk
      rw [if_pos hk]
      exact q_kp_159 hk
    · omega
  · split at h
    · rename_i hk
      rw [if_pos hk]
      exact q_kp_160 hk
    · omega
  · split at h
    · rename_i hk
      rw [if_pos hk]
      exact q_kp_161 hk
    · omega
  · split at h
    · rename_i hk
      rw [if_pos hk]
      exact q_kp_162 hk
    · omega
  · split at h
    · rename_i hk
      rw [if_pos hk]
      exact q_kp_171 hk
    · omega
  · split at h
    · rename_i hk
      rw [if_pos hk]
      exact q_kp_172 hk
    · omega
  · split at h
    · rename_i hk
      rw [if_pos hk]
      exact q_kp_173 hk
    · omega
  · split at h
    · rename_i hk
      rw [if_pos hk]
      exact q_kp_174 hk
    · omega
  · split at h
    · rename_i hk
      rw [if_pos hk]
      exact q_kp_175 hk
    · omega
  · split at h
    · rename_i hk
      rw [if_pos hk]
      exact q_kp_176 hk
    · omega
  · split at h
    · rename_i hk
      rw [if_pos hk]
      exact q_kp_177 hk
    · omega
  · split at h <;> first | rfl | omega
  · omega
def am_ag (m : am_Mm) (c : Nat) (D : Nat → Bool) : am_Mm := (fun c' k' => if D (q_pi c' k') = true then m.1 c (q_pi c' k') else m.1 c' k', m.2)
theorem am_ag_u {m : am_Mm} {c i c0 k0 : Nat} {D : Nat → Bool} {v : Int32} (hi : i < 182) (h0 : q_pi c0 k0 = i) (hv : v = m.1 c i) : am_u (am_ag m c D) c0 k0 v = am_ag m c (fun x => D x || decide (x = i)) := by
  subst hv
  refine Prod.ext ?_ rfl
  funext c' k'
  show (if c' = c0 ∧ k' = k0 then m.1 c i else if D (q_pi c' k') = true then m.1 c (q_pi c' k') else m.1 c' k') = if (D (q_pi c' k') || decide (q_pi c' k' = i)) = true then m.1 c (q_pi c' k') else m.1 c' k'
  by_cases h1 : c' = c0 ∧ k' = k0
  · obtain ⟨rfl, rfl⟩ := h1
    rw [if_pos ⟨rfl, rfl⟩, h0, if_pos (by simp)]
  · rw [if_neg h1]
    have h2 : ¬ q_pi c' k' = i := fun q => h1 (by
      have e1 := q_kp_pi c' k' (by omega)
      have e2 := q_kp_pi c0 k0 (by omega)
      rw [q] at e1
      rw [h0] at e2
      have e3 := e1.symm.trans e2
      exact ⟨congrArg Prod.fst e3, congrArg Prod.snd e3⟩)
    simp [h2]
theorem q_pi_hi {c k : Nat} (hc : c = 179 ∨ c = 180) : q_pi c k = 999 := by
  rcases hc with rfl | rfl <;> rfl
theorem am_ag_rd {m : am_Mm} {c k0 : Nat} {D : Nat → Bool} (hc : c = 179 ∨ c = 180) (hD : D 999 = false) : (am_ag m c D).1 c k0 = m.1 c k0 := if_neg (fun q => by rw [q_pi_hi hc, hD] at q; exact absurd q (by decide))
theorem am_ag_D {m : am_Mm} {c : Nat} {D D' : Nat → Bool} (h : ∀ x, D x = D' x) : am_ag m c D = am_ag m c D' := by rw [funext h]
theorem am_ag_0 {m : am_Mm} {c : Nat} {D : Nat → Bool} (h : ∀ x, D x = false) : m = am_ag m c D := by
  refine Prod.ext ?_ rfl
  funext c' k'
  exact (if_neg (fun q => by rw [h] at q; exact absurd q (by decide))).symm
theorem q_pi_154 {k : Nat} (h : k < 6) : q_pi 154 k = k := if_pos h
theorem q_pi_155 {k : Nat} (h : k < 6) : q_pi 155 k = 6 + k := if_pos h
theorem q_pi_156 {k : Nat} (h : k < 6) : q_pi 156 k = 12 + k := if_pos h
theorem q_pi_157 {k : Nat} (h : k < 6) : q_pi 157 k = 18 + k := if_pos h
theorem q_pi_158 {k : Nat} (h : k < 6) : q_pi 158 k = 24 + k := if_pos h
theorem q_pi_159 {k : Nat} (h : k < 6) : q_pi 159 k = 30 + k := if_pos h
theorem q_pi_160 {k : Nat} (h : k < 48) : q_pi 160 k = 36 + k := if_pos h
theorem q_pi_161 {k : Nat} (h : k < 24) : q_pi 161 k = 84 + k := if_pos h
theorem q_pi_162 {k : Nat} (h : k < 16) : q_pi 162 k = 108 + k := if_pos h
theorem q_pi_171 {k : Nat} (h : k < 5) : q_pi 171 k = 124 + k := if_pos h
theorem q_pi_172 {k : Nat} (h : k < 5) : q_pi 172 k = 129 + k := if_pos h
theorem q_pi_173 {k : Nat} (h : k < 5) : q_pi 173 k = 134 + k := if_pos h
theorem q_pi_174 {k : Nat} (h : k < 10) : q_pi 174 k = 139 + k := if_pos h
theorem q_pi_175 {k : Nat} (h : k < 10) : q_pi 175 k = 149 + k := if_pos h
theorem q_pi_176 {k : Nat} (h : k < 8) : q_pi 176 k = 159 + k := if_pos h
theorem q_pi_177 {k : Nat} (h : k < 8) : q_pi 177 k = 167 + k := if_pos h
set_option maxRecDepth 100000 in
set_option maxHeartbeats 4000000 in
theorem lp_again0 (xs : List Int32) {m : am_Mm} {Q : am_Q} {c : Nat} (hc : c = 179 ∨ c = 180) (hs : am_sh[c]? = some (.inl (.int, 182))) (hK : am_P xs 0 m_again 83 [some (.ref 153), some (.ref c), some (.int (nI 6))] [] (am_ag m c (fun x => decide (x < 0 ∨ (x < 36 ∧ 0 ≤ x ∧ (x - 0) % 6 < 6)))) Q) : ∀ (r k : Nat), k + r = 6 → am_P xs 0 m_again 2 [some (.ref 153), some (.ref c), some (.int (nI k))] [] (am_ag m c (fun x => decide (x < 0 ∨ (x < 36 ∧ 0 ≤ x ∧ (x - 0) % 6 < k)))) (Q) := by
  intro r
  induction r with
  | zero =>
    intro k hk
    refine w_iload_n (pc' := 3) rfl rfl rfl ?_
    refine w_bipush (pc' := 5) 6 rfl rfl bp_6 ?_
    refine w_ic_ge (t := 83) (pc' := 8) rfl (by decide) rfl (fun h5 => ?_) (fun h5 => ?_)
    · have g1 : 6 ≤ k := (nI_leI (a := 6) (b := k) (by omega) (by omega)).mp h5
      obtain rfl : k = 6 := by omega
      exact hK
    · have g2 : ¬ 6 ≤ k := fun q => h5 ((nI_leI (a := 6) (b := k) (by omega) (by omega)).mpr q)
      omega
  | succ r ih =>
    intro k hk
    refine w_iload_n (pc' := 3) rfl rfl rfl ?_
    refine w_bipush (pc' := 5) 6 rfl rfl bp_6 ?_
    refine w_ic_ge (t := 83) (pc' := 8) rfl (by decide) rfl (fun h5 => ?_) (fun h5 => ?_)
    · have g1 : 6 ≤ k := (nI_leI (a := 6) (b := k) (by omega) (by omega)).mp h5
      omega
    · have g2 : ¬ 6 ≤ k := fun q => h5 ((nI_leI (a := 6) (b := k) (by omega) (by omega)).mpr q)
      refine w_aload_n (pc' := 9) rfl rfl rfl rfl ?_
      refine w_getC (pc' := 12) rfl rfl rfl sh_153 rfl ?_
      refine w_iload_n (pc' := 13) rfl rfl rfl ?_
      refine w_aload_n (pc' := 14) rfl rfl rfl rfl ?_
      refine w_iload_n (pc' := 15) rfl rfl rfl ?_
      refine w_iald (j := (k)) (pc' := 16) rfl rfl hs rfl (by omega) (by decide) ?_
      rw [am_ag_rd hc]
      rotate_left
      · simp <;> omega
      refine w_iast (j := (k)) (pc' := 17) rfl rfl sh_154 rfl (by omega) (by decide) ?_
      rw [am_ag_u (by omega) (q_pi_154 (k := k) (by omega)) rfl]
      refine w_aload_n (pc' := 18) rfl rfl rfl rfl ?_
      refine w_getC (pc' := 21) rfl rfl rfl sh_153 rfl ?_
      refine w_iload_n (pc' := 22) rfl rfl rfl ?_
      refine w_aload_n (pc' := 23) rfl rfl rfl rfl ?_
      refine w_bipush (pc' := 25) 6 rfl rfl bp_6 ?_
      refine w_iload_n (pc' := 26) rfl rfl rfl ?_
      refine w_iadd (pc' := 27) rfl rfl ?_
      rw [show (6 : Int32) + nI (k) = nI (6 + k) from nI_add _ _]
      refine w_iald (j := (6 + k)) (pc' := 28) rfl rfl hs rfl (by omega) (by decide) ?_
      rw [am_ag_rd hc]
      rotate_left
      · simp <;> omega
      refine w_iast (j := (k)) (pc' := 29) rfl rfl sh_155 rfl (by omega) (by decide) ?_
      rw [am_ag_u (by omega) (q_pi_155 (k := k) (by omega)) rfl]
      refine w_aload_n (pc' := 30) rfl rfl rfl rfl ?_
      refine w_getC (pc' := 33) rfl rfl rfl sh_153 rfl ?_
      refine w_iload_n (pc' := 34) rfl rfl rfl ?_
      refine w_aload_n (pc' := 35) rfl rfl rfl rfl ?_
      refine w_bipush (pc' := 37) 12 rfl rfl bp_12 ?_
      refine w_iload_n (pc' := 38) rfl rfl rfl ?_
      refine w_iadd (pc' := 39) rfl rfl ?_
      rw [show (12 : Int32) + nI (k) = nI (12 + k) from nI_add _ _]
      refine w_iald (j := (12 + k)) (pc' := 40) rfl rfl hs rfl (by omega) (by decide) ?_
      rw [am_ag_rd hc]
      rotate_left
      · simp <;> omega
      refine w_iast (j := (k)) (pc' := 41) rfl rfl sh_156 rfl (by omega) (by decide) ?_
      rw [am_ag_u (by omega) (q_pi_156 (k := k) (by omega)) rfl]
      refine w_aload_n (pc' := 42) rfl rfl rfl rfl ?_
      refine w_getC (pc' := 45) rfl rfl rfl sh_153 rfl ?_
      refine w_iload_n (pc' := 46) rfl rfl rfl ?_
      refine w_aload_n (pc' := 47) rfl rfl rfl rfl ?_
      refine w_bipush (pc' := 49) 18 rfl rfl bp_18 ?_
      refine w_iload_n (pc' := 50) rfl rfl rfl ?_
      refine w_iadd (pc' := 51) rfl rfl ?_
      rw [show (18 : Int32) + nI (k) = nI (18 + k) from nI_add _ _]
      refine w_iald (j := (18 + k)) (pc' := 52) rfl rfl hs rfl (by omega) (by decide) ?_
      rw [am_ag_rd hc]
      rotate_left
      · simp <;> omega
      refine w_iast (j := (k)) (pc' := 53) rfl rfl sh_157 rfl (by omega) (by decide) ?_
      rw [am_ag_u (by omega) (q_pi_157 (k := k) (by omega)) rfl]
      refine w_aload_n (pc' := 54) rfl rfl rfl rfl ?_
      refine w_getC (pc' := 57) rfl rfl rfl sh_153 rfl ?_
      refine w_iload_n (pc' := 58) rfl rfl rfl ?_
      refine w_aload_n (pc' := 59) rfl rfl rfl rfl ?_
      refine w_bipush (pc' := 61) 24 rfl rfl bp_24 ?_
      refine w_iload_n (pc' := 62) rfl rfl rfl ?_
      refine w_iadd (pc' := 63) rfl rfl ?_
      rw [show (24 : Int32) + nI (k) = nI (24 + k) from nI_add _ _]
      refine w_iald (j := (24 + k)) (pc' := 64) rfl rfl hs rfl (by omega) (by decide) ?_
      rw [am_ag_rd hc]
      rotate_left
      · simp <;> omega
      refine w_iast (j := (k)) (pc' := 65) rfl rfl sh_158 rfl (by omega) (by decide) ?_
      rw [am_ag_u (by omega) (q_pi_158 (k := k) (by omega)) rfl]
      refine w_aload_n (pc' := 66) rfl rfl rfl rfl ?_
      refine w_getC (pc' := 69) rfl rfl rfl sh_153 rfl ?_
      refine w_iload_n (pc' := 70) rfl rfl rfl ?_
      refine w_aload_n (pc' := 71) rfl rfl rfl rfl ?_
      refine w_bipush (pc' := 73) 30 rfl rfl bp_30 ?_
      refine w_iload_n (pc' := 74) rfl rfl rfl ?_
      refine w_iadd (pc' := 75) rfl rfl ?_
      rw [show (30 : Int32) + nI (k) = nI (30 + k) from nI_add _ _]
      refine w_iald (j := (30 + k)) (pc' := 76) rfl rfl hs rfl (by omega) (by decide) ?_
      rw [am_ag_rd hc]
      rotate_left
      · simp <;> omega
      refine w_iast (j := (k)) (pc' := 77) rfl rfl sh_159 rfl (by omega) (by decide) ?_
      rw [am_ag_u (by omega) (q_pi_159 (k := k) (by omega)) rfl]
      refine w_iinc2 (pc' := 80) 1 rfl rfl ic_1 rfl ?_
      rw [nI_inc]
      refine w_goto (pc' := 2) rfl (by decide) ?_
      refine am_P_eq (am_ag_D (D' := (fun x => decide (x < 0 ∨ (x < 36 ∧ 0 ≤ x ∧ (x - 0) % 6 < (k + 1))))) (fun x => by rw [Bool.eq_iff_iff]; simp only [Bool.or_eq_true, decide_eq_true_eq]; omega)) ?_
      exact ih (k + 1) (by omega)
set_option maxRecDepth 100000 in
set_option maxHeartbeats 4000000 in
theorem lp_again1 (xs : List Int32) {m : am_Mm} {Q : am_Q} {c : Nat} (hc : c = 179 ∨ c = 180) (hs : am_sh[c]? = some (.inl (.int, 182))) (hK : am_P xs 0 m_again 109 [some (.ref 153), some (.ref c), some (.int (nI 48))] [] (am_ag m c (fun x => decide (x < 36 ∨ (x < 84 ∧ 36 ≤ x ∧ (x - 36) % 48 < 48)))) Q) : ∀ (r k : Nat), k + r = 48 → am_P xs 0 m_again 85 [some (.ref 153), some (.ref c), some (.int (nI k))] [] (am_ag m c (fun x => decide (x < 36 ∨ (x < 84 ∧ 36 ≤ x ∧ (x - 36) % 48 < k)))) (Q) := by
  intro r
  induction r with
  | zero =>
    intro k hk
    refine w_iload_n (pc' := 86) rfl rfl rfl ?_
    refine w_bipush (pc' := 88) 48 rfl rfl bp_48 ?_
    refine w_ic_ge (t := 109) (pc' := 91) rfl (by decide) rfl (fun h88 => ?_) (fun h88 => ?_)
    · have g1 : 48 ≤ k := (nI_leI (a := 48) (b := k) (by omega) (by omega)).mp h88
      obtain rfl : k = 48 := by omega
      exact hK
    · have g2 : ¬ 48 ≤ k := fun q => h88 ((nI_leI (a := 48) (b := k) (by omega) (by omega)).mpr q)
      omega
  | succ r ih =>
    intro k hk
    refine w_iload_n (pc' := 86) rfl rfl rfl ?_
    refine w_bipush (pc' := 88) 48 rfl rfl bp_48 ?_
    refine w_ic_ge (t := 109) (pc' := 91) rfl (by decide) rfl (fun h88 => ?_) (fun h88 => ?_)
    · have g1 : 48 ≤ k := (nI_leI (a := 48) (b := k) (by omega) (by omega)).mp h88
      omega
    · have g2 : ¬ 48 ≤ k := fun q => h88 ((nI_leI (a := 48) (b := k) (by omega) (by omega)).mpr q)
      refine w_aload_n (pc' := 92) rfl rfl rfl rfl ?_
      refine w_getC (pc' := 95) rfl rfl rfl sh_153 rfl ?_
      refine w_iload_n (pc' := 96) rfl rfl rfl ?_
      refine w_aload_n (pc' := 97) rfl rfl rfl rfl ?_
      refine w_bipush (pc' := 99) 36 rfl rfl bp_36 ?_
      refine w_iload_n (pc' := 100) rfl rfl rfl ?_
      refine w_iadd (pc' := 101) rfl rfl ?_
      rw [show (36 : Int32) + nI (k) = nI (36 + k) from nI_add _ _]
      refine w_iald (j := (36 + k)) (pc' := 102) rfl rfl hs rfl (by omega) (by decide) ?_
      rw [am_ag_rd hc]
      rotate_left
      · simp <;> omega
      refine w_iast (j := (k)) (pc' := 103) rfl rfl sh_160 rfl (by omega) (by decide) ?_
      rw [am_ag_u (by omega) (q_pi_160 (k := k) (by omega)) rfl]
      refine w_iinc2 (pc' := 106) 1 rfl rfl ic_1 rfl ?_
      rw [nI_inc]
      refine w_goto (pc' := 85) rfl (by decide) ?_
      refine am_P_eq (am_ag_D (D' := (fun x => decide (x < 36 ∨ (x < 84 ∧ 36 ≤ x ∧ (x - 36) % 48 < (k + 1))))) (fun x => by rw [Bool.eq_iff_iff]; simp only [Bool.or_eq_true, decide_eq_true_eq]; omega)) ?_
      exact ih (k + 1) (by omega)
set_option maxRecDepth 100000 in
set_option maxHeartbeats 4000000 in
theorem lp_again2 (xs : List Int32) {m : am_Mm} {Q : am_Q} {c : Nat} (hc : c = 179 ∨ c = 180) (hs : am_sh[c]? = some (.inl (.int, 182))) (hK : am_P xs 0 m_again 135 [some (.ref 153), some (.ref c), some (.int (nI 24))] [] (am_ag m c (fun x => decide (x < 84 ∨ (x < 108 ∧ 84 ≤ x ∧ (x - 84) % 24 < 24)))) Q) : ∀ (r k : Nat), k + r = 24 → am_P xs 0 m_again 111 [some (.ref 153), some (.ref c), some (.int (nI k))] [] (am_ag m c (fun x => decide (x < 84 ∨ (x < 108 ∧ 84 ≤ x ∧ (x - 84) % 24 < k)))) (Q) := by
  intro r
  induction r with
  | zero =>
    intro k hk
    refine w_iload_n (pc' := 112) rfl rfl rfl ?_
    refine w_bipush (pc' := 114) 24 rfl rfl bp_24 ?_
    refine w_ic_ge (t := 135) (pc' := 117) rfl (by decide) rfl (fun h114 => ?_) (fun h114 => ?_)
    · have g1 : 24 ≤ k := (nI_leI (a := 24) (b := k) (by omega) (by omega)).mp h114
      obtain rfl : k = 24 := by omega
      exact hK
    · have g2 : ¬ 24 ≤ k := fun q => h114 ((nI_leI (a := 24) (b := k) (by omega) (by omega)).mpr q)
      omega
  | succ r ih =>
    intro k hk
    refine w_iload_n (pc' := 112) rfl rfl rfl ?_
    refine w_bipush (pc' := 114) 24 rfl rfl bp_24 ?_
    refine w_ic_ge (t := 135) (pc' := 117) rfl (by decide) rfl (fun h114 => ?_) (fun h114 => ?_)
    · have g1 : 24 ≤ k := (nI_leI (a := 24) (b := k) (by omega) (by omega)).mp h114
      omega
    · have g2 : ¬ 24 ≤ k := fun q => h114 ((nI_leI (a := 24) (b := k) (by omega) (by omega)).mpr q)
      refine w_aload_n (pc' := 118) rfl rfl rfl rfl ?_
      refine w_getC (pc' := 121) rfl rfl rfl sh_153 rfl ?_
      refine w_iload_n (pc' := 122) rfl rfl rfl ?_
      refine w_aload_n (pc' := 123) rfl rfl rfl rfl ?_
      refine w_bipush (pc' := 125) 84 rfl rfl bp_84 ?_
      refine w_iload_n (pc' := 126) rfl rfl rfl ?_
      refine w_iadd (pc' := 127) rfl rfl ?_
      rw [show (84 : Int32) + nI (k) = nI (84 + k) from nI_add _ _]
      refine w_iald (j := (84 + k)) (pc' := 128) rfl rfl hs rfl (by omega) (by decide) ?_
      rw [am_ag_rd hc]
      rotate_left
      · simp <;> omega
      refine w_iast (j := (k)) (pc' := 129) rfl rfl sh_161 rfl (by omega) (by decide) ?_
      rw [am_ag_u (by omega) (q_pi_161 (k := k) (by omega)) rfl]
      refine w_iinc2 (pc' := 132) 1 rfl rfl ic_1 rfl ?_
      rw [nI_inc]
      refine w_goto (pc' := 111) rfl (by decide) ?_
      refine am_P_eq (am_ag_D (D' := (fun x => decide (x < 84 ∨ (x < 108 ∧ 84 ≤ x ∧ (x - 84) % 24 < (k + 1))))) (fun x => by rw [Bool.eq_iff_iff]; simp only [Bool.or_eq_true, decide_eq_true_eq]; omega)) ?_
      exact ih (k + 1) (by omega)
set_option maxRecDepth 100000 in
set_option maxHeartbeats 4000000 in
theorem lp_again3 (xs : List Int32) {m : am_Mm} {Q : am_Q} {c : Nat} (hc : c = 179 ∨ c = 180) (hs : am_sh[c]? = some (.inl (.int, 182))) (hK : am_P xs 0 m_again 161 [some (.ref 153), some (.ref c), some (.int (nI 16))] [] (am_ag m c (fun x => decide (x < 108 ∨ (x < 124 ∧ 108 ≤ x ∧ (x - 108) % 16 < 16)))) Q) : ∀ (r k : Nat), k + r = 16 → am_P xs 0 m_again 137 [some (.ref 153), some (.ref c), some (.int (nI k))] [] (am_ag m c (fun x => decide (x < 108 ∨ (x < 124 ∧ 108 ≤ x ∧ (x - 108) % 16 < k)))) (Q) := by
  intro r
  induction r with
  | zero =>
    intro k hk
    refine w_iload_n (pc' := 138) rfl rfl rfl ?_
    refine w_bipush (pc' := 140) 16 rfl rfl bp_16 ?_
    refine w_ic_ge (t := 161) (pc' := 143) rfl (by decide) rfl (fun h140 => ?_) (fun h140 => ?_)
    · have g1 : 16 ≤ k := (nI_leI (a := 16) (b := k) (by omega) (by omega)).mp h140
      obtain rfl : k = 16 := by omega
      exact hK
    · have g2 : ¬ 16 ≤ k := fun q => h140 ((nI_leI (a := 16) (b := k) (by omega) (by omega)).mpr q)
      omega
  | succ r ih =>
    intro k hk
    refine w_iload_n (pc' := 138) rfl rfl rfl ?_
    refine w_bipush (pc' := 140) 16 rfl rfl bp_16 ?_
    refine w_ic_ge (t := 161) (pc' := 143) rfl (by decide) rfl (fun h140 => ?_) (fun h140 => ?_)
    · have g1 : 16 ≤ k := (nI_leI (a := 16) (b := k) (by omega) (by omega)).mp h140
      omega
    · have g2 : ¬ 16 ≤ k := fun q => h140 ((nI_leI (a := 16) (b := k) (by omega) (by omega)).mpr q)
      refine w_aload_n (pc' := 144) rfl rfl rfl rfl ?_
      refine w_getC (pc' := 147) rfl rfl rfl sh_153 rfl ?_
      refine w_iload_n (pc' := 148) rfl rfl rfl ?_
      refine w_aload_n (pc' := 149) rfl rfl rfl rfl ?_
      refine w_bipush (pc' := 151) 108 rfl rfl bp_108 ?_
      refine w_iload_n (pc' := 152) rfl rfl rfl ?_
      refine w_iadd (pc' := 153) rfl rfl ?_
      rw [show (108 : Int32) + nI (k) = nI (108 + k) from nI_add _ _]
      refine w_iald (j := (108 + k)) (pc' := 154) rfl rfl hs rfl (by omega) (by decide) ?_
      rw [am_ag_rd hc]
      rotate_left
      · simp <;> omega
      refine w_iast (j := (k)) (pc' := 155) rfl rfl sh_162 rfl (by omega) (by decide) ?_
      rw [am_ag_u (by omega) (q_pi_162 (k := k) (by omega)) rfl]
      refine w_iinc2 (pc' := 158) 1 rfl rfl ic_1 rfl ?_
      rw [nI_inc]
      refine w_goto (pc' := 137) rfl (by decide) ?_
      refine am_P_eq (am_ag_D (D' := (fun x => decide (x < 108 ∨ (x < 124 ∧ 108 ≤ x ∧ (x - 108) % 16 < (k + 1))))) (fun x => by rw [Bool.eq_iff_iff]; simp only [Bool.or_eq_true, decide_eq_true_eq]; omega)) ?_
      exact ih (k + 1) (by omega)
set_option maxRecDepth 100000 in
set_option maxHeartbeats 4000000 in
theorem lp_again4 (xs : List Int32) {m : am_Mm} {Q : am_Q} {c : Nat} (hc : c = 179 ∨ c = 180) (hs : am_sh[c]? = some (.inl (.int, 182))) (hK : am_P xs 0 m_again 212 [some (.ref 153), some (.ref c), some (.int (nI 5))] [] (am_ag m c (fun x => decide (x < 124 ∨ (x < 139 ∧ 124 ≤ x ∧ (x - 124) % 5 < 5)))) Q) : ∀ (r k : Nat), k + r = 5 → am_P xs 0 m_again 163 [some (.ref 153), some (.ref c), some (.int (nI k))] [] (am_ag m c (fun x => decide (x < 124 ∨ (x < 139 ∧ 124 ≤ x ∧ (x - 124) % 5 < k)))) (Q) := by
  intro r
  induction r with
  | zero =>
    intro k hk
    refine w_iload_n (pc' := 164) rfl rfl rfl ?_
    refine w_iconst (pc' := 165) 5 rfl rfl ic_5 ?_
    refine w_ic_ge (t := 212) (pc' := 168) rfl (by decide) rfl (fun h165 => ?_) (fun h165 => ?_)
    · have g1 : 5 ≤ k := (nI_leI (a := 5) (b := k) (by omega) (by omega)).mp h165
      obtain rfl : k = 5 := by omega
      exact hK
    · have g2 : ¬ 5 ≤ k := fun q => h165 ((nI_leI (a := 5) (b := k) (by omega) (by omega)).mpr q)
      omega
  | succ r ih =>
    intro k hk
    refine w_iload_n (pc' := 164) rfl rfl rfl ?_
    refine w_iconst (pc' := 165) 5 rfl rfl ic_5 ?_
    refine w_ic_ge (t := 212) (pc' := 168) rfl (by decide) rfl (fun h165 => ?_) (fun h165 => ?_)
    · have g1 : 5 ≤ k := (nI_leI (a := 5) (b := k) (by omega) (by omega)).mp h165
      omega
    · have g2 : ¬ 5 ≤ k := fun q => h165 ((nI_leI (a := 5) (b := k) (by omega) (by omega)).mpr q)
      refine w_aload_n (pc' := 169) rfl rfl rfl rfl ?_
      refine w_getC (pc' := 172) rfl rfl rfl sh_153 rfl ?_
      refine w_iload_n (pc' := 173) rfl rfl rfl ?_
      refine w_aload_n (pc' := 174) rfl rfl rfl rfl ?_
      refine w_bipush (pc' := 176) 124 rfl rfl bp_124 ?_
      refine w_iload_n (pc' := 177) rfl rfl rfl ?_
      refine w_iadd (pc' := 178) rfl rfl ?_
      rw [show (124 : Int32) + nI (k) = nI (124 + k) from nI_add _ _]
      refine w_iald (j := (124 + k)) (pc' := 179) rfl rfl hs rfl (by omega) (by decide) ?_
      rw [am_ag_rd hc]
      rotate_left
      · simp <;> omega
      refine w_iast (j := (k)) (pc' := 180) rfl rfl sh_171 rfl (by omega) (by decide) ?_
      rw [am_ag_u (by omega) (q_pi_171 (k := k) (by omega)) rfl]
      refine w_aload_n (pc' := 181) rfl rfl rfl rfl ?_
      refine w_getC (pc' := 184) rfl rfl rfl sh_153 rfl ?_
      refine w_iload_n (pc' := 185) rfl rfl rfl ?_
      refine w_aload_n (pc' := 186) rfl rfl rfl rfl ?_
      refine w_sipush (pc' := 189) 129 rfl rfl sp_129 ?_
      refine w_iload_n (pc' := 190) rfl rfl rfl ?_
      refine w_iadd (pc' := 191) rfl rfl ?_
      rw [show (129 : Int32) + nI (k) = nI (129 + k) from nI_add _ _]
      refine w_iald (j := (129 + k)) (pc' := 192) rfl rfl hs rfl (by omega) (by decide) ?_
      rw [am_ag_rd hc]
      rotate_left
      · simp <;> omega
      refine w_iast (j := (k)) (pc' := 193) rfl rfl sh_172 rfl (by omega) (by decide) ?_
      rw [am_ag_u (by omega) (q_pi_172 (k := k) (by omega)) rfl]
      refine w_aload_n (pc' := 194) rfl rfl rfl rfl ?_
      refine w_getC (pc' := 197) rfl rfl rfl sh_153 rfl ?_
      refine w_iload_n (pc' := 198) rfl rfl rfl ?_
      refine w_aload_n (pc' := 199) rfl rfl rfl rfl ?_
      refine w_sipush (pc' := 202) 134 rfl rfl sp_134 ?_
      refine w_iload_n (pc' := 203) rfl rfl rfl ?_
      refine w_iadd (pc' := 204) rfl rfl ?_
      rw [show (134 : Int32) + nI (k) = nI (134 + k) from nI_add _ _]
      refine w_iald (j := (134 + k)) (pc' := 205) rfl rfl hs rfl (by omega) (by decide) ?_
      rw [am_ag_rd hc]
      rotate_left
      · simp <;> omega
      refine w_iast (j := (k)) (pc' := 206) rfl rfl sh_173 rfl (by omega) (by decide) ?_
      rw [am_ag_u (by omega) (q_pi_173 (k := k) (by omega)) rfl]
      refine w_iinc2 (pc' := 209) 1 rfl rfl ic_1 rfl ?_
      rw [nI_inc]
      refine w_goto (pc' := 163) rfl (by decide) ?_
      refine am_P_eq (am_ag_D (D' := (fun x => decide (x < 124 ∨ (x < 139 ∧ 124 ≤ x ∧ (x - 124) % 5 < (k + 1))))) (fun x => by rw [Bool.eq_iff_iff]; simp only [Bool.or_eq_true, decide_eq_true_eq]; omega)) ?_
      exact ih (k + 1) (by omega)
set_option maxRecDepth 100000 in
set_option maxHeartbeats 4000000 in
theorem lp_again5 (xs : List Int32) {m : am_Mm} {Q : am_Q} {c : Nat} (hc : c = 179 ∨ c = 180) (hs : am_sh[c]? = some (.inl (.int, 182))) (hK : am_P xs 0 m_again 252 [some (.ref 153), some (.ref c), some (.int (nI 10))] [] (am_ag m c (fun x => decide (x < 139 ∨ (x < 159 ∧ 139 ≤ x ∧ (x - 139) % 10 < 10)))) Q) : ∀ (r k : Nat), k + r = 10 → am_P xs 0 m_again 214 [some (.ref 153), some (.ref c), some (.int (nI k))] [] (am_ag m c (fun x => decide (x < 139 ∨ (x < 159 ∧ 139 ≤ x ∧ (x - 139) % 10 < k)))) (Q) := by
  intro r
  induction r with
  | zero =>
    intro k hk
    refine w_iload_n (pc' := 215) rfl rfl rfl ?_
    refine w_bipush (pc' := 217) 10 rfl rfl bp_10 ?_
    refine w_ic_ge (t := 252) (pc' := 220) rfl (by decide) rfl (fun h217 => ?_) (fun h217 => ?_)
    · have g1 : 10 ≤ k := (nI_leI (a := 10) (b := k) (by omega) (by omega)).mp h217
      obtain rfl : k = 10 := by omega
      exact hK
    · have g2 : ¬ 10 ≤ k := fun q => h217 ((nI_leI (a := 10) (b := k) (by omega) (by omega)).mpr q)
      omega
  | succ r ih =>
    intro k hk
    refine w_iload_n (pc' := 215) rfl rfl rfl ?_
    refine w_bipush (pc' := 217) 10 rfl rfl bp_10 ?_
    refine w_ic_ge (t := 252) (pc' := 220) rfl (by decide) rfl (fun h217 => ?_) (fun h217 => ?_)
    · have g1 : 10 ≤ k := (nI_leI (a := 10) (b := k) (by omega) (by omega)).mp h217
      omega
    · have g2 : ¬ 10 ≤ k := fun q => h217 ((nI_leI (a := 10) (b := k) (by omega) (by omega)).mpr q)
      refine w_aload_n (pc' := 221) rfl rfl rfl rfl ?_
      refine w_getC (pc' := 224) rfl rfl rfl sh_153 rfl ?_
      refine w_iload_n (pc' := 225) rfl rfl rfl ?_
      refine w_aload_n (pc' := 226) rfl rfl rfl rfl ?_
      refine w_sipush (pc' := 229) 139 rfl rfl sp_139 ?_
      refine w_iload_n (pc' := 230) rfl rfl rfl ?_
      refine w_iadd (pc' := 231) rfl rfl ?_
      rw [show (139 : Int32) + nI (k) = nI (139 + k) from nI_add _ _]
      refine w_iald (j := (139 + k)) (pc' := 232) rfl rfl hs rfl (by omega) (by decide) ?_
      rw [am_ag_rd hc]
      rotate_left
      · simp <;> omega
      refine w_iast (j := (k)) (pc' := 233) rfl rfl sh_174 rfl (by omega) (by decide) ?_
      rw [am_ag_u (by omega) (q_pi_174 (k := k) (by omega)) rfl]
      refine w_aload_n (pc' := 234) rfl rfl rfl rfl ?_
      refine w_getC (pc' := 237) rfl rfl rfl sh_153 rfl ?_
      refine w_iload_n (pc' := 238) rfl rfl rfl ?_
      refine w_aload_n (pc' := 239) rfl rfl rfl rfl ?_
      refine w_sipush (pc' := 242) 149 rfl rfl sp_149 ?_
      refine w_iload_n (pc' := 243) rfl rfl rfl ?_
      refine w_iadd (pc' := 244) rfl rfl ?_
      rw [show (149 : Int32) + nI (k) = nI (149 + k) from nI_add _ _]
      refine w_iald (j := (149 + k)) (pc' := 245) rfl rfl hs rfl (by omega) (by decide) ?_
      rw [am_ag_rd hc]
      rotate_left
      · simp <;> omega
      refine w_iast (j := (k)) (pc' := 246) rfl rfl sh_175 rfl (by omega) (by decide) ?_
      rw [am_ag_u (by omega) (q_pi_175 (k := k) (by omega)) rfl]
      refine w_iinc2 (pc' := 249) 1 rfl rfl ic_1 rfl ?_
      rw [nI_inc]
      refine w_goto (pc' := 214) rfl (by decide) ?_
      refine am_P_eq (am_ag_D (D' := (fun x => decide (x < 139 ∨ (x < 159 ∧ 139 ≤ x ∧ (x - 139) % 10 < (k + 1))))) (fun x => by rw [Bool.eq_iff_iff]; simp only [Bool.or_eq_true, decide_eq_true_eq]; omega)) ?_
      exact ih (k + 1) (by omega)
set_option maxRecDepth 100000 in
set_option maxHeartbeats 4000000 in
theorem lp_again6 (xs : List Int32) {m : am_Mm} {Q : am_Q} {c : Nat} (hc : c = 179 ∨ c = 180) (hs : am_sh[c]? = some (.inl (.int, 182))) (hK : am_P xs 0 m_again 292 [some (.ref 153), some (.ref c), some (.int (nI 8))] [] (am_ag m c (fun x => decide (x < 159 ∨ (x < 175 ∧ 159 ≤ x ∧ (x - 159) % 8 < 8)))) Q) : ∀ (r k : Nat), k + r = 8 → am_P xs 0 m_again 254 [some (.ref 153), some (.ref c), some (.int (nI k))] [] (am_ag m c (fun x => decide (x < 159 ∨ (x < 175 ∧ 159 ≤ x ∧ (x - 159) % 8 < k)))) (Q) := by
  intro r
  induction r with
  | zero =>
    intro k hk
    refine w_iload_n (pc' := 255) rfl rfl rfl ?_
    refine w_bipush (pc' := 257) 8 rfl rfl bp_8 ?_
    refine w_ic_ge (t := 292) (pc' := 260) rfl (by decide) rfl (fun h257 => ?_) (fun h257 => ?_)
    · have g1 : 8 ≤ k := (nI_leI (a := 8) (b := k) (by omega) (by omega)).mp h257
      obtain rfl : k = 8 := by omega
      exact hK
    · have g2 : ¬ 8 ≤ k := fun q => h257 ((nI_leI (a := 8) (b := k) (by omega) (by omega)).mpr q)
      omega
  | succ r ih =>
    intro k hk
    refine w_iload_n (pc' := 255) rfl rfl rfl ?_
    refine w_bipush (pc' := 257) 8 rfl rfl bp_8 ?_
    refine w_ic_ge (t := 292) (pc' := 260) rfl (by decide) rfl (fun h257 => ?_) (fun h257 => ?_)
    · have g1 : 8 ≤ k := (nI_leI (a := 8) (b := k) (by omega) (by omega)).mp h257
      omega
    · have g2 : ¬ 8 ≤ k := fun q => h257 ((nI_leI (a := 8) (b := k) (by omega) (by omega)).mpr q)
      refine w_aload_n (pc' := 261) rfl rfl rfl rfl ?_
      refine w_getC (pc' := 264) rfl rfl rfl sh_153 rfl ?_
      refine w_iload_n (pc' := 265) rfl rfl rfl ?_
      refine w_aload_n (pc' := 266) rfl rfl rfl rfl ?_
      refine w_sipush (pc' := 269) 159 rfl rfl sp_159 ?_
      refine w_iload_n (pc' := 270) rfl rfl rfl ?_
      refine w_iadd (pc' := 271) rfl rfl ?_
      rw [show (159 : Int32) + nI (k) = nI (159 + k) from nI_add _ _]
      refine w_iald (j := (159 + k)) (pc' := 272) rfl rfl hs rfl (by omega) (by decide) ?_
      rw [am_ag_rd hc]
      rotate_left
      · simp <;> omega
      refine w_iast (j := (k)) (pc' := 273) rfl rfl sh_176 rfl (by omega) (by decide) ?_
      rw [am_ag_u (by omega) (q_pi_176 (k := k) (by omega)) rfl]
      refine w_aload_n (pc' := 274) rfl rfl rfl rfl ?_
      refine w_getC (pc' := 277) rfl rfl rfl sh_153 rfl ?_
      refine w_iload_n (pc' := 278) rfl rfl rfl ?_
      refine w_aload_n (pc' := 279) rfl rfl rfl rfl ?_
      refine w_sipush (pc' := 282) 167 rfl rfl sp_167 ?_
      refine w_iload_n (pc' := 283) rfl rfl rfl ?_
      refine w_iadd (pc' := 284) rfl rfl ?_
      rw [show (167 : Int32) + nI (k) = nI (167 + k) from nI_add _ _]
      refine w_iald (j := (167 + k)) (pc' := 285) rfl rfl hs rfl (by omega) (by decide) ?_
      rw [am_ag_rd hc]
      rotate_left
      · simp <;> omega
      refine w_iast (j := (k)) (pc' := 286) rfl rfl sh_177 rfl (by omega) (by decide) ?_
      rw [am_ag_u (by omega) (q_pi_177 (k := k) (by omega)) rfl]
      refine w_iinc2 (pc' := 289) 1 rfl rfl ic_1 rfl ?_
      rw [nI_inc]
      refine w_goto (pc' := 254) rfl (by decide) ?_
      refine am_P_eq (am_ag_D (D' := (fun x => decide (x < 159 ∨ (x < 175 ∧ 159 ≤ x ∧ (x - 159) % 8 < (k + 1))))) (fun x => by rw [Bool.eq_iff_iff]; simp only [Bool.or_eq_true, decide_eq_true_eq]; omega)) ?_
      exact ih (k + 1) (by omega)
set_option maxRecDepth 100000 in
set_option maxHeartbeats 4000000 in
theorem v_m_again (xs : List Int32) {m : am_Mm} {c : Nat} (hc : c = 179 ∨ c = 180) (hs : am_sh[c]? = some (.inl (.int, 182))) : am_V xs 1 160 [.ref 153, .ref c] m (am_qn (· = am_ag m c (fun x => decide (x < 182)))) := by
  refine am_V_of ky_160 (Nat.le_of_ble_eq_true rfl) ?_
  show am_P xs 0 m_again 0 [some (.ref 153), some (.ref c), none] [] m _
  refine w_iconst (pc' := 1) 0 rfl rfl ic_0 ?_
  refine w_ist2 (pc' := 2) rfl rfl rfl ?_
  refine am_P_eq (am_ag_0 (c := c) (D := (fun x => decide (x < 0 ∨ (x < 36 ∧ 0 ≤ x ∧ (x - 0) % 6 < 0)))) (fun x => decide_eq_false (by omega))) ?_
  refine lp_again0 xs hc hs ?_ 6 0 (by omega)
  refine w_iconst (pc' := 84) 0 rfl rfl ic_0 ?_
  refine w_ist2 (pc' := 85) rfl rfl rfl ?_
  refine am_P_eq (am_ag_D (D' := (fun x => decide (x < 36 ∨ (x < 84 ∧ 36 ≤ x ∧ (x - 36) % 48 < 0)))) (fun x => by rw [Bool.eq_iff_iff]; simp only [Bool.or_eq_true, decide_eq_true_eq]; omega)) ?_
  refine lp_again1 xs hc hs ?_ 48 0 (by omega)
  refine w_iconst (pc' := 110) 0 rfl rfl ic_0 ?_
  refine w_ist2 (pc' := 111) rfl rfl rfl ?_
  refine am_P_eq (am_ag_D (D' := (fun x => decide (x < 84 ∨ (x < 108 ∧ 84 ≤ x ∧ (x - 84) % 24 < 0)))) (fun x => by rw [Bool.eq_iff_iff]; simp only [Bool.or_eq_true, decide_eq_true_eq]; omega)) ?_
  refine lp_again2 xs hc hs ?_ 24 0 (by omega)
  refine w_iconst (pc' := 136) 0 rfl rfl ic_0 ?_
  refine w_ist2 (pc' := 137) rfl rfl rfl ?_
  refine am_P_eq (am_ag_D (D' := (fun x => decide (x < 108 ∨ (x < 124 ∧ 108 ≤ x ∧ (x - 108) % 16 < 0)))) (fun x => by rw [Bool.eq_iff_iff]; simp only [Bool.or_eq_true, decide_eq_true_eq]; omega)) ?_
  refine lp_again3 xs hc hs ?_ 16 0 (by omega)
  refine w_iconst (pc' := 162) 0 rfl rfl ic_0 ?_
  refine w_ist2 (pc' := 163) rfl rfl rfl ?_
  refine am_P_eq (am_ag_D (D' := (fun x => decide (x < 124 ∨ (x < 139 ∧ 124 ≤ x ∧ (x - 124) % 5 < 0)))) (fun x => by rw [Bool.eq_iff_iff]; simp only [Bool.or_eq_true, decide_eq_true_eq]; omega)) ?_
  refine lp_again4 xs hc hs ?_ 5 0 (by omega)
  refine w_iconst (pc' := 213) 0 rfl rfl ic_0 ?_
  refine w_ist2 (pc' := 214) rfl rfl rfl ?_
  refine am_P_eq (am_ag_D (D' := (fun x => decide (x < 139 ∨ (x < 159 ∧ 139 ≤ x ∧ (x - 139) % 10 < 0)))) (fun x => by rw [Bool.eq_iff_iff]; simp only [Bool.or_eq_true, decide_eq_true_eq]; omega)) ?_
  refine lp_again5 xs hc hs ?_ 10 0 (by omega)
  refine w_iconst (pc' := 253) 0 rfl rfl ic_0 ?_
  refine w_ist2 (pc' := 254) rfl rfl rfl ?_
  refine am_P_eq (am_ag_D (D' := (fun x => decide (x < 159 ∨ (x < 175 ∧ 159 ≤ x ∧ (x - 159) % 8 < 0)))) (fun x => by rw [Bool.eq_iff_iff]; simp only [Bool.or_eq_true, decide_eq_true_eq]; omega)) ?_
  refine lp_again6 xs hc hs ?_ 8 0 (by omega)
  refine w_aload_n (pc' := 293) rfl rfl rfl rfl ?_
  refine w_aload_n (pc' := 294) rfl rfl rfl rfl ?_
  refine w_sipush (pc' := 297) 175 rfl rfl sp_175 ?_
  refine w_iald (j := (175)) (pc' := 298) rfl rfl hs rfl (by omega) (by decide) ?_
  rw [am_ag_rd hc]
  rotate_left
  · simp <;> omega
  refine w_putI (pc' := 301) rfl rfl rfl sh_153 rfl rfl rfl ?_
  rw [am_ag_u (by omega) (show q_pi 153 0 = 175 from rfl) rfl]
  refine w_aload_n (pc' := 302) rfl rfl rfl rfl ?_
  refine w_aload_n (pc' := 303) rfl rfl rfl rfl ?_
  refine w_sipush (pc' := 306) 176 rfl rfl sp_176 ?_
  refine w_iald (j := (176)) (pc' := 307) rfl rfl hs rfl (by omega) (by decide) ?_
  rw [am_ag_rd hc]
  rotate_left
  · simp <;> omega
  refine w_putI (pc' := 310) rfl rfl rfl sh_153 rfl rfl rfl ?_
  rw [am_ag_u (by omega) (show q_pi 153 10 = 176 from rfl) rfl]
  refine w_aload_n (pc' := 311) rfl rfl rfl rfl ?_
  refine w_aload_n (pc' := 312) rfl rfl rfl rfl ?_
  refine w_sipush (pc' := 315) 177 rfl rfl sp_177 ?_
  refine w_iald (j := (177)) (pc' := 316) rfl rfl hs rfl (by omega) (by decide) ?_
  rw [am_ag_rd hc]
  rotate_left
  · simp <;> omega
  refine w_putI (pc' := 319) rfl rfl rfl sh_153 rfl rfl rfl ?_
  rw [am_ag_u (by omega) (show q_pi 153 11 = 177 from rfl) rfl]
  refine w_aload_n (pc' := 320) rfl rfl rfl rfl ?_
  refine w_aload_n (pc' := 321) rfl rfl rfl rfl ?_
  refine w_sipush (pc' := 324) 178 rfl rfl sp_178 ?_
  refine w_iald (j := (178)) (pc' := 325) rfl rfl hs rfl (by omega) (by decide) ?_
  rw [am_ag_rd hc]
  rotate_left
  · simp <;> omega
  refine w_putI (pc' := 328) rfl rfl rfl sh_153 rfl rfl rfl ?_
  rw [am_ag_u (by omega) (show q_pi 153 28 = 178 from rfl) rfl]
  refine w_aload_n (pc' := 329) rfl rfl rfl rfl ?_
  refine w_aload_n (pc' := 330) rfl rfl rfl rfl ?_
  refine w_sipush (pc' := 333) 179 rfl rfl sp_179 ?_
  refine w_iald (j := (179)) (pc' := 334) rfl rfl hs rfl (by omega) (by decide) ?_
  rw [am_ag_rd hc]
  rotate_left
  · simp <;> omega
  refine w_putI (pc' := 337) rfl rfl rfl sh_153 rfl rfl rfl ?_
  rw [am_ag_u (by omega) (show q_pi 153 32 = 179 from rfl) rfl]
  refine w_aload_n (pc' := 338) rfl rfl rfl rfl ?_
  refine w_aload_n (pc' := 339) rfl rfl rfl rfl ?_
  refine w_sipush (pc' := 342) 180 rfl rfl sp_180 ?_
  refine w_iald (j := (180)) (pc' := 343) rfl rfl hs rfl (by omega) (by decide) ?_
  rw [am_ag_rd hc]
  rotate_left
  · simp <;> omega
  refine w_putI (pc' := 346) rfl rfl rfl sh_153 rfl rfl rfl ?_
  rw [am_ag_u (by omega) (show q_pi 153 35 = 180 from rfl) rfl]
  refine w_aload_n (pc' := 347) rfl rfl rfl rfl ?_
  refine w_aload_n (pc' := 348) rfl rfl rfl rfl ?_
  refine w_sipush (pc' := 351) 181 rfl rfl sp_181 ?_
  refine w_iald (j := (181)) (pc' := 352) rfl rfl hs rfl (by omega) (by decide) ?_
  rw [am_ag_rd hc]
  rotate_left
  · simp <;> omega
  refine w_putI (pc' := 355) rfl rfl rfl sh_153 rfl rfl rfl ?_
  rw [am_ag_u (by omega) (show q_pi 153 19 = 181 from rfl) rfl]
  refine w_vret rfl rfl ?_
  refine ⟨rfl, ?_⟩
  exact am_ag_D (fun x => by rw [Bool.eq_iff_iff]; simp only [Bool.or_eq_true, decide_eq_true_eq]; omega)
