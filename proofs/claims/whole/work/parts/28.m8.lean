def q_kp (i : Nat) : Nat × Nat :=
  if i < 6 then (154, i) else
  if i < 12 then (155, i - 6) else
  if i < 18 then (156, i - 12) else
  if i < 24 then (157, i - 18) else
  if i < 30 then (158, i - 24) else
  if i < 36 then (159, i - 30) else
  if i < 84 then (160, i - 36) else
  if i < 108 then (161, i - 84) else
  if i < 124 then (162, i - 108) else
  if i < 129 then (171, i - 124) else
  if i < 134 then (172, i - 129) else
  if i < 139 then (173, i - 134) else
  if i < 149 then (174, i - 139) else
  if i < 159 then (175, i - 149) else
  if i < 167 then (176, i - 159) else
  if i < 175 then (177, i - 167) else
  if i = 175 then (153, 0) else
  if i = 176 then (153, 10) else
  if i = 177 then (153, 11) else
  if i = 178 then (153, 28) else
  if i = 179 then (153, 32) else
  if i = 180 then (153, 35) else
  if i = 181 then (153, 19) else
  (0, 0)
theorem q_kp_154 {k : Nat} (h : k < 6) : q_kp (k) = (154, k) := by
  unfold q_kp
  rw [if_pos (show k < 6 by omega)]
theorem q_kp_155 {k : Nat} (h : k < 6) : q_kp (6 + k) = (155, k) := by
  unfold q_kp
  rw [if_neg (show ¬ 6 + k < 6 by omega), if_pos (show 6 + k < 12 by omega), Nat.add_sub_cancel_left]
theorem q_kp_156 {k : Nat} (h : k < 6) : q_kp (12 + k) = (156, k) := by
  unfold q_kp
  rw [if_neg (show ¬ 12 + k < 6 by omega), if_neg (show ¬ 12 + k < 12 by omega), if_pos (show 12 + k < 18 by omega), Nat.add_sub_cancel_left]
theorem q_kp_157 {k : Nat} (h : k < 6) : q_kp (18 + k) = (157, k) := by
  unfold q_kp
  rw [if_neg (show ¬ 18 + k < 6 by omega), if_neg (show ¬ 18 + k < 12 by omega), if_neg (show ¬ 18 + k < 18 by omega), if_pos (show 18 + k < 24 by omega), Nat.add_sub_cancel_left]
theorem q_kp_158 {k : Nat} (h : k < 6) : q_kp (24 + k) = (158, k) := by
  unfold q_kp
  rw [if_neg (show ¬ 24 + k < 6 by omega), if_neg (show ¬ 24 + k < 12 by omega), if_neg (show ¬ 24 + k < 18 by omega), if_neg (show ¬ 24 + k < 24 by omega), if_pos (show 24 + k < 30 by omega), Nat.add_sub_cancel_left]
theorem q_kp_159 {k : Nat} (h : k < 6) : q_kp (30 + k) = (159, k) := by
  unfold q_kp
  rw [if_neg (show ¬ 30 + k < 6 by omega), if_neg (show ¬ 30 + k < 12 by omega), if_neg (show ¬ 30 + k < 18 by omega), if_neg (show ¬ 30 + k < 24 by omega), if_neg (show ¬ 30 + k < 30 by omega), if_pos (show 30 + k < 36 by omega), Nat.add_sub_cancel_left]
theorem q_kp_160 {k : Nat} (h : k < 48) : q_kp (36 + k) = (160, k) := by
  unfold q_kp
  rw [if_neg (show ¬ 36 + k < 6 by omega), if_neg (show ¬ 36 + k < 12 by omega), if_neg (show ¬ 36 + k < 18 by omega), if_neg (show ¬ 36 + k < 24 by omega), if_neg (show ¬ 36 + k < 30 by omega), if_neg (show ¬ 36 + k < 36 by omega), if_pos (show 36 + k < 84 by omega), Nat.add_sub_cancel_left]
theorem q_kp_161 {k : Nat} (h : k < 24) : q_kp (84 + k) = (161, k) := by
  unfold q_kp
  rw [if_neg (show ¬ 84 + k < 6 by omega), if_neg (show ¬ 84 + k < 12 by omega), if_neg (show ¬ 84 + k < 18 by omega), if_neg (show ¬ 84 + k < 24 by omega), if_neg (show ¬ 84 + k < 30 by omega), if_neg (show ¬ 84 + k < 36 by omega), if_neg (show ¬ 84 + k < 84 by omega), if_pos (show 84 + k < 108 by omega), Nat.add_sub_cancel_left]
theorem q_kp_162 {k : Nat} (h : k < 16) : q_kp (108 + k) = (162, k) := by
  unfold q_kp
  rw [if_neg (show ¬ 108 + k < 6 by omega), if_neg (show ¬ 108 + k < 12 by omega), if_neg (show ¬ 108 + k < 18 by omega), if_neg (show ¬ 108 + k < 24 by omega), if_neg (show ¬ 108 + k < 30 by omega), if_neg (show ¬ 108 + k < 36 by omega), if_neg (show ¬ 108 + k < 84 by omega), if_neg (show ¬ 108 + k < 108 by omega), if_pos (show 108 + k < 124 by omega), Nat.add_sub_cancel_left]
theorem q_kp_171 {k : Nat} (h : k < 5) : q_kp (124 + k) = (171, k) := by
  unfold q_kp
  rw [if_neg (show ¬ 124 + k < 6 by omega), if_neg (show ¬ 124 + k < 12 by omega), if_neg (show ¬ 124 + k < 18 by omega), if_neg (show ¬ 124 + k < 24 by omega), if_neg (show ¬ 124 + k < 30 by omega), if_neg (show ¬ 124 + k < 36 by omega), if_neg (show ¬ 124 + k < 84 by omega), if_neg (show ¬ 124 + k < 108 by omega), if_neg (show ¬ 124 + k < 124 by omega), if_pos (show 124 + k < 129 by omega), Nat.add_sub_cancel_left]
theorem q_kp_172 {k : Nat} (h : k < 5) : q_kp (129 + k) = (172, k) := by
  unfold q_kp
  rw [if_neg (show ¬ 129 + k < 6 by omega), if_neg (show ¬ 129 + k < 12 by omega), if_neg (show ¬ 129 + k < 18 by omega), if_neg (show ¬ 129 + k < 24 by omega), if_neg (show ¬ 129 + k < 30 by omega), if_neg (show ¬ 129 + k < 36 by omega), if_neg (show ¬ 129 + k < 84 by omega), if_neg (show ¬ 129 + k < 108 by omega), if_neg (show ¬ 129 + k < 124 by omega), if_neg (show ¬ 129 + k < 129 by omega), if_pos (show 129 + k < 134 by omega), Nat.add_sub_cancel_left]
theorem q_kp_173 {k : Nat} (h : k < 5) : q_kp (134 + k) = (173, k) := by
  unfold q_kp
  rw [if_neg (show ¬ 134 + k < 6 by omega), if_neg (show ¬ 134 + k < 12 by omega), if_neg (show ¬ 134 + k < 18 by omega), if_neg (show ¬ 134 + k < 24 by omega), if_neg (show ¬ 134 + k < 30 by omega), if_neg (show ¬ 134 + k < 36 by omega), if_neg (show ¬ 134 + k < 84 by omega), if_neg (show ¬ 134 + k < 108 by omega), if_neg (show ¬ 134 + k < 124 by omega), if_neg (show ¬ 134 + k < 129 by omega), if_neg (show ¬ 134 + k < 134 by omega), if_pos (show 134 + k < 139 by omega), Nat.add_sub_cancel_left]
theorem q_kp_174 {k : Nat} (h : k < 10) : q_kp (139 + k) = (174, k) := by
  unfold q_kp
  rw [if_neg (show ¬ 139 + k < 6 by omega), if_neg (show ¬ 139 + k < 12 by omega), if_neg (show ¬ 139 + k < 18 by omega), if_neg (show ¬ 139 + k < 24 by omega), if_neg (show ¬ 139 + k < 30 by omega), if_neg (show ¬ 139 + k < 36 by omega), if_neg (show ¬ 139 + k < 84 by omega), if_neg (show ¬ 139 + k < 108 by omega), if_neg (show ¬ 139 + k < 124 by omega), if_neg (show ¬ 139 + k < 129 by omega), if_neg (show ¬ 139 + k < 134 by omega), if_neg (show ¬ 139 + k < 139 by omega), if_pos (show 139 + k < 149 by omega), Nat.add_sub_cancel_left]
theorem q_kp_175 {k : Nat} (h : k < 10) : q_kp (149 + k) = (175, k) := by
  unfold q_kp
  rw [if_neg (show ¬ 149 + k < 6 by omega), if_neg (show ¬ 149 + k < 12 by omega), if_neg (show ¬ 149 + k < 18 by omega), if_neg (show ¬ 149 + k < 24 by omega), if_neg (show ¬ 149 + k < 30 by omega), if_neg (show ¬ 149 + k < 36 by omega), if_neg (show ¬ 149 + k < 84 by omega), if_neg (show ¬ 149 + k < 108 by omega), if_neg (show ¬ 149 + k < 124 by omega), if_neg (show ¬ 149 + k < 129 by omega), if_neg (show ¬ 149 + k < 134 by omega), if_neg (show ¬ 149 + k < 139 by omega), if_neg (show ¬ 149 + k < 149 by omega), if_pos (show 149 + k < 159 by omega), Nat.add_sub_cancel_left]
theorem q_kp_176 {k : Nat} (h : k < 8) : q_kp (159 + k) = (176, k) := by
  unfold q_kp
  rw [if_neg (show ¬ 159 + k < 6 by omega), if_neg (show ¬ 159 + k < 12 by omega), if_neg (show ¬ 159 + k < 18 by omega), if_neg (show ¬ 159 + k < 24 by omega), if_neg (show ¬ 159 + k < 30 by omega), if_neg (show ¬ 159 + k < 36 by omega), if_neg (show ¬ 159 + k < 84 by omega), if_neg (show ¬ 159 + k < 108 by omega), if_neg (show ¬ 159 + k < 124 by omega), if_neg (show ¬ 159 + k < 129 by omega), if_neg (show ¬ 159 + k < 134 by omega), if_neg (show ¬ 159 + k < 139 by omega), if_neg (show ¬ 159 + k < 149 by omega), if_neg (show ¬ 159 + k < 159 by omega), if_pos (show 159 + k < 167 by omega), Nat.add_sub_cancel_left]
theorem q_kp_177 {k : Nat} (h : k < 8) : q_kp (167 + k) = (177, k) := by
  unfold q_kp
  rw [if_neg (show ¬ 167 + k < 6 by omega), if_neg (show ¬ 167 + k < 12 by omega), if_neg (show ¬ 167 + k < 18 by omega), if_neg (show ¬ 167 + k < 24 by omega), if_neg (show ¬ 167 + k < 30 by omega), if_neg (show ¬ 167 + k < 36 by omega), if_neg (show ¬ 167 + k < 84 by omega), if_neg (show ¬ 167 + k < 108 by omega), if_neg (show ¬ 167 + k < 124 by omega), if_neg (show ¬ 167 + k < 129 by omega), if_neg (show ¬ 167 + k < 134 by omega), if_neg (show ¬ 167 + k < 139 by omega), if_neg (show ¬ 167 + k < 149 by omega), if_neg (show ¬ 167 + k < 159 by omega), if_neg (show ¬ 167 + k < 167 by omega), if_pos (show 167 + k < 175 by omega), Nat.add_sub_cancel_left]
def am_kp (m : am_Mm) (c : Nat) (D : Nat → Bool) : am_Mm := (fun c' k' => if c' = c ∧ D k' = true then m.1 (q_kp k').1 (q_kp k').2 else m.1 c' k', m.2)
theorem am_kp_u {m : am_Mm} {c i c0 k0 : Nat} {D : Nat → Bool} {v : Int32} (h0 : q_kp i = (c0, k0)) (hv : v = m.1 c0 k0) : am_u (am_kp m c D) c i v = am_kp m c (fun x => D x || decide (x = i)) := by
  subst hv
  refine Prod.ext ?_ rfl
  funext c' k'
  show (if c' = c ∧ k' = i then m.1 c0 k0 else if c' = c ∧ D k' = true then m.1 (q_kp k').1 (q_kp k').2 else m.1 c' k') = if c' = c ∧ (D k' || decide (k' = i)) = true then m.1 (q_kp k').1 (q_kp k').2 else m.1 c' k'
  by_cases h1 : c' = c
  · by_cases h2 : k' = i
    · subst h2
      rw [if_pos ⟨h1, rfl⟩, if_pos ⟨h1, by simp⟩, h0]
    · rw [if_neg (fun q => h2 q.2)]
      simp [h1, h2]
  · rw [if_neg (fun q => h1 q.1), if_neg (fun q => h1 q.1), if_neg (fun q => h1 q.1)]
theorem am_kp_rd {m : am_Mm} {c c0 k0 : Nat} {D : Nat → Bool} (hc : 179 ≤ c) (h : c0 < 179) : (am_kp m c D).1 c0 k0 = m.1 c0 k0 := if_neg (fun q => by omega)
theorem am_kp_D {m : am_Mm} {c : Nat} {D D' : Nat → Bool} (h : ∀ x, D x = D' x) : am_kp m c D = am_kp m c D' := by rw [funext h]
theorem am_kp_0 {m : am_Mm} {c : Nat} {D : Nat → Bool} (h : ∀ x, D x = false) : m = am_kp m c D := by
  refine Prod.ext ?_ rfl
  funext c' k'
  exact (if_neg (fun q => by rw [h k'] at q; exact absurd q.2 (by decide))).symm
theorem am_P_eq {xs : List Int32} {d : Nat} {M : am_M} {pc : Nat} {L : am_L} {st : List Value} {m m' : am_Mm} {Q : am_Q} (e : m = m') (k : am_P xs d M pc L st m' Q) : am_P xs d M pc L st m Q := by
  rw [e]
  exact k
set_option maxRecDepth 100000 in
set_option maxHeartbeats 4000000 in
theorem lp_keep0 (xs : List Int32) {m : am_Mm} {Q : am_Q} {c : Nat} (hc : 179 ≤ c) (hs : am_sh[c]? = some (.inl (.int, 182))) (hK : am_P xs 0 m_keep 83 [some (.ref 153), some (.ref c), some (.int (nI 6))] [] (am_kp m c (fun x => decide (x < 0 ∨ (x < 36 ∧ 0 ≤ x ∧ (x - 0) % 6 < 6)))) Q) : ∀ (r k : Nat), k + r = 6 → am_P xs 0 m_keep 2 [some (.ref 153), some (.ref c), some (.int (nI k))] [] (am_kp m c (fun x => decide (x < 0 ∨ (x < 36 ∧ 0 ≤ x ∧ (x - 0) % 6 < k)))) (Q) := by
  intro r
  induction r with
  | zero =>
    intro k hk
    refine w_iload_n (pc' := 3) rfl rfl rfl ?_
    refine w_bipush (pc' := 5) 6 rfl rfl bp_6 ?_
    refine w_ic_ge (t := 83) (pc' := 8) rfl (by decide) rfl (fun h5 => ?_) (fun h5 => ?_)
    · have g1 : 6 ≤ k := (nI_leI (a := 6) (b := k) (by omega) (by omega)).mp h5
      obtain rfl : k = 6 := by omega
      exact hK
    · have g2 : ¬ 6 ≤ k := fun q => h5 ((nI_leI (a := 6) (b := k) (by omega) (by omega)).mpr q)
      omega
  | succ r ih =>
    intro k hk
    refine w_iload_n (pc' := 3) rfl rfl rfl ?_
    refine w_bipush (pc' := 5) 6 rfl rfl bp_6 ?_
    refine w_ic_ge (t := 83) (pc' := 8) rfl (by decide) rfl (fun h5 => ?_) (fun h5 => ?_)
    · have g1 : 6 ≤ k := (nI_leI (a := 6) (b := k) (by omega) (by omega)).mp h5
      omega
    · have g2 : ¬ 6 ≤ k := fun q => h5 ((nI_leI (a := 6) (b := k) (by omega) (by omega)).mpr q)
      refine w_aload_n (pc' := 9) rfl rfl rfl rfl ?_
      refine w_iload_n (pc' := 10) rfl rfl rfl ?_
      refine w_aload_n (pc' := 11) rfl rfl rfl rfl ?_
      refine w_getC (pc' := 14) rfl rfl rfl sh_153 rfl ?_
      refine w_iload_n (pc' := 15) rfl rfl rfl ?_
      refine w_iald (j := (k)) (pc' := 16) rfl rfl sh_154 rfl (by omega) (by decide) ?_
      rw [am_kp_rd (c0 := 154) hc (by decide)]
      refine w_iast (j := (k)) (pc' := 17) rfl rfl hs rfl (by omega) (by decide) ?_
      rw [am_kp_u (q_kp_154 (k := k) (by omega)) rfl]
      refine w_aload_n (pc' := 18) rfl rfl rfl rfl ?_
      refine w_bipush (pc' := 20) 6 rfl rfl bp_6 ?_
      refine w_iload_n (pc' := 21) rfl rfl rfl ?_
      refine w_iadd (pc' := 22) rfl rfl ?_
      rw [show (6 : Int32) + nI (k) = nI (6 + k) from nI_add _ _]
      refine w_aload_n (pc' := 23) rfl rfl rfl rfl ?_
      refine w_getC (pc' := 26) rfl rfl rfl sh_153 rfl ?_
      refine w_iload_n (pc' := 27) rfl rfl rfl ?_
      refine w_iald (j := (k)) (pc' := 28) rfl rfl sh_155 rfl (by omega) (by decide) ?_
      rw [am_kp_rd (c0 := 155) hc (by decide)]
      refine w_iast (j := (6 + k)) (pc' := 29) rfl rfl hs rfl (by omega) (by decide) ?_
      rw [am_kp_u (q_kp_155 (k := k) (by omega)) rfl]
      refine w_aload_n (pc' := 30) rfl rfl rfl rfl ?_
      refine w_bipush (pc' := 32) 12 rfl rfl bp_12 ?_
      refine w_iload_n (pc' := 33) rfl rfl rfl ?_
      refine w_iadd (pc' := 34) rfl rfl ?_
      rw [show (12 : Int32) + nI (k) = nI (12 + k) from nI_add _ _]
      refine w_aload_n (pc' := 35) rfl rfl rfl rfl ?_
      refine w_getC (pc' := 38) rfl rfl rfl sh_153 rfl ?_
      refine w_iload_n (pc' := 39) rfl rfl rfl ?_
      refine w_iald (j := (k)) (pc' := 40) rfl rfl sh_156 rfl (by omega) (by decide) ?_
      rw [am_kp_rd (c0 := 156) hc (by decide)]
      refine w_iast (j := (12 + k)) (pc' := 41) rfl rfl hs rfl (by omega) (by decide) ?_
      rw [am_kp_u (q_kp_156 (k := k) (by omega)) rfl]
      refine w_aload_n (pc' := 42) rfl rfl rfl rfl ?_
      refine w_bipush (pc' := 44) 18 rfl rfl bp_18 ?_
      refine w_iload_n (pc' := 45) rfl rfl rfl ?_
      refine w_iadd (pc' := 46) rfl rfl ?_
      rw [show (18 : Int32) + nI (k) = nI (18 + k) from nI_add _ _]
      refine w_aload_n (pc' := 47) rfl rfl rfl rfl ?_
      refine w_getC (pc' := 50) rfl rfl rfl sh_153 rfl ?_
      refine w_iload_n (pc' := 51) rfl rfl rfl ?_
      refine w_iald (j := (k)) (pc' := 52) rfl rfl sh_157 rfl (by omega) (by decide) ?_
      rw [am_kp_rd (c0 := 157) hc (by decide)]
      refine w_iast (j := (18 + k)) (pc' := 53) rfl rfl hs rfl (by omega) (by decide) ?_
      rw [am_kp_u (q_kp_157 (k := k) (by omega)) rfl]
      refine w_aload_n (pc' := 54) rfl rfl rfl rfl ?_
      refine w_bipush (pc' := 56) 24 rfl rfl bp_24 ?_
      refine w_iload_n (pc' := 57) rfl rfl rfl ?_
      refine w_iadd (pc' := 58) rfl rfl ?_
      rw [show (24 : Int32) + nI (k) = nI (24 + k) from nI_add _ _]
      refine w_aload_n (pc' := 59) rfl rfl rfl rfl ?_
      refine w_getC (pc' := 62) rfl rfl rfl sh_153 rfl ?_
      refine w_iload_n (pc' := 63) rfl rfl rfl ?_
      refine w_iald (j := (k)) (pc' := 64) rfl rfl sh_158 rfl (by omega) (by decide) ?_
      rw [am_kp_rd (c0 := 158) hc (by decide)]
      refine w_iast (j := (24 + k)) (pc' := 65) rfl rfl hs rfl (by omega) (by decide) ?_
      rw [am_kp_u (q_kp_158 (k := k) (by omega)) rfl]
      refine w_aload_n (pc' := 66) rfl rfl rfl rfl ?_
      refine w_bipush (pc' := 68) 30 rfl rfl bp_30 ?_
      refine w_iload_n (pc' := 69) rfl rfl rfl ?_
      refine w_iadd (pc' := 70) rfl rfl ?_
      rw [show (30 : Int32) + nI (k) = nI (30 + k) from nI_add _ _]
      refine w_aload_n (pc' := 71) rfl rfl rfl rfl ?_
      refine w_getC (pc' := 74) rfl rfl rfl sh_153 rfl ?_
      refine w_iload_n (pc' := 75) rfl rfl rfl ?_
      refine w_iald (j := (k)) (pc' := 76) rfl rfl sh_159 rfl (by omega) (by decide) ?_
      rw [am_kp_rd (c0 := 159) hc (by decide)]
      refine w_iast (j := (30 + k)) (pc' := 77) rfl rfl hs rfl (by omega) (by decide) ?_
      rw [am_kp_u (q_kp_159 (k := k) (by omega)) rfl]
      refine w_iinc2 (pc' := 80) 1 rfl rfl ic_1 rfl ?_
      rw [nI_inc]
      refine w_goto (pc' := 2) rfl (by decide) ?_
      refine am_P_eq (am_kp_D (D' := (fun x => decide (x < 0 ∨ (x < 36 ∧ 0 ≤ x ∧ (x - 0) % 6 < (k + 1))))) (fun x => by rw [Bool.eq_iff_iff]; simp only [Bool.or_eq_true, decide_eq_true_eq]; omega)) ?_
      exact ih (k + 1) (by omega)
set_option maxRecDepth 100000 in
set_option maxHeartbeats 4000000 in
theorem lp_keep1 (xs : List Int32) {m : am_Mm} {Q : am_Q} {c : Nat} (hc : 179 ≤ c) (hs : am_sh[c]? = some (.inl (.int, 182))) (hK : am_P xs 0 m_keep 109 [some (.ref 153), some (.ref c), some (.int (nI 48))] [] (am_kp m c (fun x => decide (x < 36 ∨ (x < 84 ∧ 36 ≤ x ∧ (x - 36) % 48 < 48)))) Q) : ∀ (r k : Nat), k + r = 48 → am_P xs 0 m_keep 85 [some (.ref 153), some (.ref c), some (.int (nI k))] [] (am_kp m c (fun x => decide (x < 36 ∨ (x < 84 ∧ 36 ≤ x ∧ (x - 36) % 48 < k)))) (Q) := by
  intro r
  induction r with
  | zero =>
    intro k hk
    refine w_iload_n (pc' := 86) rfl rfl rfl ?_
    refine w_bipush (pc' := 88) 48 rfl rfl bp_48 ?_
    refine w_ic_ge (t := 109) (pc' := 91) rfl (by decide) rfl (fun h88 => ?_) (fun h88 => ?_)
    · have g1 : 48 ≤ k := (nI_leI (a := 48) (b := k) (by omega) (by omega)).mp h88
      obtain rfl : k = 48 := by omega
      exact hK
    · have g2 : ¬ 48 ≤ k := fun q => h88 ((nI_leI (a := 48) (b := k) (by omega) (by omega)).mpr q)
      omega
  | succ r ih =>
    intro k hk
    refine w_iload_n (pc' := 86) rfl rfl rfl ?_
    refine w_bipush (pc' := 88) 48 rfl rfl bp_48 ?_
    refine w_ic_ge (t := 109) (pc' := 91) rfl (by decide) rfl (fun h88 => ?_) (fun h88 => ?_)
    · have g1 : 48 ≤ k := (nI_leI (a := 48) (b := k) (by omega) (by omega)).mp h88
      omega
    · have g2 : ¬ 48 ≤ k := fun q => h88 ((nI_leI (a := 48) (b := k) (by omega) (by omega)).mpr q)
      refine w_aload_n (pc' := 92) rfl rfl rfl rfl ?_
      refine w_bipush (pc' := 94) 36 rfl rfl bp_36 ?_
      refine w_iload_n (pc' := 95) rfl rfl rfl ?_
      refine w_iadd (pc' := 96) rfl rfl ?_
      rw [show (36 : Int32) + nI (k) = nI (36 + k) from nI_add _ _]
      refine w_aload_n (pc' := 97) rfl rfl rfl rfl ?_
      refine w_getC (pc' := 100) rfl rfl rfl sh_153 rfl ?_
      refine w_iload_n (pc' := 101) rfl rfl rfl ?_
      refine w_iald (j := (k)) (pc' := 102) rfl rfl sh_160 rfl (by omega) (by decide) ?_
      rw [am_kp_rd (c0 := 160) hc (by decide)]
      refine w_iast (j := (36 + k)) (pc' := 103) rfl rfl hs rfl (by omega) (by decide) ?_
      rw [am_kp_u (q_kp_160 (k := k) (by omega)) rfl]
      refine w_iinc2 (pc' := 106) 1 rfl rfl ic_1 rfl ?_
      rw [nI_inc]
      refine w_goto (pc' := 85) rfl (by decide) ?_
      refine am_P_eq (am_kp_D (D' := (fun x => decide (x < 36 ∨ (x < 84 ∧ 36 ≤ x ∧ (x - 36) % 48 < (k + 1))))) (fun x => by rw [Bool.eq_iff_iff]; simp only [Bool.or_eq_true, decide_eq_true_eq]; omega)) ?_
      exact ih (k + 1) (by omega)
set_option maxRecDepth 100000 in
set_option maxHeartbeats 4000000 in
theorem lp_keep2 (xs : List Int32) {m : am_Mm} {Q : am_Q} {c : Nat} (hc : 179 ≤ c) (hs : am_sh[c]? = some (.inl (.int, 182))) (hK : am_P xs 0 m_keep 135 [some (.ref 153), some (.ref c), some (.int (nI 24))] [] (am_kp m c (fun x => decide (x < 84 ∨ (x < 108 ∧ 84 ≤ x ∧ (x - 84) % 24 < 24)))) Q) : ∀ (r k : Nat), k + r = 24 → am_P xs 0 m_keep 111 [some (.ref 153), some (.ref c), some (.int (nI k))] [] (am_kp m c (fun x => decide (x < 84 ∨ (x < 108 ∧ 84 ≤ x ∧ (x - 84) % 24 < k)))) (Q) := by
  intro r
  induction r with
  | zero =>
    intro k hk
    refine w_iload_n (pc' := 112) rfl rfl rfl ?_
    refine w_bipush (pc' := 114) 24 rfl rfl bp_24 ?_
    refine w_ic_ge (t := 135) (pc' := 117) rfl (by decide) rfl (fun h114 => ?_) (fun h114 => ?_)
    · have g1 : 24 ≤ k := (nI_leI (a := 24) (b := k) (by omega) (by omega)).mp h114
      obtain rfl : k = 24 := by omega
      exact hK
    · have g2 : ¬ 24 ≤ k := fun q => h114 ((nI_leI (a := 24) (b := k) (by omega) (by omega)).mpr q)
      omega
  | succ r ih =>
    intro k hk
    refine w_iload_n (pc' := 112) rfl rfl rfl ?_
    refine w_bipush (pc' := 114) 24 rfl rfl bp_24 ?_
    refine w_ic_ge (t := 135) (pc' := 117) rfl (by decide) rfl (fun h114 => ?_) (fun h114 => ?_)
    · have g1 : 24 ≤ k := (nI_leI (a := 24) (b := k) (by omega) (by omega)).mp h114
      omega
    · have g2 : ¬ 24 ≤ k := fun q => h114 ((nI_leI (a := 24) (b := k) (by omega) (by omega)).mpr q)
      refine w_aload_n (pc' := 118) rfl rfl rfl rfl ?_
      refine w_bipush (pc' := 120) 84 rfl rfl bp_84 ?_
      refine w_iload_n (pc' := 121) rfl rfl rfl ?_
      refine w_iadd (pc' := 122) rfl rfl ?_
      rw [show (84 : Int32) + nI (k) = nI (84 + k) from nI_add _ _]
      refine w_aload_n (pc' := 123) rfl rfl rfl rfl ?_
      refine w_getC (pc' := 126) rfl rfl rfl sh_153 rfl ?_
      refine w_iload_n (pc' := 127) rfl rfl rfl ?_
      refine w_iald (j := (k)) (pc' := 128) rfl rfl sh_161 rfl (by omega) (by decide) ?_
      rw [am_kp_rd (c0 := 161) hc (by decide)]
      refine w_iast (j := (84 + k)) (pc' := 129) rfl rfl hs rfl (by omega) (by decide) ?_
      rw [am_kp_u (q_kp_161 (k := k) (by omega)) rfl]
      refine w_iinc2 (pc' := 132) 1 rfl rfl ic_1 rfl ?_
      rw [nI_inc]
      refine w_goto (pc' := 111) rfl (by decide) ?_
      refine am_P_eq (am_kp_D (D' := (fun x => decide (x < 84 ∨ (x < 108 ∧ 84 ≤ x ∧ (x - 84) % 24 < (k + 1))))) (fun x => by rw [Bool.eq_iff_iff]; simp only [Bool.or_eq_true, decide_eq_true_eq]; omega)) ?_
      exact ih (k + 1) (by omega)
set_option maxRecDepth 100000 in
set_option maxHeartbeats 4000000 in
theorem lp_keep3 (xs : List Int32) {m : am_Mm} {Q : am_Q} {c : Nat} (hc : 179 ≤ c) (hs : am_sh[c]? = some (.inl (.int, 182))) (hK : am_P xs 0 m_keep 161 [some (.ref 153), some (.ref c), some (.int (nI 16))] [] (am_kp m c (fun x => decide (x < 108 ∨ (x < 124 ∧ 108 ≤ x ∧ (x - 108) % 16 < 16)))) Q) : ∀ (r k : Nat), k + r = 16 → am_P xs 0 m_keep 137 [some (.ref 153), some (.ref c), some (.int (nI k))] [] (am_kp m c (fun x => decide (x < 108 ∨ (x < 124 ∧ 108 ≤ x ∧ (x - 108) % 16 < k)))) (Q) := by
  intro r
  induction r with
  | zero =>
    intro k hk
    refine w_iload_n (pc' := 138) rfl rfl rfl ?_
    refine w_bipush (pc' := 140) 16 rfl rfl bp_16 ?_
    refine w_ic_ge (t := 161) (pc' := 143) rfl (by decide) rfl (fun h140 => ?_) (fun h140 => ?_)
    · have g1 : 16 ≤ k := (nI_leI (a := 16) (b := k) (by omega) (by omega)).mp h140
      obtain rfl : k = 16 := by omega
      exact hK
    · have g2 : ¬ 16 ≤ k := fun q => h140 ((nI_leI (a := 16) (b := k) (by omega) (by omega)).mpr q)
      omega
  | succ r ih =>
    intro k hk
    refine w_iload_n (pc' := 138) rfl rfl rfl ?_
    refine w_bipush (pc' := 140) 16 rfl rfl bp_16 ?_
    refine w_ic_ge (t := 161) (pc' := 143) rfl (by decide) rfl (fun h140 => ?_) (fun h140 => ?_)
    · have g1 : 16 ≤ k := (nI_leI (a := 16) (b := k) (by omega) (by omega)).mp h140
      omega
    · have g2 : ¬ 16 ≤ k := fun q => h140 ((nI_leI (a := 16) (b := k) (by omega) (by omega)).mpr q)
      refine w_aload_n (pc' := 144) rfl rfl rfl rfl ?_
      refine w_bipush (pc' := 146) 108 rfl rfl bp_108 ?_
      refine w_iload_n (pc' := 147) rfl rfl rfl ?_
      refine w_iadd (pc' := 148) rfl rfl ?_
      rw [show (108 : Int32) + nI (k) = nI (108 + k) from nI_add _ _]
      refine w_aload_n (pc' := 149) rfl rfl rfl rfl ?_
      refine w_getC (pc' := 152) rfl rfl rfl sh_153 rfl ?_
      refine w_iload_n (pc' := 153) rfl rfl rfl ?_
      refine w_iald (j := (k)) (pc' := 154) rfl rfl sh_162 rfl (by omega) (by decide) ?_
      rw [am_kp_rd (c0 := 162) hc (by decide)]
      refine w_iast (j := (108 + k)) (pc' := 155) rfl rfl hs rfl (by omega) (by decide) ?_
      rw [am_kp_u (q_kp_162 (k := k) (by omega)) rfl]
      refine w_iinc2 (pc' := 158) 1 rfl rfl ic_1 rfl ?_
      rw [nI_inc]
      refine w_goto (pc' := 137) rfl (by decide) ?_
      refine am_P_eq (am_kp_D (D' := (fun x => decide (x < 108 ∨ (x < 124 ∧ 108 ≤ x ∧ (x - 108) % 16 < (k + 1))))) (fun x => by rw [Bool.eq_iff_iff]; simp only [Bool.or_eq_true, decide_eq_true_eq]; omega)) ?_
      exact ih (k + 1) (by omega)
set_option maxRecDepth 100000 in
set_option maxHeartbeats 4000000 in
theorem lp_keep4 (xs : List Int32) {m : am_Mm} {Q : am_Q} {c : Nat} (hc : 179 ≤ c) (hs : am_sh[c]? = some (.inl (.int, 182))) (hK : am_P xs 0 m_keep 212 [some (.ref 153), some (.ref c), some (.int (nI 5))] [] (am_kp m c (fun x => decide (x < 124 ∨ (x < 139 ∧ 124 ≤ x ∧ (x - 124) % 5 < 5)))) Q) : ∀ (r k : Nat), k + r = 5 → am_P xs 0 m_keep 163 [some (.ref 153), some (.ref c), some (.int (nI k))] [] (am_kp m c (fun x => decide (x < 124 ∨ (x < 139 ∧ 124 ≤ x ∧ (x - 124) % 5 < k)))) (Q) := by
  intro r
  induction r with
  | zero =>
    intro k hk
    refine w_iload_n (pc' := 164) rfl rfl rfl ?_
    refine w_iconst (pc' := 165) 5 rfl rfl ic_5 ?_
    refine w_ic_ge (t := 212) (pc' := 168) rfl (by decide) rfl (fun h165 => ?_) (fun h165 => ?_)
    · have g1 : 5 ≤ k := (nI_leI (a := 5) (b := k) (by omega) (by omega)).mp h165
      obtain rfl : k = 5 := by omega
      exact hK
    · have g2 : ¬ 5 ≤ k := fun q => h165 ((nI_leI (a := 5) (b := k) (by omega) (by omega)).mpr q)
      omega
  | succ r ih =>
    intro k hk
    refine w_iload_n (pc' := 164) rfl rfl rfl ?_
    refine w_iconst (pc' := 165) 5 rfl rfl ic_5 ?_
    refine w_ic_ge (t := 212) (pc' := 168) rfl (by decide) rfl (fun h165 => ?_) (fun h165 => ?_)
    · have g1 : 5 ≤ k := (nI_leI (a := 5) (b := k) (by omega) (by omega)).mp h165
      omega
    · have g2 : ¬ 5 ≤ k := fun q => h165 ((nI_leI (a := 5) (b := k) (by omega) (by omega)).mpr q)
      refine w_aload_n (pc' := 169) rfl rfl rfl rfl ?_
      refine w_bipush (pc' := 171) 124 rfl rfl bp_124 ?_
      refine w_iload_n (pc' := 172) rfl rfl rfl ?_
      refine w_iadd (pc' := 173) rfl rfl ?_
      rw [show (124 : Int32) + nI (k) = nI (124 + k) from nI_add _ _]
      refine w_aload_n (pc' := 174) rfl rfl rfl rfl ?_
      refine w_getC (pc' := 177) rfl rfl rfl sh_153 rfl ?_
      refine w_iload_n (pc' := 178) rfl rfl rfl ?_
      refine w_iald (j := (k)) (pc' := 179) rfl rfl sh_171 rfl (by omega) (by decide) ?_
      rw [am_kp_rd (c0 := 171) hc (by decide)]
      refine w_iast (j := (124 + k)) (pc' := 180) rfl rfl hs rfl (by omega) (by decide) ?_
      rw [am_kp_u (q_kp_171 (k := k) (by omega)) rfl]
      refine w_aload_n (pc' := 181) rfl rfl rfl rfl ?_
      refine w_sipush (pc' := 184) 129 rfl rfl sp_129 ?_
      refine w_iload_n (pc' := 185) rfl rfl rfl ?_
      refine w_iadd (pc' := 186) rfl rfl ?_
      rw [show (129 : Int32) + nI (k) = nI (129 + k) from nI_add _ _]
      refine w_aload_n (pc' := 187) rfl rfl rfl rfl ?_
      refine w_getC (pc' := 190) rfl rfl rfl sh_153 rfl ?_
      refine w_iload_n (pc' := 191) rfl rfl rfl ?_
      refine w_iald (j := (k)) (pc' := 192) rfl rfl sh_172 rfl (by omega) (by decide) ?_
      rw [am_kp_rd (c0 := 172) hc (by decide)]
      refine w_iast (j := (129 + k)) (pc' := 193) rfl rfl hs rfl (by omega) (by decide) ?_
      rw [am_kp_u (q_kp_172 (k := k) (by omega)) rfl]
      refine w_aload_n (pc' := 194) rfl rfl rfl rfl ?_
      refine w_sipush (pc' := 197) 134 rfl rfl sp_134 ?_
      refine w_iload_n (pc' := 198) rfl rfl rfl ?_
      refine w_iadd (pc' := 199) rfl rfl ?_
      rw [show (134 : Int32) + nI (k) = nI (134 + k) from nI_add _ _]
      refine w_aload_n (pc' := 200) rfl rfl rfl rfl ?_
      refine w_getC (pc' := 203) rfl rfl rfl sh_153 rfl ?_
      refine w_iload_n (pc' := 204) rfl rfl rfl ?_
      refine w_iald (j := (k)) (pc' := 205) rfl rfl sh_173 rfl (by omega) (by decide) ?_
      rw [am_kp_rd (c0 := 173) hc (by decide)]
      refine w_iast (j := (134 + k)) (pc' := 206) rfl rfl hs rfl (by omega) (by decide) ?_
      rw [am_kp_u (q_kp_173 (k := k) (by omega)) rfl]
      refine w_iinc2 (pc' := 209) 1 rfl rfl ic_1 rfl ?_
      rw [nI_inc]
      refine w_goto (pc' := 163) rfl (by decide) ?_
      refine am_P_eq (am_kp_D (D' := (fun x => decide (x < 124 ∨ (x < 139 ∧ 124 ≤ x ∧ (x - 124) % 5 < (k + 1))))) (fun x => by rw [Bool.eq_iff_iff]; simp only [Bool.or_eq_true, decide_eq_true_eq]; omega)) ?_
      exact ih (k + 1) (by omega)
set_option maxRecDepth 100000 in
set_option maxHeartbeats 4000000 in
theorem lp_keep5 (xs : List Int32) {m : am_Mm} {Q : am_Q} {c : Nat} (hc : 179 ≤ c) (hs : am_sh[c]? = some (.inl (.int, 182))) (hK : am_P xs 0 m_keep 252 [some (.ref 153), some (.ref c), some (.int (nI 10))] [] (am_kp m c (fun x => decide (x < 139 ∨ (x < 159 ∧ 139 ≤ x ∧ (x - 139) % 10 < 10)))) Q) : ∀ (r k : Nat), k + r = 10 → am_P xs 0 m_keep 214 [some (.ref 153), some (.ref c), some (.int (nI k))] [] (am_kp m c (fun x => decide (x < 139 ∨ (x < 159 ∧ 139 ≤ x ∧ (x - 139) % 10 < k)))) (Q) := by
  intro r
  induction r with
  | zero =>
    intro k hk
    refine w_iload_n (pc' := 215) rfl rfl rfl ?_
    refine w_bipush (pc' := 217) 10 rfl rfl bp_10 ?_
    refine w_ic_ge (t := 252) (pc' := 220) rfl (by decide) rfl (fun h217 => ?_) (fun h217 => ?_)
    · have g1 : 10 ≤ k := (nI_leI (a := 10) (b := k) (by omega) (by omega)).mp h217
      obtain rfl : k = 10 := by omega
      exact hK
    · have g2 : ¬ 10 ≤ k := fun q => h217 ((nI_leI (a := 10) (b := k) (by omega) (by omega)).mpr q)
      omega
  | succ r ih =>
    intro k hk
    refine w_iload_n (pc' := 215) rfl rfl rfl ?_
    refine w_bipush (pc' := 217) 10 rfl rfl bp_10 ?_
    refine w_ic_ge (t := 252) (pc' := 220) rfl (by decide) rfl (fun h217 => ?_) (fun h217 => ?_)
    · have g1 : 10 ≤ k := (nI_leI (a := 10) (b := k) (by omega) (by omega)).mp h217
      omega
    · have g2 : ¬ 10 ≤ k := fun q => h217 ((nI_leI (a := 10) (b := k) (by omega) (by omega)).mpr q)
      refine w_aload_n (pc' := 221) rfl rfl rfl rfl ?_
      refine w_sipush (pc' := 224) 139 rfl rfl sp_139 ?_
      refine w_iload_n (pc' := 225) rfl rfl rfl ?_
      refine w_iadd (pc' := 226) rfl rfl ?_
      rw [show (139 : Int32) + nI (k) = nI (139 + k) from nI_add _ _]
      refine w_aload_n (pc' := 227) rfl rfl rfl rfl ?_
      refine w_getC (pc' := 230) rfl rfl rfl sh_153 rfl ?_
      refine w_iload_n (pc' := 231) rfl rfl rfl ?_
      refine w_iald (j := (k)) (pc' := 232) rfl rfl sh_174 rfl (by omega) (by decide) ?_
      rw [am_kp_rd (c0 := 174) hc (by decide)]
      refine w_iast (j := (139 + k)) (pc' := 233) rfl rfl hs rfl (by omega) (by decide) ?_
      rw [am_kp_u (q_kp_174 (k := k) (by omega)) rfl]
      refine w_aload_n (pc' := 234) rfl rfl rfl rfl ?_
      refine w_sipush (pc' := 237) 149 rfl rfl sp_149 ?_
      refine w_iload_n (pc' := 238) rfl rfl rfl ?_
      refine w_iadd (pc' := 239) rfl rfl ?_
      rw [show (149 : Int32) + nI (k) = nI (149 + k) from nI_add _ _]
      refine w_aload_n (pc' := 240) rfl rfl rfl rfl ?_
      refine w_getC (pc' := 243) rfl rfl rfl sh_153 rfl ?_
      refine w_iload_n (pc' := 244) rfl rfl rfl ?_
      refine w_iald (j := (k)) (pc' := 245) rfl rfl sh_175 rfl (by omega) (by decide) ?_
      rw [am_kp_rd (c0 := 175) hc (by decide)]
      refine w_iast (j := (149 + k)) (pc' := 246) rfl rfl hs rfl (by omega) (by decide) ?_
      rw [am_kp_u (q_kp_175 (k := k) (by omega)) rfl]
      refine w_iinc2 (pc' := 249) 1 rfl rfl ic_1 rfl ?_
      rw [nI_inc]
      refine w_goto (pc' := 214) rfl (by decide) ?_
      refine am_P_eq (am_kp_D (D' := (fun x => decide (x < 139 ∨ (x < 159 ∧ 139 ≤ x ∧ (x - 139) % 10 < (k + 1))))) (fun x => by rw [Bool.eq_iff_iff]; simp only [Bool.or_eq_true, decide_eq_true_eq]; omega)) ?_
      exact ih (k + 1) (by omega)
set_option maxRecDepth 100000 in
set_option maxHeartbeats 4000000 in
theorem lp_keep6 (xs : List Int32) {m : am_Mm} {Q : am_Q} {c : Nat} (hc : 179 ≤ c) (hs : am_sh[c]? = some (.inl (.int, 182))) (hK : am_P xs 0 m_keep 292 [some (.ref 153), some (.ref c), some (.int (nI 8))] [] (am_kp m c (fun x => decide (x < 159 ∨ (x < 175 ∧ 159 ≤ x ∧ (x - 159) % 8 < 8)))) Q) : ∀ (r k : Nat), k + r = 8 → am_P xs 0 m_keep 254 [some (.ref 153), some (.ref c), some (.int (nI k))] [] (am_kp m c (fun x => decide (x < 159 ∨ (x < 175 ∧ 159 ≤ x ∧ (x - 159) % 8 < k)))) (Q) := by
  intro r
  induction r with
  | zero =>
    intro k hk
    refine w_iload_n (pc' := 255) rfl rfl rfl ?_
    refine w_bipush (pc' := 257) 8 rfl rfl bp_8 ?_
    refine w_ic_ge (t := 292) (pc' := 260) rfl (by decide) rfl (fun h257 => ?_) (fun h257 => ?_)
    · have g1 : 8 ≤ k := (nI_leI (a := 8) (b := k) (by omega) (by omega)).mp h257
      obtain rfl : k = 8 := by omega
      exact hK
    · have g2 : ¬ 8 ≤ k := fun q => h257 ((nI_leI (a := 8) (b := k) (by omega) (by omega)).mpr q)
      omega
  | succ r ih =>
    intro k hk
    refine w_iload_n (pc' := 255) rfl rfl rfl ?_
    refine w_bipush (pc' := 257) 8 rfl rfl bp_8 ?_
    refine w_ic_ge (t := 292) (pc' := 260) rfl (by decide) rfl (fun h257 => ?_) (fun h257 => ?_)
    · have g1 : 8 ≤ k := (nI_leI (a := 8) (b := k) (by omega) (by omega)).mp h257
      omega
    · have g2 : ¬ 8 ≤ k := fun q => h257 ((nI_leI (a := 8) (b := k) (by omega) (by omega)).mpr q)
      refine w_aload_n (pc' := 261) rfl rfl rfl rfl ?_
      refine w_sipush (pc' := 264) 159 rfl rfl sp_159 ?_
      refine w_iload_n (pc' := 265) rfl rfl rfl ?_
      refine w_iadd (pc' := 266) rfl rfl ?_
      rw [show (159 : Int32) + nI (k) = nI (159 + k) from nI_add _ _]
      refine w_aload_n (pc' := 267) rfl rfl rfl rfl ?_
      refine w_getC (pc' := 270) rfl rfl rfl sh_153 rfl ?_
      refine w_iload_n (pc' := 271) rfl rfl rfl ?_
      refine w_iald (j := (k)) (pc' := 272) rfl rfl sh_176 rfl (by omega) (by decide) ?_
      rw [am_kp_rd (c0 := 176) hc (by decide)]
      refine w_iast (j := (159 + k)) (pc' := 273) rfl rfl hs rfl (by omega) (by decide) ?_
      rw [am_kp_u (q_kp_176 (k := k) (by omega)) rfl]
      refine w_aload_n (pc' := 274) rfl rfl rfl rfl ?_
      refine w_sipush (pc' := 277) 167 rfl rfl sp_167 ?_
      refine w_iload_n (pc' := 278) rfl rfl rfl ?_
      refine w_iadd (pc' := 279) rfl rfl ?_
      rw [show (167 : Int32) + nI (k) = nI (167 + k) from nI_add _ _]
      refine w_aload_n (pc' := 280) rfl rfl rfl rfl ?_
      refine w_getC (pc' := 283) rfl rfl rfl sh_153 rfl ?_
      refine w_iload_n (pc' := 284) rfl rfl rfl ?_
      refine w_iald (j := (k)) (pc' := 285) rfl rfl sh_177 rfl (by omega) (by decide) ?_
      rw [am_kp_rd (c0 := 177) hc (by decide)]
      refine w_iast (j := (167 + k)) (pc' := 286) rfl rfl hs rfl (by omega) (by decide) ?_
      rw [am_kp_u (q_kp_177 (k := k) (by omega)) rfl]
      refine w_iinc2 (pc' := 289) 1 rfl rfl ic_1 rfl ?_
      rw [nI_inc]
      refine w_goto (pc' := 254) rfl (by decide) ?_
      refine am_P_eq (am_kp_D (D' := (fun x => decide (x < 159 ∨ (x < 175 ∧ 159 ≤ x ∧ (x - 159) % 8 < (k + 1))))) (fun x => by rw [Bool.eq_iff_iff]; simp only [Bool.or_eq_true, decide_eq_true_eq]; omega)) ?_
      exact ih (k + 1) (by omega)
set_option maxRecDepth 100000 in
set_option maxHeartbeats 4000000 in
theorem v_m_keep (xs : List Int32) {m : am_Mm} {c : Nat} (hc : 179 ≤ c) (hs : am_sh[c]? = some (.inl (.int, 182))) : am_V xs 1 156 [.ref 153, .ref c] m (am_qn (· = am_kp m c (fun x => decide (x < 182)))) := by
  refine am_V_of ky_156 (Nat.le_of_ble_eq_true rfl) ?_
  show am_P xs 0 m_keep 0 [some (.ref 153), some (.ref c), none] [] m _
  refine w_iconst (pc' := 1) 0 rfl rfl ic_0 ?_
  refine w_ist2 (pc' := 2) rfl rfl rfl ?_
  refine am_P_eq (am_kp_0 (c := c) (D := (fun x => decide (x < 0 ∨ (x < 36 ∧ 0 ≤ x ∧ (x - 0) % 6 < 0)))) (fun x => decide_eq_false (by omega))) ?_
  refine lp_keep0 xs hc hs ?_ 6 0 (by omega)
  refine w_iconst (pc' := 84) 0 rfl rfl ic_0 ?_
  refine w_ist2 (pc' := 85) rfl rfl rfl ?_
  refine am_P_eq (am_kp_D (D' := (fun x => decide (x < 36 ∨ (x < 84 ∧ 36 ≤ x ∧ (x - 36) % 48 < 0)))) (fun x => by rw [Bool.eq_iff_iff]; simp only [Bool.or_eq_true, decide_eq_true_eq]; omega)) ?_
  refine lp_keep1 xs hc hs ?_ 48 0 (by omega)
  refine w_iconst (pc' := 110) 0 rfl rfl ic_0 ?_
  refine w_ist2 (pc' := 111) rfl rfl rfl ?_
  refine am_P_eq (am_kp_D (D' := (fun x => decide (x < 84 ∨ (x < 108 ∧ 84 ≤ x ∧ (x - 84) % 24 < 0)))) (fun x => by rw [Bool.eq_iff_iff]; simp only [Bool.or_eq_true, decide_eq_true_eq]; omega)) ?_
  refine lp_keep2 xs hc hs ?_ 24 0 (by omega)
  refine w_iconst (pc' := 136) 0 rfl rfl ic_0 ?_
  refine w_ist2 (pc' := 137) rfl rfl rfl ?_
  refine am_P_eq (am_kp_D (D' := (fun x => decide (x < 108 ∨ (x < 124 ∧ 108 ≤ x ∧ (x - 108) % 16 < 0)))) (fun x => by rw [Bool.eq_iff_iff]; simp only [Bool.or_eq_true, decide_eq_true_eq]; omega)) ?_
  refine lp_keep3 xs hc hs ?_ 16 0 (by omega)
  refine w_iconst (pc' := 162) 0 rfl rfl ic_0 ?_
  refine w_ist2 (pc' := 163) rfl rfl rfl ?_
  refine am_P_eq (am_kp_D (D' := (fun x => decide (x < 124 ∨ (x < 139 ∧ 124 ≤ x ∧ (x - 124) % 5 < 0)))) (fun x => by rw [Bool.eq_iff_iff]; simp only [Bool.or_eq_true, decide_eq_true_eq]; omega)) ?_
  refine lp_keep4 xs hc hs ?_ 5 0 (by omega)
  refine w_iconst (pc' := 213) 0 rfl rfl ic_0 ?_
  refine w_ist2 (pc' := 214) rfl rfl rfl ?_
  refine am_P_eq (am_kp_D (D' := (fun x => decide (x < 139 ∨ (x < 159 ∧ 139 ≤ x ∧ (x - 139) % 10 < 0)))) (fun x => by rw [Bool.eq_iff_iff]; simp only [Bool.or_eq_true, decide_eq_true_eq]; omega)) ?_
  refine lp_keep5 xs hc hs ?_ 10 0 (by omega)
  refine w_iconst (pc' := 253) 0 rfl rfl ic_0 ?_
  refine w_ist2 (pc' := 254) rfl rfl rfl ?_
  refine am_P_eq (am_kp_D (D' := (fun x => decide (x < 159 ∨ (x < 175 ∧ 159 ≤ x ∧ (x - 159) % 8 < 0)))) (fun x => by rw [Bool.eq_iff_iff]; simp only [Bool.or_eq_true, decide_eq_true_eq]; omega)) ?_
  refine lp_keep6 xs hc hs ?_ 8 0 (by omega)
  refine w_aload_n (pc' := 293) rfl rfl rfl rfl ?_
  refine w_sipush (pc' := 296) 175 rfl rfl sp_175 ?_
  refine w_aload_n (pc' := 297) rfl rfl rfl rfl ?_
  refine w_getI (pc' := 300) rfl rfl rfl sh_153 rfl ?_
  rw [am_kp_rd (c0 := 153) hc (by decide)]
  refine w_iast (j := (175)) (pc' := 301) rfl rfl hs rfl (by omega) (by decide) ?_
  rw [am_kp_u (show q_kp 175 = (153, 0) from rfl) rfl]
  refine w_aload_n (pc' := 302) rfl rfl rfl rfl ?_
  refine w_sipush (pc' := 305) 176 rfl rfl sp_176 ?_
  refine w_aload_n (pc' := 306) rfl rfl rfl rfl ?_
  refine w_getI (pc' := 309) rfl rfl rfl sh_153 rfl ?_
  rw [am_kp_rd (c0 := 153) hc (by decide)]
  refine w_iast (j := (176)) (pc' := 310) rfl rfl hs rfl (by omega) (by decide) ?_
  rw [am_kp_u (show q_kp 176 = (153, 10) from rfl) rfl]
  refine w_aload_n (pc' := 311) rfl rfl rfl rfl ?_
  refine w_sipush (pc' := 314) 177 rfl rfl sp_177 ?_
  refine w_aload_n (pc' := 315) rfl rfl rfl rfl ?_
  refine w_getI (pc' := 318) rfl rfl rfl sh_153 rfl ?_
  rw [am_kp_rd (c0 := 153) hc (by decide)]
  refine w_iast (j := (177)) (pc' := 319) rfl rfl hs rfl (by omega) (by decide) ?_
  rw [am_kp_u (show q_kp 177 = (153, 11) from rfl) rfl]
  refine w_aload_n (pc' := 320) rfl rfl rfl rfl ?_
  refine w_sipush (pc' := 323) 178 rfl rfl sp_178 ?_
  refine w_aload_n (pc' := 324) rfl rfl rfl rfl ?_
  refine w_getI (pc' := 327) rfl rfl rfl sh_153 rfl ?_
  rw [am_kp_rd (c0 := 153) hc (by decide)]
  refine w_iast (j := (178)) (pc' := 328) rfl rfl hs rfl (by omega) (by decide) ?_
  rw [am_kp_u (show q_kp 178 = (153, 28) from rfl) rfl]
  refine w_aload_n (pc' := 329) rfl rfl rfl rfl ?_
  refine w_sipush (pc' := 332) 179 rfl rfl sp_179 ?_
  refine w_aload_n (pc' := 333) rfl rfl rfl rfl ?_
  refine w_getI (pc' := 336) rfl rfl rfl sh_153 rfl ?_
  rw [am_kp_rd (c0 := 153) hc (by decide)]
  refine w_iast (j := (179)) (pc' := 337) rfl rfl hs rfl (by omega) (by decide) ?_
  rw [am_kp_u (show q_kp 179 = (153, 32) from rfl) rfl]
  refine w_aload_n (pc' := 338) rfl rfl rfl rfl ?_
  refine w_sipush (pc' := 341) 180 rfl rfl sp_180 ?_
  refine w_aload_n (pc' := 342) rfl rfl rfl rfl ?_
  refine w_getI (pc' := 345) rfl rfl rfl sh_153 rfl ?_
  rw [am_kp_rd (c0 := 153) hc (by decide)]
  refine w_iast (j := (180)) (pc' := 346) rfl rfl hs rfl (by omega) (by decide) ?_
  rw [am_kp_u (show q_kp 180 = (153, 35) from rfl) rfl]
  refine w_aload_n (pc' := 347) rfl rfl rfl rfl ?_
  refine w_sipush (pc' := 350) 181 rfl rfl sp_181 ?_
  refine w_aload_n (pc' := 351) rfl rfl rfl rfl ?_
  refine w_getI (pc' := 354) rfl rfl rfl sh_153 rfl ?_
  rw [am_kp_rd (c0 := 153) hc (by decide)]
  refine w_iast (j := (181)) (pc' := 355) rfl rfl hs rfl (by omega) (by decide) ?_
  rw [am_kp_u (show q_kp 181 = (153, 19) from rfl) rfl]
  refine w_vret rfl rfl ?_
  refine ⟨rfl, ?_⟩
  exact am_kp_D (fun x => by rw [Bool.eq_iff_iff]; simp only [Bool.or_eq_true, decide_eq_true_eq]; omega)
