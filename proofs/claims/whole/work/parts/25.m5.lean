def q_Tz (T : q_T) (t k : Nat) : q_T := (T.1, (T.2.1, fun t' i' => if t' = t ∧ i' < k then 0 else T.2.2 t' i'))
theorem q_Tz_0 (T : q_T) (t : Nat) : q_Tz T t 0 = T := by
  unfold q_Tz
  congr 2
  funext t' i'
  exact if_neg (fun q => by omega)
theorem q_Tz_s (T : q_T) (t k : Nat) : q_Ti (q_Tz T t k) t k 0 = q_Tz T t (k + 1) := by
  unfold q_Ti q_Tz
  congr 2
  funext t' i'
  show (if t' = t ∧ i' = k then (0 : Int64) else if t' = t ∧ i' < k then 0 else T.2.2 t' i') = if t' = t ∧ i' < k + 1 then 0 else T.2.2 t' i'
  by_cases h1 : t' = t ∧ i' = k
  · rw [if_pos h1, if_pos ⟨h1.1, by omega⟩]
  · rw [if_neg h1]
    by_cases h2 : t' = t ∧ i' < k
    · rw [if_pos h2, if_pos ⟨h2.1, by omega⟩]
    · rw [if_neg h2, if_neg (fun q => by omega)]
theorem q_is_p {p : Int32} : (-1 ≤ p ∧ p ≤ 4) ↔ q_is (p + 1) 6 = true := by
  constructor
  · rintro ⟨h1, h2⟩
    have e1 : -1 ≤ p.toInt := Int32.le_iff_toInt_le.mp h1
    have e2 : p.toInt ≤ 4 := Int32.le_iff_toInt_le.mp h2
    rcases (show p.toInt = -1 ∨ p.toInt = 0 ∨ p.toInt = 1 ∨ p.toInt = 2 ∨ p.toInt = 3 ∨ p.toInt = 4 by omega) with e | e | e | e | e | e
    · rw [ts_eq (c := -1) e (by decide)]; decide
    · rw [ts_eq (c := 0) e (by decide)]; decide
    · rw [ts_eq (c := 1) e (by decide)]; decide
    · rw [ts_eq (c := 2) e (by decide)]; decide
    · rw [ts_eq (c := 3) e (by decide)]; decide
    · rw [ts_eq (c := 4) e (by decide)]; decide
  · intro h
    obtain ⟨j, hj, e⟩ := q_is_of h (by omega)
    have e' : p = nI j - 1 := by rw [← e, Int32.add_sub_cancel]
    subst e'
    rcases (show j = 0 ∨ j = 1 ∨ j = 2 ∨ j = 3 ∨ j = 4 ∨ j = 5 by omega) with rfl | rfl | rfl | rfl | rfl | rfl <;> decide
theorem v_m_winm (xs : List Int32) (m : am_Mm) (p : Int32) : am_V xs 1 141 [.int p, .int (-1), .int 4] m (am_qi (bB (q_is (p + 1) 6)) (· = m)) := by
  have := v_m_within xs m p (-1) 4
  rwa [bI_B q_is_p] at this
theorem nI_m1a (j : Nat) : nI j - 1 + 1 = nI j := Int32.sub_add_cancel _ _
set_option maxRecDepth 100000 in
set_option maxHeartbeats 4000000 in
theorem lp_tape (xs : List Int32) {T : q_T} {m0 : am_Mm} {j : Nat} (hj : j < 6) (s n : Int32) : ∀ (r k : Nat), k + r = 60 → ∀ (m : am_Mm), q_Rm (q_Tz T j k) m → q_FC m0 m → am_P xs 2 m_tape 67 [some (.ref 153), some (.int (nI j)), some (.int s), some (.int n), some (.int (nI k))] [] m (am_qi 1 (q_G (q_Tz T j 60) m0)) := by
  intro r
  induction r with
  | zero =>
    intro k hk m h hF
    refine w_iload (pc' := 69) rfl rfl rfl ?_
    refine w_bipush (pc' := 71) 60 rfl rfl bp_60 ?_
    refine w_ic_ge (t := 93) (pc' := 74) rfl (by decide) rfl (fun h71 => ?_) (fun h71 => ?_)
    · have g1 : 60 ≤ k := (nI_leI (a := 60) (b := k) (by omega) (by omega)).mp h71
      refine w_iconst (pc' := 94) 1 rfl rfl ic_1 ?_
      refine w_iret rfl rfl rfl ?_
      obtain rfl : k = 60 := by omega
      exact ⟨rfl, h, hF⟩
    · have g2 : ¬ 60 ≤ k := fun q => h71 ((nI_leI (a := 60) (b := k) (by omega) (by omega)).mpr q)
      omega
  | succ r ih =>
    intro k hk m h hF
    refine w_iload (pc' := 69) rfl rfl rfl ?_
    refine w_bipush (pc' := 71) 60 rfl rfl bp_60 ?_
    refine w_ic_ge (t := 93) (pc' := 74) rfl (by decide) rfl (fun h71 => ?_) (fun h71 => ?_)
    · have g1 : 60 ≤ k := (nI_leI (a := 60) (b := k) (by omega) (by omega)).mp h71
      omega
    · have g2 : ¬ 60 ≤ k := fun q => h71 ((nI_leI (a := 60) (b := k) (by omega) (by omega)).mpr q)
      refine w_aload_n (pc' := 75) rfl rfl rfl rfl ?_
      refine w_getC (pc' := 78) rfl rfl rfl sh_153 rfl ?_
      refine w_bipush (pc' := 80) 60 rfl rfl bp_60 ?_
      refine w_iload_n (pc' := 81) rfl rfl rfl ?_
      refine w_imul (pc' := 82) rfl rfl ?_
      rw [show (60 : Int32) * nI (j) = nI (60 * j) from nI_mul _ _]
      refine w_iload (pc' := 84) rfl rfl rfl ?_
      refine w_iadd (pc' := 85) rfl rfl ?_
      rw [show nI (60 * j) + nI (k) = nI ((60 * j) + k) from nI_add _ _]
      refine w_lconst (pc' := 86) 0 rfl rfl rfl ?_
      refine w_last (j := ((60 * j) + k)) (pc' := 87) rfl rfl sh_184 rfl (by omega) (by decide) ?_
      refine w_gen (h.uJ (t := j) (i := k) (by omega) (by omega) 0) (hF.uJ (by decide)) (fun m1 h_1 hF_1 => ?_)
      refine w_iinc4 (pc' := 90) 1 rfl rfl ic_1 rfl ?_
      rw [nI_inc]
      refine w_goto (pc' := 67) rfl (by decide) ?_
      exact ih (k + 1) (by omega) m1 (by rw [← q_Tz_s]; exact h_1) hF_1
def f_tape (T : q_T) (t s n : Int32) : Int32 × q_T := if q_is t 6 = true then (if q_is (s + 1) 6 = true ∧ ¬ (0 < (s + 1).toNatClampNeg ∧ 60 < n) then (if 0 < (s + 1).toNatClampNeg ∧ n < 0 then (-14, T) else (1, q_Tz (q_Tu (q_Tu T 182 t.toNatClampNeg (s + 1).toNatClampNeg) 183 t.toNatClampNeg (if 0 < (s + 1).toNatClampNeg then n.toNatClampNeg else 0)) t.toNatClampNeg 60)) else (-2, T)) else (-1, T)
set_option maxRecDepth 100000 in
set_option maxHeartbeats 4000000 in
theorem v_m_tape (xs : List Int32) {T : q_T} {m : am_Mm} (h : q_Rm T m) (hB : q_Bd T) (t : Int32) (s : Int32) (n : Int32) : am_V xs 3 220 [.ref 153, .int t, .int s, .int n] m (am_qi (f_tape T t s n).1 (q_G (f_tape T t s n).2 m)) := by
  have hF : q_FC m m := q_FC.rf
  have hn : T.1 153 0 < 7 := hB 153 0
  refine am_V_of ky_220 (Nat.le_of_ble_eq_true rfl) ?_
  show am_P xs 2 m_tape 0 [some (.ref 153), some (.int t), some (.int s), some (.int n), none] [] m _
  refine w_iload_n (pc' := 1) rfl rfl rfl ?_
  refine w_cS1i (pc' := 4) (v_m_isTape xs _ _) (by decide) rfl rfl rfl (Or.inl rfl) (Nat.le_of_ble_eq_true rfl) (fun m' hm' => ?_)
  rw [show m' = m from hm']
  clear hm' m'
  refine w_if_ne (t := 9) (pc' := 7) rfl (by decide) rfl (fun h4 => ?_) (fun h4 => ?_)
  · obtain ⟨j1, hj1, rfl⟩ := q_is_of (bB_n0.mp h4) (by omega)
    refine w_iload_n (pc' := 10) rfl rfl rfl ?_
    refine w_iconst (pc' := 11) (-1) rfl rfl ic_m1 ?_
    refine w_iconst (pc' := 12) 4 rfl rfl ic_4 ?_
    refine w_cS3i (pc' := 15) (v_m_winm xs _ _) (by decide) rfl rfl rfl (Or.inl rfl) (Nat.le_of_ble_eq_true rfl) (fun m' hm' => ?_)
    rw [show m' = m from hm']
    clear hm' m'
    refine w_if_eq (t := 28) (pc' := 18) rfl (by decide) rfl (fun h15 => ?_) (fun h15 => ?_)
    · have hN2 := bB_0.mp h15
      refine w_bipush (pc' := 30) (-2) rfl rfl bp_m2 ?_
      refine w_iret rfl rfl rfl ?_
      have hf : f_tape T (nI j1) s n = (-2, T) := by simp [f_tape, q_is_nI (n := 6) hj1 (by omega), nI_clamp (show j1 < 2 ^ 31 by omega), hN2]
      rw [hf]
      exact ⟨rfl, h, hF⟩
    · obtain ⟨j3, hj3, ej3⟩ := q_is_of (bB_n0.mp h15) (by omega)
      obtain rfl : s = nI j3 - 1 := by rw [← ej3, Int32.add_sub_cancel]
      refine w_iload_n (pc' := 19) rfl rfl rfl ?_
      refine w_if_lt (t := 31) (pc' := 22) rfl (by decide) rfl (fun h19 => ?_) (fun h19 => ?_)
      · have g4 : ¬ 0 < j3 := fun q => Int32.not_lt.mpr ((nI_p1 (x := j3) (by omega)).mpr q) h19
        refine w_iload_n (pc' := 32) rfl rfl rfl ?_
        refine w_if_lt (t := 42) (pc' := 35) rfl (by decide) rfl (fun h32 => ?_) (fun h32 => ?_)
        · have g5 : ¬ 0 < j3 := fun q => Int32.not_lt.mpr ((nI_p1 (x := j3) (by omega)).mpr q) h32
          refine w_aload_n (pc' := 43) rfl rfl rfl rfl ?_
          refine w_getC (pc' := 46) rfl rfl rfl sh_153 rfl ?_
          refine w_iload_n (pc' := 47) rfl rfl rfl ?_
          refine w_iload_n (pc' := 48) rfl rfl rfl ?_
          refine w_iast (j := (j1)) (pc' := 49) rfl rfl sh_182 rfl (by omega) (by decide) ?_
          refine w_gen (h.u (c := 182) (k := j1) (x := j3) rfl (y := _) (show _ = q_enc _ _ _ from rfl)) (hF.u (by decide)) (fun m1 h_1 hF_1 => ?_)
          refine w_aload_n (pc' := 50) rfl rfl rfl rfl ?_
          refine w_getC (pc' := 53) rfl rfl rfl sh_153 rfl ?_
          refine w_iload_n (pc' := 54) rfl rfl rfl ?_
          refine w_iload_n (pc' := 55) rfl rfl rfl ?_
          refine w_if_ge (t := 62) (pc' := 58) rfl (by decide) rfl (fun h55 => ?_) (fun h55 => ?_)
          · have g6 : 0 < j3 := (nI_p1 (x := j3) (by omega)).mp h55
            omega
          · have g7 : ¬ 0 < j3 := fun q => h55 ((nI_p1 (x := j3) (by omega)).mpr q)
            refine w_iconst (pc' := 59) 0 rfl rfl ic_0 ?_
            refine w_goto (pc' := 63) rfl (by decide) ?_
            refine w_iast (j := (j1)) (pc' := 64) rfl rfl sh_183 rfl (by omega) (by decide) ?_
            refine w_gen (h_1.u (c := 183) (k := j1) (x := 0) rfl (y := _) (show _ = q_enc _ _ _ from rfl)) (hF_1.u (by decide)) (fun m2 h_2 hF_2 => ?_)
            refine w_iconst (pc' := 65) 0 rfl rfl ic_0 ?_
            refine w_ist4 (pc' := 67) rfl rfl rfl ?_
            rw [show f_tape T (nI j1) (nI j3 - 1) n = (1, q_Tz (q_Tu (q_Tu T 182 (j1) (j3)) 183 (j1) (0)) j1 60) by simp [f_tape, q_is_nI (n := 6) hj1 (by omega), nI_clamp (show j1 < 2 ^ 31 by omega), nI_m1a, q_is_nI (n := 6) hj3 (by omega), nI_clamp (show j3 < 2 ^ 31 by omega), g4, g5, g7]]
            exact lp_tape xs hj1 _ _ 60 0 (by omega) _ (by rw [q_Tz_0]; exact h_2) hF_2
        · have g8 : 0 < j3 := (nI_p1 (x := j3) (by omega)).mp (Int32.not_lt.mp h32)
          omega
      · have g9 : 0 < j3 := (nI_p1 (x := j3) (by omega)).mp (Int32.not_lt.mp h19)
        refine w_iload_n (pc' := 23) rfl rfl rfl ?_
        refine w_bipush (pc' := 25) 60 rfl rfl bp_60 ?_
        refine w_ic_le (t := 31) (pc' := 28) rfl (by decide) rfl (fun h25 => ?_) (fun h25 => ?_)
        · have gA : ¬ 60 < n := Int32.not_lt.mpr h25
          refine w_iload_n (pc' := 32) rfl rfl rfl ?_
          refine w_if_lt (t := 42) (pc' := 35) rfl (by decide) rfl (fun h32 => ?_) (fun h32 => ?_)
          · have g10 : ¬ 0 < j3 := fun q => Int32.not_lt.mpr ((nI_p1 (x := j3) (by omega)).mpr q) h32
            omega
          · have g11 : 0 < j3 := (nI_p1 (x := j3) (by omega)).mp (Int32.not_lt.mp h32)
            refine w_iload_n (pc' := 36) rfl rfl rfl ?_
            refine w_if_ge (t := 42) (pc' := 39) rfl (by decide) rfl (fun h36 => ?_) (fun h36 => ?_)
            · have gB : ¬ n < 0 := Int32.not_lt.mpr h36
              obtain ⟨n', hn', rfl⟩ := nI_of gB
              have hn61 : n' < 61 := by
                by_cases q : 60 < n'
                · exact absurd ((nI_ltI (a := 60) (b := n') (by omega) (by omega)).mpr q) gA
                · omega
              refine w_aload_n (pc' := 43) rfl rfl rfl rfl ?_
              refine w_getC (pc' := 46) rfl rfl rfl sh_153 rfl ?_
              refine w_iload_n (pc' := 47) rfl rfl rfl ?_
              refine w_iload_n (pc' := 48) rfl rfl rfl ?_
              refine w_iast (j := (j1)) (pc' := 49) rfl rfl sh_182 rfl (by omega) (by decide) ?_
              refine w_gen (h.u (c := 182) (k := j1) (x := j3) rfl (y := _) (show _ = q_enc _ _ _ from rfl)) (hF.u (by decide)) (fun m3 h_3 hF_3 => ?_)
              refine w_aload_n (pc' := 50) rfl rfl rfl rfl ?_
              refine w_getC (pc' := 53) rfl rfl rfl sh_153 rfl ?_
              refine w_iload_n (pc' := 54) rfl rfl rfl ?_
              refine w_iload_n (pc' := 55) rfl rfl rfl ?_
              refine w_if_ge (t := 62) (pc' := 58) rfl (by decide) rfl (fun h55 => ?_) (fun h55 => ?_)
              · have g12 : 0 < j3 := (nI_p1 (x := j3) (by omega)).mp h55
                refine w_iload_n (pc' := 63) rfl rfl rfl ?_
                refine w_iast (j := (j1)) (pc' := 64) rfl rfl sh_183 rfl (by omega) (by decide) ?_
                refine w_gen (h_3.u (c := 183) (k := j1) (x := n') rfl (y := _) (show _ = q_enc _ _ _ from rfl)) (hF_3.u (by decide)) (fun m4 h_4 hF_4 => ?_)
                refine w_iconst (pc' := 65) 0 rfl rfl ic_0 ?_
                refine w_ist4 (pc' := 67) rfl rfl rfl ?_
                rw [show f_tape T (nI j1) (nI j3 - 1) (nI n') = (1, q_Tz (q_Tu (q_Tu T 182 (j1) (j3)) 183 (j1) (n')) j1 60) by simp [f_tape, q_is_nI (n := 6) hj1 (by omega), nI_clamp (show j1 < 2 ^ 31 by omega), nI_m1a, q_is_nI (n := 6) hj3 (by omega), nI_clamp (show j3 < 2 ^ 31 by omega), g9, gA, g11, nI_clamp (show n' < 2 ^ 31 by omega), gB, g12]]
                exact lp_tape xs hj1 _ _ 60 0 (by omega) _ (by rw [q_Tz_0]; exact h_4) hF_4
              · have g13 : ¬ 0 < j3 := fun q => h55 ((nI_p1 (x := j3) (by omega)).mpr q)
                omega
            · have gB : n < 0 := Int32.not_le.mp h36
              refine w_bipush (pc' := 41) (-14) rfl rfl bp_m14 ?_
              refine w_iret rfl rfl rfl ?_
              have hf : f_tape T (nI j1) (nI j3 - 1) n = (-14, T) := by simp [f_tape, q_is_nI (n := 6) hj1 (by omega), nI_clamp (show j1 < 2 ^ 31 by omega), nI_m1a, q_is_nI (n := 6) hj3 (by omega), nI_clamp (show j3 < 2 ^ 31 by omega), g9, gA, g11, gB]
              rw [hf]
              exact ⟨rfl, h, hF⟩
        · have gA : 60 < n := Int32.not_le.mp h25
          refine w_bipush (pc' := 30) (-2) rfl rfl bp_m2 ?_
          refine w_iret rfl rfl rfl ?_
          have hf : f_tape T (nI j1) (nI j3 - 1) n = (-2, T) := by simp [f_tape, q_is_nI (n := 6) hj1 (by omega), nI_clamp (show j1 < 2 ^ 31 by omega), nI_m1a, q_is_nI (n := 6) hj3 (by omega), nI_clamp (show j3 < 2 ^ 31 by omega), g9, gA]
          rw [hf]
          exact ⟨rfl, h, hF⟩
  · have hN14 := bB_0.mp h4
    refine w_iconst (pc' := 8) (-1) rfl rfl ic_m1 ?_
    refine w_iret rfl rfl rfl ?_
    have hf : f_tape T t s n = (-1, T) := by simp [f_tape, hN14]
    rw [hf]
    exact ⟨rfl, h, hF⟩
def f_drawer (T : q_T) (k v c : Int32) : Int32 × q_T := if q_is k 7 = true ∧ q_is c 16 = true then (if q_is v 10 = true then (if T.1 153 0 = 6 then (-4, T) else (nI (T.1 153 0), q_Tu (q_Tu (q_Tu (q_Tu (q_Tu (q_Tu (q_Tu (q_Tu (q_Tu (q_Tu (q_Tu T 154 (T.1 153 0) k.toNatClampNeg) 155 (T.1 153 0) v.toNatClampNeg) 156 (T.1 153 0) c.toNatClampNeg) 157 (T.1 153 0) 0) 158 (T.1 153 0) 0) 159 (T.1 153 0) 0) 161 (4 * T.1 153 0 + 0) 0) 161 (4 * T.1 153 0 + 1) 0) 161 (4 * T.1 153 0 + 2) 0) 161 (4 * T.1 153 0 + 3) 0) 153 0 (T.1 153 0 + 1))) else (-2, T)) else (-1, T)
set_option maxRecDepth 100000 in
set_option maxHeartbeats 4000000 in
theorem v_m_drawer (xs : List Int32) {T : q_T} {m : am_Mm} (h : q_Rm T m) (hB : q_Bd T) (k : Int32) (v : Int32) (c : Int32) : am_V xs 3 140 [.ref 153, .int k, .int v, .int c] m (am_qi (f_drawer T k v c).1 (q_G (f_drawer T k v c).2 m)) := by
  have hF : q_FC m m := q_FC.rf
  have hn : T.1 153 0 < 7 := hB 153 0
  refine am_V_of ky_140 (Nat.le_of_ble_eq_true rfl) ?_
  show am_P xs 2 m_drawer 0 [some (.ref 153), some (.int k), some (.int v), some (.int c), none] [] m _
  refine w_iload_n (pc' := 1) rfl rfl rfl ?_
  refine w_iconst (pc' := 2) 0 rfl rfl ic_0 ?_
  refine w_bipush (pc' := 4) 6 rfl rfl bp_6 ?_
  refine w_cS3i (pc' := 7) (v_m_win xs _ _ _ (7) (by omega) (by first | decide | rfl)) (by decide) rfl rfl rfl (Or.inl rfl) (Nat.le_of_ble_eq_true rfl) (fun m' hm' => ?_)
  rw [show m' = m from hm']
  clear hm' m'
  refine w_if_ne (t := 12) (pc' := 10) rfl (by decide) rfl (fun h7 => ?_) (fun h7 => ?_)
  · obtain ⟨j1, hj1, rfl⟩ := q_is_of (bB_n0.mp h7) (by omega)
    refine w_iload_n (pc' := 13) rfl rfl rfl ?_
    refine w_cS1i (pc' := 16) (v_m_cell xs _ _) (by decide) rfl rfl rfl (Or.inl rfl) (Nat.le_of_ble_eq_true rfl) (fun m' hm' => ?_)
    rw [show m' = m from hm']
    clear hm' m'
    refine w_if_ne (t := 21) (pc' := 19) rfl (by decide) rfl (fun h16 => ?_) (fun h16 => ?_)
    · obtain ⟨j2, hj2, rfl⟩ := q_is_of (bB_n0.mp h16) (by omega)
      refine w_iload_n (pc' := 22) rfl rfl rfl ?_
      refine w_iconst (pc' := 23) 0 rfl rfl ic_0 ?_
      refine w_bipush (pc' := 25) 9 rfl rfl bp_9 ?_
      refine w_cS3i (pc' := 28) (v_m_win xs _ _ _ (10) (by omega) (by first | decide | rfl)) (by decide) rfl rfl rfl (Or.inl rfl) (Nat.le_of_ble_eq_true rfl) (fun m' hm' => ?_)
      rw [show m' = m from hm']
      clear hm' m'
      refine w_if_ne (t := 34) (pc' := 31) rfl (by decide) rfl (fun h28 => ?_) (fun h28 => ?_)
      · obtain ⟨j3, hj3, rfl⟩ := q_is_of (bB_n0.mp h28) (by omega)
        refine w_aload_n (pc' := 35) rfl rfl rfl rfl ?_
        refine w_getI (pc' := 38) rfl rfl rfl sh_153 rfl ?_
        rw [show m.1 153 0 = nI (T.1 153 (0)) from (rf_0 h :)]
        have b4 : (T.1 153 (0)) < 7 := hB 153 (0)
        refine w_bipush (pc' := 40) 6 rfl rfl bp_6 ?_
        refine w_ic_ne (t := 46) (pc' := 43) rfl (by decide) rfl (fun h40 => ?_) (fun h40 => ?_)
        · have g5 : ¬ (T.1 153 (0)) = 6 := fun q => h40 ((nI_eq (a := (T.1 153 (0))) (b := 6) (by omega) (by omega)).mpr q)
          refine w_aload_n (pc' := 47) rfl rfl rfl rfl ?_
          refine w_getC (pc' := 50) rfl rfl rfl sh_153 rfl ?_
          refine w_aload_n (pc' := 51) rfl rfl rfl rfl ?_
          refine w_getI (pc' := 54) rfl rfl rfl sh_153 rfl ?_
          rw [show m.1 153 0 = nI (T.1 153 (0)) from (rf_0 h :)]
          have b6 : (T.1 153 (0)) < 7 := hB 153 (0)
          refine w_iload_n (pc' := 55) rfl rfl rfl ?_
          refine w_iast (j := ((T.1 153 (0)))) (pc' := 56) rfl rfl sh_154 rfl (by omega) (by decide) ?_
          refine w_gen (h.u (c := 154) (k := (T.1 153 (0))) (x := j1) rfl (y := _) (show _ = q_enc _ _ _ from rfl)) (hF.u (by decide)) (fun m1 h_1 hF_1 => ?_)
          refine w_aload_n (pc' := 57) rfl rfl rfl rfl ?_
          refine w_getC (pc' := 60) rfl rfl rfl sh_153 rfl ?_
          refine w_aload_n (pc' := 61) rfl rfl rfl rfl ?_
          refine w_getI (pc' := 64) rfl rfl rfl sh_153 rfl ?_
          rw [show m1.1 153 0 = nI (T.1 153 (0)) from (rf_0 h_1 :)]
          have b7 : (T.1 153 (0)) < 7 := hB 153 (0)
          refine w_iload_n (pc' := 65) rfl rfl rfl ?_
          refine w_iast (j := ((T.1 153 (0)))) (pc' := 66) rfl rfl sh_155 rfl (by omega) (by decide) ?_
          refine w_gen (h_1.u (c := 155) (k := (T.1 153 (0))) (x := j3) rfl (y := _) (show _ = q_enc _ _ _ from rfl)) (hF_1.u (by decide)) (fun m2 h_2 hF_2 => ?_)
          refine w_aload_n (pc' := 67) rfl rfl rfl rfl ?_
          refine w_getC (pc' := 70) rfl rfl rfl sh_153 rfl ?_
          refine w_aload_n (pc' := 71) rfl rfl rfl rfl ?_
          refine w_getI (pc' := 74) rfl rfl rfl sh_153 rfl ?_
          rw [show m2.1 153 0 = nI (T.1 153 (0)) from (rf_0 h_2 :)]
          have b8 : (T.1 153 (0)) < 7 := hB 153 (0)
          refine w_iload_n (pc' := 75) rfl rfl rfl ?_
          refine w_iast (j := ((T.1 153 (0)))) (pc' := 76) rfl rfl sh_156 rfl (by omega) (by decide) ?_
          refine w_gen (h_2.u (c := 156) (k := (T.1 153 (0))) (x := j2) rfl (y := _) (show _ = q_enc _ _ _ from rfl)) (hF_2.u (by decide)) (fun m3 h_3 hF_3 => ?_)
          refine w_aload_n (pc' := 77) rfl rfl rfl rfl ?_
          refine w_getC (pc' := 80) rfl rfl rfl sh_153 rfl ?_
          refine w_aload_n (pc' := 81) rfl rfl rfl rfl ?_
          refine w_getI (pc' := 84) rfl rfl rfl sh_153 rfl ?_
          rw [show m3.1 153 0 = nI (T.1 153 (0)) from (rf_0 h_3 :)]
          have b9 : (T.1 153 (0)) < 7 := hB 153 (0)
          refine w_iconst (pc' := 85) 0 rfl rfl ic_0 ?_
          refine w_iast (j := ((T.1 153 (0)))) (pc' := 86) rfl rfl sh_157 rfl (by omega) (by decide) ?_
          refine w_gen (h_3.u (c := 157) (k := (T.1 153 (0))) (x := 0) rfl (y := _) (show _ = q_enc _ _ _ from rfl)) (hF_3.u (by decide)) (fun m4 h_4 hF_4 => ?_)
          refine w_aload_n (pc' := 87) rfl rfl rfl rfl ?_
          refine w_getC (pc' := 90) rfl rfl rfl sh_153 rfl ?_
          refine w_aload_n (pc' := 91) rfl rfl rfl rfl ?_
          refine w_getI (pc' := 94) rfl rfl rfl sh_153 rfl ?_
          rw [show m4.1 153 0 = nI (T.1 153 (0)) from (rf_0 h_4 :)]
          have b10 : (T.1 153 (0)) < 7 := hB 153 (0)
          refine w_iconst (pc' := 95) 0 rfl rfl ic_0 ?_
          refine w_iast (j := ((T.1 153 (0)))) (pc' := 96) rfl rfl sh_158 rfl (by omega) (by decide) ?_
          refine w_gen (h_4.u (c := 158) (k := (T.1 153 (0))) (x := 0) rfl (y := _) (show _ = q_enc _ _ _ from rfl)) (hF_4.u (by decide)) (fun m5 h_5 hF_5 => ?_)
          refine w_aload_n (pc' := 97) rfl rfl rfl rfl ?_
          refine w_getC (pc' := 100) rfl rfl rfl sh_153 rfl ?_
          refine w_aload_n (pc' := 101) rfl rfl rfl rfl ?_
          refine w_getI (pc' := 104) rfl rfl rfl sh_153 rfl ?_
          rw [show m5.1 153 0 = nI (T.1 153 (0)) from (rf_0 h_5 :)]
          have b11 : (T.1 153 (0)) < 7 := hB 153 (0)
          refine w_iconst (pc' := 105) 0 rfl rfl ic_0 ?_
          refine w_iast (j := ((T.1 153 (0)))) (pc' := 106) rfl rfl sh_159 rfl (by omega) (by decide) ?_
          refine w_gen (h_5.u (c := 159) (k := (T.1 153 (0))) (x := 0) rfl (y := _) (show _ = q_enc _ _ _ from rfl)) (hF_5.u (by decide)) (fun m6 h_6 hF_6 => ?_)
          refine w_iconst (pc' := 107) 0 rfl rfl ic_0 ?_
          refine w_ist4 (pc' := 109) rfl rfl rfl ?_
          refine w_iload (pc' := 111) rfl rfl rfl ?_
          refine w_iconst (pc' := 112) 4 rfl rfl ic_4 ?_
          refine w_ic_ge (t := 136) (pc' := 115) rfl (by decide) rfl (fun h112 => ?_) (fun h112 => ?_)
          · exact absurd h112 (by decide)
          · refine w_aload_n (pc' := 116) rfl rfl rfl rfl ?_
            refine w_getC (pc' := 119) rfl rfl rfl sh_153 rfl ?_
            refine w_iconst (pc' := 120) 4 rfl rfl ic_4 ?_
            refine w_aload_n (pc' := 121) rfl rfl rfl rfl ?_
            refine w_getI (pc' := 124) rfl rfl rfl sh_153 rfl ?_
            rw [show m6.1 153 0 = nI (T.1 153 (0)) from (rf_0 h_6 :)]
            have b12 : (T.1 153 (0)) < 7 := hB 153 (0)
            refine w_imul (pc' := 125) rfl rfl ?_
            rw [show (4 : Int32) * nI ((T.1 153 (0))) = nI (4 * (T.1 153 (0))) from nI_mul _ _]
            refine w_iload (pc' := 127) rfl rfl rfl ?_
            refine w_iadd (pc' := 128) rfl rfl ?_
            rw [show nI (4 * (T.1 153 (0))) + (0 : Int32) = nI ((4 * (T.1 153 (0))) + 0) from nI_add _ _]
            refine w_iconst (pc' := 129) 0 rfl rfl ic_0 ?_
            refine w_iast (j := ((4 * (T.1 153 (0))) + 0)) (pc' := 130) rfl rfl sh_161 rfl (by omega) (by decide) ?_
            refine w_gen (h_6.u (c := 161) (k := (4 * (T.1 153 (0))) + 0) (x := 0) rfl (y := _) (show _ = q_enc _ _ _ from rfl)) (hF_6.u (by decide)) (fun m7 h_7 hF_7 => ?_)
            refine w_iinc4 (pc' := 133) 1 rfl rfl ic_1 rfl ?_
            rw [show (0 : Int32) + Int32.ofInt 1 = 1 from by decide]
            refine w_goto (pc' := 109) rfl (by decide) ?_
            refine w_iload (pc' := 111) rfl rfl rfl ?_
            refine w_iconst (pc' := 112) 4 rfl rfl ic_4 ?_
            refine w_ic_ge (t := 136) (pc' := 115) rfl (by decide) rfl (fun h112 => ?_) (fun h112 => ?_)
            · exact absurd h112 (by decide)
            · refine w_aload_n (pc' := 116) rfl rfl rfl rfl ?_
              refine w_getC (pc' := 119) rfl rfl rfl sh_153 rfl ?_
              refine w_iconst (pc' := 120) 4 rfl rfl ic_4 ?_
              refine w_aload_n (pc' := 121) rfl rfl rfl rfl ?_
              refine w_getI (pc' := 124) rfl rfl rfl sh_153 rfl ?_
              rw [show m7.1 153 0 = nI (T.1 153 (0)) from (rf_0 h_7 :)]
              have b13 : (T.1 153 (0)) < 7 := hB 153 (0)
              refine w_imul (pc' := 125) rfl rfl ?_
              rw [show (4 : Int32) * nI ((T.1 153 (0))) = nI (4 * (T.1 153 (0))) from nI_mul _ _]
              refine w_iload (pc' := 127) rfl rfl rfl ?_
              refine w_iadd (pc' := 128) rfl rfl ?_
              rw [show nI (4 * (T.1 153 (0))) + (1 : Int32) = nI ((4 * (T.1 153 (0))) + 1) from nI_add _ _]
              refine w_iconst (pc' := 129) 0 rfl rfl ic_0 ?_
              refine w_iast (j := ((4 * (T.1 153 (0))) + 1)) (pc' := 130) rfl rfl sh_161 rfl (by omega) (by decide) ?_
              refine w_gen (h_7.u (c := 161) (k := (4 * (T.1 153 (0))) + 1) (x := 0) rfl (y := _) (show _ = q_enc _ _ _ from rfl)) (hF_7.u (by decide)) (fun m8 h_8 hF_8 => ?_)
              refine w_iinc4 (pc' := 133) 1 rfl rfl ic_1 rfl ?_
              rw [show (1 : Int32) + Int32.ofInt 1 = 2 from by decide]
              refine w_goto (pc' := 109) rfl (by decide) ?_
              refine w_iload (pc' := 111) rfl rfl rfl ?_
              refine w_iconst (pc' := 112) 4 rfl rfl ic_4 ?_
              refine w_ic_ge (t := 136) (pc' := 115) rfl (by decide) rfl (fun h112 => ?_) (fun h112 => ?_)
              · exact absurd h112 (by decide)
              · refine w_aload_n (pc' := 116) rfl rfl rfl rfl ?_
                refine w_getC (pc' := 119) rfl rfl rfl sh_153 rfl ?_
                refine w_iconst (pc' := 120) 4 rfl rfl ic_4 ?_
                refine w_aload_n (pc' := 121) rfl rfl rfl rfl ?_
                refine w_getI (pc' := 124) rfl rfl rfl sh_153 rfl ?_
                rw [show m8.1 153 0 = nI (T.1 153 (0)) from (rf_0 h_8 :)]
                have b14 : (T.1 153 (0)) < 7 := hB 153 (0)
                refine w_imul (pc' := 125) rfl rfl ?_
                rw [show (4 : Int32) * nI ((T.1 153 (0))) = nI (4 * (T.1 153 (0))) from nI_mul _ _]
                refine w_iload (pc' := 127) rfl rfl rfl ?_
                refine w_iadd (pc' := 128) rfl rfl ?_
                rw [show nI (4 * (T.1 153 (0))) + (2 : Int32) = nI ((4 * (T.1 153 (0))) + 2) from nI_add _ _]
                refine w_iconst (pc' := 129) 0 rfl rfl ic_0 ?_
                refine w_iast (j := ((4 * (T.1 153 (0))) + 2)) (pc' := 130) rfl rfl sh_161 rfl (by omega) (by decide) ?_
                refine w_gen (h_8.u (c := 161) (k := (4 * (T.1 153 (0))) + 2) (x := 0) rfl (y := _) (show _ = q_enc _ _ _ from rfl)) (hF_8.u (by decide)) (fun m9 h_9 hF_9 => ?_)
                refine w_iinc4 (pc' := 133) 1 rfl rfl ic_1 rfl ?_
                rw [show (2 : Int32) + Int32.ofInt 1 = 3 from by decide]
                refine w_goto (pc' := 109) rfl (by decide) ?_
                refine w_iload (pc' := 111) rfl rfl rfl ?_
                refine w_iconst (pc' := 112) 4 rfl rfl ic_4 ?_
                refine w_ic_ge (t := 136) (pc' := 115) rfl (by decide) rfl (fun h112 => ?_) (fun h112 => ?_)
                · exact absurd h112 (by decide)
                · refine w_aload_n (pc' := 116) rfl rfl rfl rfl ?_
                  refine w_getC (pc' := 119) rfl rfl rfl sh_153 rfl ?_
                  refine w_iconst (pc' := 120) 4 rfl rfl ic_4 ?_
                  refine w_aload_n (pc' := 121) rfl rfl rfl rfl ?_
                  refine w_getI (pc' := 124) rfl rfl rfl sh_153 rfl ?_
                  rw [show m9.1 153 0 = nI (T.1 153 (0)) from (rf_0 h_9 :)]
                  have b15 : (T.1 153 (0)) < 7 := hB 153 (0)
                  refine w_imul (pc' := 125) rfl rfl ?_
                  rw [show (4 : Int32) * nI ((T.1 153 (0))) = nI (4 * (T.1 153 (0))) from nI_mul _ _]
                  refine w_iload (pc' := 127) rfl rfl rfl ?_
                  refine w_iadd (pc' := 128) rfl rfl ?_
                  rw [show nI (4 * (T.1 153 (0))) + (3 : Int32) = nI ((4 * (T.1 153 (0))) + 3) from nI_add _ _]
                  refine w_iconst (pc' := 129) 0 rfl rfl ic_0 ?_
                  refine w_iast (j := ((4 * (T.1 153 (0))) + 3)) (pc' := 130) rfl rfl sh_161 rfl (by omega) (by decide) ?_
                  refine w_gen (h_9.u (c := 161) (k := (4 * (T.1 153 (0))) + 3) (x := 0) rfl (y := _) (show _ = q_enc _ _ _ from rfl)) (hF_9.u (by decide)) (fun m10 h_10 hF_10 => ?_)
                  refine w_iinc4 (pc' := 133) 1 rfl rfl ic_1 rfl ?_
                  rw [show (3 : Int32) + Int32.ofInt 1 = 4 from by decide]
                  refine w_goto (pc' := 109) rfl (by decide) ?_
                  refine w_iload (pc' := 111) rfl rfl rfl ?_
                  refine w_iconst (pc' := 112) 4 rfl rfl ic_4 ?_
                  refine w_ic_ge (t := 136) (pc' := 115) rfl (by decide) rfl (fun h112 => ?_) (fun h112 => ?_)
                  · refine w_aload_n (pc' := 137) rfl rfl rfl rfl ?_
                    refine w_dup (pc' := 138) rfl rfl rfl ?_
                    refine w_getI (pc' := 141) rfl rfl rfl sh_153 rfl ?_
                    rw [show m10.1 153 0 = nI (T.1 153 (0)) from (rf_0 h_10 :)]
                    have b16 : (T.1 153 (0)) < 7 := hB 153 (0)
                    refine w_dup_x1 (pc' := 142) rfl rfl ⟨rfl, rfl⟩ ?_
                    refine w_iconst (pc' := 143) 1 rfl rfl ic_1 ?_
                    refine w_iadd (pc' := 144) rfl rfl ?_
                    rw [show nI ((T.1 153 (0))) + (1 : Int32) = nI ((T.1 153 (0)) + 1) from nI_add _ _]
                    refine w_putI (pc' := 147) rfl rfl rfl sh_153 rfl rfl rfl ?_
                    refine w_gen (h_10.u (c := 153) (k := 0) (x := (T.1 153 (0)) + 1) rfl (y := _) (show _ = q_enc _ _ _ from rfl)) (hF_10.u (by decide)) (fun m11 h_11 hF_11 => ?_)
                    refine w_iret rfl rfl rfl ?_
                    have hf : f_drawer T (nI j1) (nI j3) (nI j2) = (nI ((T.1 153 (0))), (q_Tu (q_Tu (q_Tu (q_Tu (q_Tu (q_Tu (q_Tu (q_Tu (q_Tu (q_Tu (q_Tu T 154 ((T.1 153 (0))) (j1)) 155 ((T.1 153 (0))) (j3)) 156 ((T.1 153 (0))) (j2)) 157 ((T.1 153 (0))) (0)) 158 ((T.1 153 (0))) (0)) 159 ((T.1 153 (0))) (0)) 161 ((4 * (T.1 153 (0))) + 0) (0)) 161 ((4 * (T.1 153 (0))) + 1) (0)) 161 ((4 * (T.1 153 (0))) + 2) (0)) 161 ((4 * (T.1 153 (0))) + 3) (0)) 153 (0) ((T.1 153 (0)) + 1))) := by simp [f_drawer, q_is_nI (n := 7) hj1 (by omega), nI_clamp (show j1 < 2 ^ 31 by omega), q_is_nI (n := 16) hj2 (by omega), nI_clamp (show j2 < 2 ^ 31 by omega), q_is_nI (n := 10) hj3 (by omega), nI_clamp (show j3 < 2 ^ 31 by omega), g5]
                    rw [hf]
                    exact ⟨rfl, h_11, hF_11⟩
                  · exact absurd h112 (by decide)
        · have g17 : (T.1 153 (0)) = 6 := (nI_eq (a := (T.1 153 (0))) (b := 6) (by omega) (by omega)).mp h40
          refine w_bipush (pc' := 45) (-4) rfl rfl bp_m4 ?_
          refine w_iret rfl rfl rfl ?_
          have hf : f_drawer T (nI j1) (nI j3) (nI j2) = (-4, T) := by simp [f_drawer, q_is_nI (n := 7) hj1 (by omega), nI_clamp (show j1 < 2 ^ 31 by omega), q_is_nI (n := 16) hj2 (by omega), nI_clamp (show j2 < 2 ^ 31 by omega), q_is_nI (n := 10) hj3 (by omega), nI_clamp (show j3 < 2 ^ 31 by omega), eq_true g17]
          rw [hf]
          exact ⟨rfl, h, hF⟩
      · have hN18 := bB_0.mp h28
        refine w_bipush (pc' := 33) (-2) rfl rfl bp_m2 ?_
        refine w_iret rfl rfl rfl ?_
        have hf : f_drawer T (nI j1) v (nI j2) = (-2, T) := by simp [f_drawer, q_is_nI (n := 7) hj1 (by omega), nI_clamp (show j1 < 2 ^ 31 by omega), q_is_nI (n := 16) hj2 (by omega), nI_clamp (show j2 < 2 ^ 31 by omega), hN18]
        rw [hf]
        exact ⟨rfl, h, hF⟩
    · have hN19 := bB_0.mp h16
      refine w_iconst (pc' := 20) (-1) rfl rfl ic_m1 ?_
      refine w_iret rfl rfl rfl ?_
      have hf : f_drawer T (nI j1) v c = (-1, T) := by simp [f_drawer, q_is_nI (n := 7) hj1 (by omega), nI_clamp (show j1 < 2 ^ 31 by omega), hN19]
      rw [hf]
      exact ⟨rfl, h, hF⟩
  · have hN20 := bB_0.mp h7
    refine w_iconst (pc' := 11) (-1) rfl rfl ic_m1 ?_
    refine w_iret rfl rfl rfl ?_
    have hf : f_drawer T k v c = (-1, T) := by simp [f_drawer, hN20]
    rw [hf]
    exact ⟨rfl, h, hF⟩
def f_ab (k : Nat) : Nat := if k = 4 then 1 else if k = 5 then 2 else if k = 6 then 3 else 0
set_option maxRecDepth 100000 in
set_option maxHeartbeats 4000000 in
theorem v_m_above (xs : List Int32) (m : am_Mm) {k : Nat} (hk : k < 7) : am_V xs 1 214 [.int (nI k)] m (am_qi (nI (f_ab k)) (· = m)) := by
  refine am_V_of ky_214 (Nat.le_of_ble_eq_true rfl) ?_
  show am_P xs 0 m_above 0 [some (.int (nI k))] [] m _
  refine w_iload_n (pc' := 1) rfl rfl rfl ?_
  refine w_iconst (pc' := 2) 4 rfl rfl ic_4 ?_
  refine w_ic_ne (t := 9) (pc' := 5) rfl (by decide) rfl (fun h2 => ?_) (fun h2 => ?_)
  · have g1 : ¬ k = 4 := fun q => h2 ((nI_eq (a := k) (b := 4) (by omega) (by omega)).mpr q)
    refine w_iload_n (pc' := 10) rfl rfl rfl ?_
    refine w_iconst (pc' := 11) 5 rfl rfl ic_5 ?_
    refine w_ic_ne (t := 18) (pc' := 14) rfl (by decide) rfl (fun h11 => ?_) (fun h11 => ?_)
    · have g2 : ¬ k = 5 := fun q => h11 ((nI_eq (a := k) (b := 5) (by omega) (by omega)).mpr q)
      refine w_iload_n (pc' := 19) rfl rfl rfl ?_
      refine w_bipush (pc' := 21) 6 rfl rfl bp_6 ?_
      refine w_ic_ne (t := 28) (pc' := 24) rfl (by decide) rfl (fun h21 => ?_) (fun h21 => ?_)
      · have g3 : ¬ k = 6 := fun q => h21 ((nI_eq (a := k) (b := 6) (by omega) (by omega)).mpr q)
        refine w_iconst (pc' := 29) 0 rfl rfl ic_0 ?_
        refine w_iret rfl rfl rfl ?_
        rw [show f_ab k = 0 by simp [f_ab, g1, g2, g3]]
        exact ⟨rfl, rfl⟩
      · have g4 : k = 6 := (nI_eq (a := k) (b := 6) (by omega) (by omega)).mp h21
        refine w_iconst (pc' := 25) 3 rfl rfl ic_3 ?_
        refine w_goto (pc' := 29) rfl (by decide) ?_
        refine w_iret rfl rfl rfl ?_
        rw [show f_ab k = 3 by simp [f_ab, g1, g2, eq_true g4]]
        exact ⟨rfl, rfl⟩
    · have g5 : k = 5 := (nI_eq (a := k) (b := 5) (by omega) (by omega)).mp h11
      refine w_iconst (pc' := 15) 2 rfl rfl ic_2 ?_
      refine w_goto (pc' := 29) rfl (by decide) ?_
      refine w_iret rfl rfl rfl ?_
      rw [show f_ab k = 2 by simp [f_ab, g1, eq_true g5]]
      exact ⟨rfl, rfl⟩
  · have g6 : k = 4 := (nI_eq (a := k) (b := 4) (by omega) (by omega)).mp h2
    refine w_iconst (pc' := 6) 1 rfl rfl ic_1 ?_
    refine w_goto (pc' := 29) rfl (by decide) ?_
    refine w_iret rfl rfl rfl ?_
    rw [show f_ab k = 1 by simp [f_ab, eq_true g6]]
    exact ⟨rfl, rfl⟩
def f_und (a b : Nat) : Bool := decide (a = b) || (decide (0 < a) && (decide (f_ab a = b) || (decide (0 < f_ab a) && decide (0 = b))))
def f_taken (T : q_T) (d k : Int32) : Int32 × q_T := if q_is k 7 = true then (if q_is d (T.1 153 0) = true then (if f_und (T.1 154 d.toNatClampNeg) k.toNatClampNeg = true then (nI (T.1 154 d.toNatClampNeg), T) else (-12, T)) else (-11, T)) else (-2, T)
set_option maxRecDepth 100000 in
set_option maxHeartbeats 4000000 in
theorem v_m_taken (xs : List Int32) {T : q_T} {m : am_Mm} (h : q_Rm T m) (hB : q_Bd T) (d : Int32) (k : Int32) : am_V xs 3 218 [.ref 153, .int d, .int k] m (am_qi (f_taken T d k).1 (q_G (f_taken T d k).2 m)) := by
  have hF : q_FC m m := q_FC.rf
  have hn : T.1 153 0 < 7 := hB 153 0
  refine am_V_of ky_218 (Nat.le_of_ble_eq_true rfl) ?_
  show am_P xs 2 m_taken 0 [some (.ref 153), some (.int d), some (.int k), none] [] m _
  refine w_iload_n (pc' := 1) rfl rfl rfl ?_
  refine w_iconst (pc' := 2) 0 rfl rfl ic_0 ?_
  refine w_bipush (pc' := 4) 6 rfl rfl bp_6 ?_
  refine w_cS3i (pc' := 7) (v_m_win xs _ _ _ (7) (by omega) (by first | decide | rfl)) (by decide) rfl rfl rfl (Or.inl rfl) (Nat.le_of_ble_eq_true rfl) (fun m' hm' => ?_)
  rw [show m' = m from hm']
  clear hm' m'
  refine w_if_ne (t := 13) (pc' := 10) rfl (by decide) rfl (fun h7 => ?_) (fun h7 => ?_)
  · obtain ⟨j1, hj1, rfl⟩ := q_is_of (bB_n0.mp h7) (by omega)
    refine w_aload_n (pc' := 14) rfl rfl rfl rfl ?_
    refine w_iload_n (pc' := 15) rfl rfl rfl ?_
    refine w_cV1i (pc' := 18) (v_m_one xs h (by omega) _) (by decide) rfl rfl rfl (Nat.le_of_ble_eq_true rfl) sh_153 rfl (fun m' hm' => ?_)
    rw [show m' = m from hm']
    clear hm' m'
    refine w_if_ne (t := 24) (pc' := 21) rfl (by decide) rfl (fun h18 => ?_) (fun h18 => ?_)
    · obtain ⟨j2, hj2, rfl⟩ := q_is_of (bB_n0.mp h18) (by omega)
      refine w_aload_n (pc' := 25) rfl rfl rfl rfl ?_
      refine w_getC (pc' := 28) rfl rfl rfl sh_153 rfl ?_
      refine w_iload_n (pc' := 29) rfl rfl rfl ?_
      refine w_iald (j := (j2)) (pc' := 30) rfl rfl sh_154 rfl (by omega) (by decide) ?_
      rw [show m.1 154 j2 = nI (T.1 154 (j2)) from (rd_154 h _ :)]
      have b3 : (T.1 154 (j2)) < 7 := hB 154 (j2)
      refine w_ist3 (pc' := 31) rfl rfl rfl ?_
      have e7o : T.1 154 (j2) = 0 ∨ T.1 154 (j2) = 1 ∨ T.1 154 (j2) = 2 ∨ T.1 154 (j2) = 3 ∨ T.1 154 (j2) = 4 ∨ T.1 154 (j2) = 5 ∨ T.1 154 (j2) = 6 := by omega
      rcases e7o with e7 | e7 | e7 | e7 | e7 | e7 | e7
      · rw [e7]
        refine w_iload_n (pc' := 32) rfl rfl rfl ?_
        refine w_iload_n (pc' := 33) rfl rfl rfl ?_
        refine w_ic_eq (t := 48) (pc' := 36) rfl (by decide) rfl (fun h33 => ?_) (fun h33 => ?_)
        · have g4 : 0 = j1 := (nI_eq (a := 0) (b := j1) (by omega) (by omega)).mp h33
          refine w_iload_n (pc' := 49) rfl rfl rfl ?_
          refine w_iload_n (pc' := 50) rfl rfl rfl ?_
          refine w_ic_ne (t := 62) (pc' := 53) rfl (by decide) rfl (fun h50 => ?_) (fun h50 => ?_)
          · have g5 : ¬ 0 = j1 := fun q => h50 ((nI_eq (a := 0) (b := j1) (by omega) (by omega)).mpr q)
            omega
          · have g6 : 0 = j1 := (nI_eq (a := 0) (b := j1) (by omega) (by omega)).mp h50
            refine w_aload_n (pc' := 54) rfl rfl rfl rfl ?_
            refine w_getC (pc' := 57) rfl rfl rfl sh_153 rfl ?_
            refine w_iload_n (pc' := 58) rfl rfl rfl ?_
            refine w_iald (j := (j2)) (pc' := 59) rfl rfl sh_154 rfl (by omega) (by decide) ?_
            rw [show m.1 154 j2 = nI (T.1 154 (j2)) from (rd_154 h _ :)]
            have b7 : (T.1 154 (j2)) < 7 := hB 154 (j2)
            refine w_goto (pc' := 64) rfl (by decide) ?_
            refine w_iret rfl rfl rfl ?_
            have hf : f_taken T (nI j2) (nI j1) = (nI ((T.1 154 (j2))), T) := by simp [f_taken, q_is_nI (n := 7) hj1 (by omega), nI_clamp (show j1 < 2 ^ 31 by omega), q_is_nI (n := T.1 153 0) hj2 (by omega), nI_clamp (show j2 < 2 ^ 31 by omega), e7, eq_true g4, eq_true g6, f_und, f_ab]
            rw [hf]
            exact ⟨rfl, h, hF⟩
        · have g8 : ¬ 0 = j1 := fun q => h33 ((nI_eq (a := 0) (b := j1) (by omega) (by omega)).mpr q)
          refine w_iload_n (pc' := 37) rfl rfl rfl ?_
          refine w_if_le (t := 48) (pc' := 40) rfl (by decide) rfl (fun h37 => ?_) (fun h37 => ?_)
          · have g9 : 0 ≤ 0 := (nI_leI (a := 0) (b := 0) (by omega) (by omega)).mp h37
            refine w_iload_n (pc' := 49) rfl rfl rfl ?_
            refine w_iload_n (pc' := 50) rfl rfl rfl ?_
            refine w_ic_ne (t := 62) (pc' := 53) rfl (by decide) rfl (fun h50 => ?_) (fun h50 => ?_)
            · have g10 : ¬ 0 = j1 := fun q => h50 ((nI_eq (a := 0) (b := j1) (by omega) (by omega)).mpr q)
              refine w_bipush (pc' := 64) (-12) rfl rfl bp_m12 ?_
              refine w_iret rfl rfl rfl ?_
              have hf : f_taken T (nI j2) (nI j1) = (-12, T) := by simp [f_taken, q_is_nI (n := 7) hj1 (by omega), nI_clamp (show j1 < 2 ^ 31 by omega), q_is_nI (n := T.1 153 0) hj2 (by omega), nI_clamp (show j2 < 2 ^ 31 by omega), e7, g8, g9, Nat.not_lt.mpr g9, g10, f_und, f_ab]
              rw [hf]
              exact ⟨rfl, h, hF⟩
            · have g11 : 0 = j1 := (nI_eq (a := 0) (b := j1) (by omega) (by omega)).mp h50
              omega
          · exact absurd h37 (by decide)
      · rw [e7]
        refine w_iload_n (pc' := 32) rfl rfl rfl ?_
        refine w_iload_n (pc' := 33) rfl rfl rfl ?_
        refine w_ic_eq (t := 48) (pc' := 36) rfl (by decide) rfl (fun h33 => ?_) (fun h33 => ?_)
        · have g13 : 1 = j1 := (nI_eq (a := 1) (b := j1) (by omega) (by omega)).mp h33
          refine w_iload_n (pc' := 49) rfl rfl rfl ?_
          refine w_iload_n (pc' := 50) rfl rfl rfl ?_
          refine w_ic_ne (t := 62) (pc' := 53) rfl (by decide) rfl (fun h50 => ?_) (fun h50 => ?_)
          · have g14 : ¬ 1 = j1 := fun q => h50 ((nI_eq (a := 1) (b := j1) (by omega) (by omega)).mpr q)
            omega
          · have g15 : 1 = j1 := (nI_eq (a := 1) (b := j1) (by omega) (by omega)).mp h50
            refine w_aload_n (pc' := 54) rfl rfl rfl rfl ?_
            refine w_getC (pc' := 57) rfl rfl rfl sh_153 rfl ?_
            refine w_iload_n (pc' := 58) rfl rfl rfl ?_
            refine w_iald (j := (j2)) (pc' := 59) rfl rfl sh_154 rfl (by omega) (by decide) ?_
            rw [show m.1 154 j2 = nI (T.1 154 (j2)) from (rd_154 h _ :)]
            have b16 : (T.1 154 (j2)) < 7 := hB 154 (j2)
            refine w_goto (pc' := 64) rfl (by decide) ?_
            refine w_iret rfl rfl rfl ?_
            have hf : f_taken T (nI j2) (nI j1) = (nI ((T.1 154 (j2))), T) := by simp [f_taken, q_is_nI (n := 7) hj1 (by omega), nI_clamp (show j1 < 2 ^ 31 by omega), q_is_nI (n := T.1 153 0) hj2 (by omega), nI_clamp (show j2 < 2 ^ 31 by omega), e7, eq_true g13, eq_true g15, f_und, f_ab]
            rw [hf]
            exact ⟨rfl, h, hF⟩
        · have g17 : ¬ 1 = j1 := fun q => h33 ((nI_eq (a := 1) (b := j1) (by omega) (by omega)).mpr q)
          refine w_iload_n (pc' := 37) rfl rfl rfl ?_
          refine w_if_le (t := 48) (pc' := 40) rfl (by decide) rfl (fun h37 => ?_) (fun h37 => ?_)
          · exact absurd h37 (by decide)
          · have g19 : ¬ 1 ≤ 0 := fun q => h37 ((nI_leI (a := 1) (b := 0) (by omega) (by omega)).mpr q)
            refine w_iload_n (pc' := 41) rfl rfl rfl ?_
            refine w_cS1i (pc' := 44) (v_m_above xs _ (k := 1) (by omega)) (by decide) rfl rfl rfl (Or.inl rfl) (Nat.le_of_ble_eq_true rfl) (fun m' hm' => ?_)
            rw [show m' = m from hm']
            clear hm' m'
            rw [show f_ab 1 = 0 from rfl]
            refine w_ist3 (pc' := 45) rfl rfl rfl ?_
            refine w_goto (pc' := 31) rfl (by decide) ?_
            refine w_iload_n (pc' := 32) rfl rfl rfl ?_
            refine w_iload_n (pc' := 33) rfl rfl rfl ?_
            refine w_ic_eq (t := 48) (pc' := 36) rfl (by decide) rfl (fun h33 => ?_) (fun h33 => ?_)
            · have g20 : 0 = j1 := (nI_eq (a := 0) (b := j1) (by omega) (by omega)).mp h33
              refine w_iload_n (pc' := 49) rfl rfl rfl ?_
              refine w_iload_n (pc' := 50) rfl rfl rfl ?_
              refine w_ic_ne (t := 62) (pc' := 53) rfl (by decide) rfl (fun h50 => ?_) (fun h50 => ?_)
              · have g21 : ¬ 0 = j1 := fun q => h50 ((nI_eq (a := 0) (b := j1) (by omega) (by omega)).mpr q)
                omega
              · have g22 : 0 = j1 := (nI_eq (a := 0) (b := j1) (by omega) (by omega)).mp h50
                refine w_aload_n (pc' := 54) rfl rfl rfl rfl ?_
                refine w_getC (pc' := 57) rfl rfl rfl sh_153 rfl ?_
                refine w_iload_n (pc' := 58) rfl rfl rfl ?_
                refine w_iald (j := (j2)) (pc' := 59) rfl rfl sh_154 rfl (by omega) (by decide) ?_
                rw [show m.1 154 j2 = nI (T.1 154 (j2)) from (rd_154 h _ :)]
                have b23 : (T.1 154 (j2)) < 7 := hB 154 (j2)
                refine w_goto (pc' := 64) rfl (by decide) ?_
                refine w_iret rfl rfl rfl ?_
                have hf : f_taken T (nI j2) (nI j1) = (nI ((T.1 154 (j2))), T) := by simp [f_taken, q_is_nI (n := 7) hj1 (by omega), nI_clamp (show j1 < 2 ^ 31 by omega), q_is_nI (n := T.1 153 0) hj2 (by omega), nI_clamp (show j2 < 2 ^ 31 by omega), e7, g17, g19, Nat.lt_of_not_le g19, eq_true g20, eq_true g22, f_und, f_ab]
                rw [hf]
                exact ⟨rfl, h, hF⟩
            · have g24 : ¬ 0 = j1 := fun q => h33 ((nI_eq (a := 0) (b := j1) (by omega) (by omega)).mpr q)
              refine w_iload_n (pc' := 37) rfl rfl rfl ?_
              refine w_if_le (t := 48) (pc' := 40) rfl (by decide) rfl (fun h37 => ?_) (fun h37 => ?_)
              · have g25 : 0 ≤ 0 := (nI_leI (a := 0) (b := 0) (by omega) (by omega)).mp h37
                refine w_iload_n (pc' := 49) rfl rfl rfl ?_
                refine w_iload_n (pc' := 50) rfl rfl rfl ?_
                refine w_ic_ne (t := 62) (pc' := 53) rfl (by decide) rfl (fun h50 => ?_) (fun h50 => ?_)
                · have g26 : ¬ 0 = j1 := fun q => h50 ((nI_eq (a := 0) (b := j1) (by omega) (by omega)).mpr q)
                  refine w_bipush (pc' := 64) (-12) rfl rfl bp_m12 ?_
                  refine w_iret rfl rfl rfl ?_
                  have hf : f_taken T (nI j2) (nI j1) = (-12, T) := by simp [f_taken, q_is_nI (n := 7) hj1 (by omega), nI_clamp (show j1 < 2 ^ 31 by omega), q_is_nI (n := T.1 153 0) hj2 (by omega), nI_clamp (show j2 < 2 ^ 31 by omega), e7, g17, g19, Nat.lt_of_not_le g19, g24, g25, Nat.not_lt.mpr g25, g26, f_und, f_ab]
                  rw [hf]
                  exact ⟨rfl, h, hF⟩
                · have g27 : 0 = j1 := (nI_eq (a := 0) (b := j1) (by omega) (by omega)).mp h50
                  omega
              · exact absurd h37 (by decide)
      · rw [e7]
        refine w_iload_n (pc' := 32) rfl rfl rfl ?_
        refine w_iload_n (pc' := 33) rfl rfl rfl ?_
        refine w_ic_eq (t := 48) (pc' := 36) rfl (by decide) rfl (fun h33 => ?_) (fun h33 => ?_)
        · have g29 : 2 = j1 := (nI_eq (a := 2) (b := j1) (by omega) (by omega)).mp h33
          refine w_iload_n (pc' := 49) rfl rfl rfl ?_
          refine w_iload_n (pc' := 50) rfl rfl rfl ?_
          refine w_ic_ne (t := 62) (pc' := 53) rfl (by decide) rfl (fun h50 => ?_) (fun h50 => ?_)
          · have g30 : ¬ 2 = j1 := fun q => h50 ((nI_eq (a := 2) (b := j1) (by omega) (by omega)).mpr q)
            omega
          · have g31 : 2 = j1 := (nI_eq (a := 2) (b := j1) (by omega) (by omega)).mp h50
            refine w_aload_n (pc' := 54) rfl rfl rfl rfl ?_
            refine w_getC (pc' := 57) rfl rfl rfl sh_153 rfl ?_
            refine w_iload_n (pc' := 58) rfl rfl rfl ?_
            refine w_iald (j := (j2)) (pc' := 59) rfl rfl sh_154 rfl (by omega) (by decide) ?_
            rw [show m.1 154 j2 = nI (T.1 154 (j2)) from (rd_154 h _ :)]
            have b32 : (T.1 154 (j2)) < 7 := hB 154 (j2)
            refine w_goto (pc' := 64) rfl (by decide) ?_
            refine w_iret rfl rfl rfl ?_
            have hf : f_taken T (nI j2) (nI j1) = (nI ((T.1 154 (j2))), T) := by simp [f_taken, q_is_nI (n := 7) hj1 (by omega), nI_clamp (show j1 < 2 ^ 31 by omega), q_is_nI (n := T.1 153 0) hj2 (by omega), nI_clamp (show j2 < 2 ^ 31 by omega), e7, eq_true g29, eq_true g31, f_und, f_ab]
            rw [hf]
            exact ⟨rfl, h, hF⟩
        · have g33 : ¬ 2 = j1 := fun q => h33 ((nI_eq (a := 2) (b := j1) (by omega) (by omega)).mpr q)
          refine w_iload_n (pc' := 37) rfl rfl rfl ?_
          refine w_if_le (t := 48) (pc' := 40) rfl (by decide) rfl (fun h37 => ?_) (fun h37 => ?_)
          · exact absurd h37 (by decide)
          · have g35 : ¬ 2 ≤ 0 := fun q => h37 ((nI_leI (a := 2) (b := 0) (by omega) (by omega)).mpr q)
            refine w_iload_n (pc' := 41) rfl rfl rfl ?_
            refine w_cS1i (pc' := 44) (v_m_above xs _ (k := 2) (by omega)) (by decide) rfl rfl rfl (Or.inl rfl) (Nat.le_of_ble_eq_true rfl) (fun m' hm' => ?_)
            rw [show m' = m from hm']
            clear hm' m'
            rw [show f_ab 2 = 0 from rfl]
            refine w_ist3 (pc' := 45) rfl rfl rfl ?_
            refine w_goto (pc' := 31) rfl (by decide) ?_
            refine w_iload_n (pc' := 32) rfl rfl rfl ?_
            refine w_iload_n (pc' := 33) rfl rfl rfl ?_
            refine w_ic_eq (t := 48) (pc' := 36) rfl (by decide) rfl (fun h33 => ?_) (fun h33 => ?_)
            · have g36 : 0 = j1 := (nI_eq (a := 0) (b := j1) (by omega) (by omega)).mp h33
              refine w_iload_n (pc' := 49) rfl rfl rfl ?_
              refine w_iload_n (pc' := 50) rfl rfl rfl ?_
              refine w_ic_ne (t := 62) (pc' := 53) rfl (by decide) rfl (fun h50 => ?_) (fun h50 => ?_)
              · have g37 : ¬ 0 = j1 := fun q => h50 ((nI_eq (a := 0) (b := j1) (by omega) (by omega)).mpr q)
                omega
              · have g38 : 0 = j1 := (nI_eq (a := 0) (b := j1) (by omega) (by omega)).mp h50
                refine w_aload_n (pc' := 54) rfl rfl rfl rfl ?_
                refine w_getC (pc' := 57) rfl rfl rfl sh_153 rfl ?_
                refine w_iload_n (pc' := 58) rfl rfl rfl ?_
                refine w_iald (j := (j2)) (pc' := 59) rfl rfl sh_154 rfl (by omega) (by decide) ?_
                rw [show m.1 154 j2 = nI (T.1 154 (j2)) from (rd_154 h _ :)]
                have b39 : (T.1 154 (j2)) < 7 := hB 154 (j2)
                refine w_goto (pc' := 64) rfl (by decide) ?_
                refine w_iret rfl rfl rfl ?_
                have hf : f_taken T (nI j2) (nI j1) = (nI ((T.1 154 (j2))), T) := by simp [f_taken, q_is_nI (n := 7) hj1 (by omega), nI_clamp (show j1 < 2 ^ 31 by omega), q_is_nI (n := T.1 153 0) hj2 (by omega), nI_clamp (show j2 < 2 ^ 31 by omega), e7, g33, g35, Nat.lt_of_not_le g35, eq_true g36, eq_true g38, f_und, f_ab]
                rw [hf]
                exact ⟨rfl, h, hF⟩
            · have g40 : ¬ 0 = j1 := fun q => h33 ((nI_eq (a := 0) (b := j1) (by omega) (by omega)).mpr q)
              refine w_iload_n (pc' := 37) rfl rfl rfl ?_
              refine w_if_le (t := 48) (pc' := 40) rfl (by decide) rfl (fun h37 => ?_) (fun h37 => ?_)
              · have g41 : 0 ≤ 0 := (nI_leI (a := 0) (b := 0) (by omega) (by omega)).mp h37
                refine w_iload_n (pc' := 49) rfl rfl rfl ?_
                refine w_iload_n (pc' := 50) rfl rfl rfl ?_
                refine w_ic_ne (t := 62) (pc' := 53) rfl (by decide) rfl (fun h50 => ?_) (fun h50 => ?_)
                · have g42 : ¬ 0 = j1 := fun q => h50 ((nI_eq (a := 0) (b := j1) (by omega) (by omega)).mpr q)
                  refine w_bipush (pc' := 64) (-12) rfl rfl bp_m12 ?_
                  refine w_iret rfl rfl rfl ?_
                  have hf : f_taken T (nI j2) (nI j1) = (-12, T) := by simp [f_taken, q_is_nI (n := 7) hj1 (by omega), nI_clamp (show j1 < 2 ^ 31 by omega), q_is_nI (n := T.1 153 0) hj2 (by omega), nI_clamp (show j2 < 2 ^ 31 by omega), e7, g33, g35, Nat.lt_of_not_le g35, g40, g41, Nat.not_lt.mpr g41, g42, f_und, f_ab]
                  rw [hf]
                  exact ⟨rfl, h, hF⟩
                · have g43 : 0 = j1 := (nI_eq (a := 0) (b := j1) (by omega) (by omega)).mp h50
                  omega
              · exact absurd h37 (by decide)
      · rw [e7]
        refine w_iload_n (pc' := 32) rfl rfl rfl ?_
        refine w_iload_n (pc' := 33) rfl rfl rfl ?_
        refine w_ic_eq (t := 48) (pc' := 36) rfl (by decide) rfl (fun h33 => ?_) (fun h33 => ?_)
        · have g45 : 3 = j1 := (nI_eq (a := 3) (b := j1) (by omega) (by omega)).mp h33
          refine w_iload_n (pc' := 49) rfl rfl rfl ?_
          refine w_iload_n (pc' := 50) rfl rfl rfl ?_
          refine w_ic_ne (t := 62) (pc' := 53) rfl (by decide) rfl (fun h50 => ?_) (fun h50 => ?_)
          · have g46 : ¬ 3 = j1 := fun q => h50 ((nI_eq (a := 3) (b := j1) (by omega) (by omega)).mpr q)
            omega
          · have g47 : 3 = j1 := (nI_eq (a := 3) (b := j1) (by omega) (by omega)).mp h50
            refine w_aload_n (pc' := 54) rfl rfl rfl rfl ?_
            refine w_getC (pc' := 57) rfl rfl rfl sh_153 rfl ?_
            refine w_iload_n (pc' := 58) rfl rfl rfl ?_
            refine w_iald (j := (j2)) (pc' := 59) rfl rfl sh_154 rfl (by omega) (by decide) ?_
            rw [show m.1 154 j2 = nI (T.1 154 (j2)) from (rd_154 h _ :)]
            have b48 : (T.1 154 (j2)) < 7 := hB 154 (j2)
            refine w_goto (pc' := 64) rfl (by decide) ?_
            refine w_iret rfl rfl rfl ?_
            have hf : f_taken T (nI j2) (nI j1) = (nI ((T.1 154 (j2))), T) := by simp [f_taken, q_is_nI (n := 7) hj1 (by omega), nI_clamp (show j1 < 2 ^ 31 by omega), q_is_nI (n := T.1 153 0) hj2 (by omega), nI_clamp (show j2 < 2 ^ 31 by omega), e7, eq_true g45, eq_true g47, f_und, f_ab]
            rw [hf]
            exact ⟨rfl, h, hF⟩
        · have g49 : ¬ 3 = j1 := fun q => h33 ((nI_eq (a := 3) (b := j1) (by omega) (by omega)).mpr q)
          refine w_iload_n (pc' := 37) rfl rfl rfl ?_
          refine w_if_le (t := 48) (pc' := 40) rfl (by decide) rfl (fun h37 => ?_) (fun h37 => ?_)
          · exact absurd h37 (by decide)
          · have g51 : ¬ 3 ≤ 0 := fun q => h37 ((nI_leI (a := 3) (b := 0) (by omega) (by omega)).mpr q)
            refine w_iload_n (pc' := 41) rfl rfl rfl ?_
            refine w_cS1i (pc' := 44) (v_m_above xs _ (k := 3) (by omega)) (by decide) rfl rfl rfl (Or.inl rfl) (Nat.le_of_ble_eq_true rfl) (fun m' hm' => ?_)
            rw [show m' = m from hm']
            clear hm' m'
            rw [show f_ab 3 = 0 from rfl]
            refine w_ist3 (pc' := 45) rfl rfl rfl ?_
            refine w_goto (pc' := 31) rfl (by decide) ?_
            refine w_iload_n (pc' := 32) rfl rfl rfl ?_
            refine w_iload_n (pc' := 33) rfl rfl rfl ?_
            refine w_ic_eq (t := 48) (pc' := 36) rfl (by decide) rfl (fun h33 => ?_) (fun h33 => ?_)
            · have g52 : 0 = j1 := (nI_eq (a := 0) (b := j1) (by omega) (by omega)).mp h33
              refine w_iload_n (pc' := 49) rfl rfl rfl ?_
              refine w_iload_n (pc' := 50) rfl rfl rfl ?_
              refine w_ic_ne (t := 62) (pc' := 53) rfl (by decide) rfl (fun h50 => ?_) (fun h50 => ?_)
              · have g53 : ¬ 0 = j1 := fun q => h50 ((nI_eq (a := 0) (b := j1) (by omega) (by omega)).mpr q)
                omega
              · have g54 : 0 = j1 := (nI_eq (a := 0) (b := j1) (by omega) (by omega)).mp h50
                refine w_aload_n (pc' := 54) rfl rfl rfl rfl ?_
                refine w_getC (pc' := 57) rfl rfl rfl sh_153 rfl ?_
                refine w_iload_n (pc' := 58) rfl rfl rfl ?_
                refine w_iald (j := (j2)) (pc' := 59) rfl rfl sh_154 rfl (by omega) (by decide) ?_
                rw [show m.1 154 j2 = nI (T.1 154 (j2)) from (rd_154 h _ :)]
                have b55 : (T.1 154 (j2)) < 7 := hB 154 (j2)
                refine w_goto (pc' := 64) rfl (by decide) ?_
                refine w_iret rfl rfl rfl ?_
                have hf : f_taken T (nI j2) (nI j1) = (nI ((T.1 154 (j2))), T) := by simp [f_taken, q_is_nI (n := 7) hj1 (by omega), nI_clamp (show j1 < 2 ^ 31 by omega), q_is_nI (n := T.1 153 0) hj2 (by omega), nI_clamp (show j2 < 2 ^ 31 by omega), e7, g49, g51, Nat.lt_of_not_le g51, eq_true g52, eq_true g54, f_und, f_ab]
                rw [hf]
                exact ⟨rfl, h, hF⟩
            · have g56 : ¬ 0 = j1 := fun q => h33 ((nI_eq (a := 0) (b := j1) (by omega) (by omega)).mpr q)
              refine w_iload_n (pc' := 37) rfl rfl rfl ?_
              refine w_if_le (t := 48) (pc' := 40) rfl (by decide) rfl (fun h37 => ?_) (fun h37 => ?_)
              · have g57 : 0 ≤ 0 := (nI_leI (a := 0) (b := 0) (by omega) (by omega)).mp h37
                refine w_iload_n (pc' := 49) rfl rfl rfl ?_
                refine w_iload_n (pc' := 50) rfl rfl rfl ?_
                refine w_ic_ne (t := 62) (pc' := 53) rfl (by decide) rfl (fun h50 => ?_) (fun h50 => ?_)
                · have g58 : ¬ 0 = j1 := fun q => h50 ((nI_eq (a := 0) (b := j1) (by omega) (by omega)).mpr q)
                  refine w_bipush (pc' := 64) (-12) rfl rfl bp_m12 ?_
                  refine w_iret rfl rfl rfl ?_
                  have hf : f_taken T (nI j2) (nI j1) = (-12, T) := by simp [f_taken, q_is_nI (n := 7) hj1 (by omega), nI_clamp (show j1 < 2 ^ 31 by omega), q_is_nI (n := T.1 153 0) hj2 (by omega), nI_clamp (show j2 < 2 ^ 31 by omega), e7, g49, g51, Nat.lt_of_not_le g51, g56, g57, Nat.not_lt.mpr g57, g58, f_und, f_ab]
                  rw [hf]
                  exact ⟨rfl, h, hF⟩
                · have g59 : 0 = j1 := (nI_eq (a := 0) (b := j1) (by omega) (by omega)).mp h50
                  omega
              · exact absurd h37 (by decide)
      · rw [e7]
        refine w_iload_n (pc' := 32) rfl rfl rfl ?_
        refine w_iload_n (pc' := 33) rfl rfl rfl ?_
        refine w_ic_eq (t := 48) (pc' := 36) rfl (by decide) rfl (fun h33 => ?_) (fun h33 => ?_)
        · have g61 : 4 = j1 := (nI_eq (a := 4) (b := j1) (by omega) (by omega)).mp h33
          refine w_iload_n (pc' := 49) rfl rfl rfl ?_
          refine w_iload_n (pc' := 50) rfl rfl rfl ?_
          refine w_ic_ne (t := 62) (pc' := 53) rfl (by decide) rfl (fun h50 => ?_) (fun h50 => ?_)
          · have g62 : ¬ 4 = j1 := fun q => h50 ((nI_eq (a := 4) (b := j1) (by omega) (by omega)).mpr q)
            omega
          · have g63 : 4 = j1 := (nI_eq (a := 4) (b := j1) (by omega) (by omega)).mp h50
            refine w_aload_n (pc' := 54) rfl rfl rfl rfl ?_
            refine w_getC (pc' := 57) rfl rfl rfl sh_153 rfl ?_
            refine w_iload_n (pc' := 58) rfl rfl rfl ?_
            refine w_iald (j := (j2)) (pc' := 59) rfl rfl sh_154 rfl (by omega) (by decide) ?_
            rw [show m.1 154 j2 = nI (T.1 154 (j2)) from (rd_154 h _ :)]
            have b64 : (T.1 154 (j2)) < 7 := hB 154 (j2)
            refine w_goto (pc' := 64) rfl (by decide) ?_
            refine w_iret rfl rfl rfl ?_
            have hf : f_taken T (nI j2) (nI j1) = (nI ((T.1 154 (j2))), T) := by simp [f_taken, q_is_nI (n := 7) hj1 (by omega), nI_clamp (show j1 < 2 ^ 31 by omega), q_is_nI (n := T.1 153 0) hj2 (by omega), nI_clamp (show j2 < 2 ^ 31 by omega), e7, eq_true g61, eq_true g63, f_und, f_ab]
            rw [hf]
            exact ⟨rfl, h, hF⟩
        · have g65 : ¬ 4 = j1 := fun q => h33 ((nI_eq (a := 4) (b := j1) (by omega) (by omega)).mpr q)
          refine w_iload_n (pc' := 37) rfl rfl rfl ?_
          refine w_if_le (t := 48) (pc' := 40) rfl (by decide) rfl (fun h37 => ?_) (fun h37 => ?_)
          · exact absurd h37 (by decide)
          · have g67 : ¬ 4 ≤ 0 := fun q => h37 ((nI_leI (a := 4) (b := 0) (by omega) (by omega)).mpr q)
            refine w_iload_n (pc' := 41) rfl rfl rfl ?_
            refine w_cS1i (pc' := 44) (v_m_above xs _ (k := 4) (by omega)) (by decide) rfl rfl rfl (Or.inl rfl) (Nat.le_of_ble_eq_true rfl) (fun m' hm' => ?_)
            rw [show m' = m from hm']
            clear hm' m'
            rw [show f_ab 4 = 1 from rfl]
            refine w_ist3 (pc' := 45) rfl rfl rfl ?_
            refine w_goto (pc' := 31) rfl (by decide) ?_
            refine w_iload_n (pc' := 32) rfl rfl rfl ?_
            refine w_iload_n (pc' := 33) rfl rfl rfl ?_
            refine w_ic_eq (t := 48) (pc' := 36) rfl (by decide) rfl (fun h33 => ?_) (fun h33 => ?_)
            · have g68 : 1 = j1 := (nI_eq (a := 1) (b := j1) (by omega) (by omega)).mp h33
              refine w_iload_n (pc' := 49) rfl rfl rfl ?_
              refine w_iload_n (pc' := 50) rfl rfl rfl ?_
              refine w_ic_ne (t := 62) (pc' := 53) rfl (by decide) rfl (fun h50 => ?_) (fun h50 => ?_)
              · have g69 : ¬ 1 = j1 := fun q => h50 ((nI_eq (a := 1) (b := j1) (by omega) (by omega)).mpr q)
                omega
              · have g70 : 1 = j1 := (nI_eq (a := 1) (b := j1) (by omega) (by omega)).mp h50
                refine w_aload_n (pc' := 54) rfl rfl rfl rfl ?_
                refine w_getC (pc' := 57) rfl rfl rfl sh_153 rfl ?_
                refine w_iload_n (pc' := 58) rfl rfl rfl ?_
                refine w_iald (j := (j2)) (pc' := 59) rfl rfl sh_154 rfl (by omega) (by decide) ?_
                rw [show m.1 154 j2 = nI (T.1 154 (j2)) from (rd_154 h _ :)]
                have b71 : (T.1 154 (j2)) < 7 := hB 154 (j2)
                refine w_goto (pc' := 64) rfl (by decide) ?_
                refine w_iret rfl rfl rfl ?_
                have hf : f_taken T (nI j2) (nI j1) = (nI ((T.1 154 (j2))), T) := by simp [f_taken, q_is_nI (n := 7) hj1 (by omega), nI_clamp (show j1 < 2 ^ 31 by omega), q_is_nI (n := T.1 153 0) hj2 (by omega), nI_clamp (show j2 < 2 ^ 31 by omega), e7, g65, g67, Nat.lt_of_not_le g67, eq_true g68, eq_true g70, f_und, f_ab]
                rw [hf]
                exact ⟨rfl, h, hF⟩
            · have g72 : ¬ 1 = j1 := fun q => h33 ((nI_eq (a := 1) (b := j1) (by omega) (by omega)).mpr q)
              refine w_iload_n (pc' := 37) rfl rfl rfl ?_
              refine w_if_le (t := 48) (pc' := 40) rfl (by decide) rfl (fun h37 => ?_) (fun h37 => ?_)
              · exact absurd h37 (by decide)
              · have g74 : ¬ 1 ≤ 0 := fun q => h37 ((nI_leI (a := 1) (b := 0) (by omega) (by omega)).mpr q)
                refine w_iload_n (pc' := 41) rfl rfl rfl ?_
                refine w_cS1i (pc' := 44) (v_m_above xs _ (k := 1) (by omega)) (by decide) rfl rfl rfl (Or.inl rfl) (Nat.le_of_ble_eq_true rfl) (fun m' hm' => ?_)
                rw [show m' = m from hm']
                clear hm' m'
                rw [show f_ab 1 = 0 from rfl]
                refine w_ist3 (pc' := 45) rfl rfl rfl ?_
                refine w_goto (pc' := 31) rfl (by decide) ?_
                refine w_iload_n (pc' := 32) rfl rfl rfl ?_
                refine w_iload_n (pc' := 33) rfl rfl rfl ?_
                refine w_ic_eq (t := 48) (pc' := 36) rfl (by decide) rfl (fun h33 => ?_) (fun h33 => ?_)
                · have g75 : 0 = j1 := (nI_eq (a := 0) (b := j1) (by omega) (by omega)).mp h33
                  refine w_iload_n (pc' := 49) rfl rfl rfl ?_
                  refine w_iload_n (pc' := 50) rfl rfl rfl ?_
                  refine w_ic_ne (t := 62) (pc' := 53) rfl (by decide) rfl (fun h50 => ?_) (fun h50 => ?_)
                  · have g76 : ¬ 0 = j1 := fun q => h50 ((nI_eq (a := 0) (b := j1) (by omega) (by omega)).mpr q)
                    omega
                  · have g77 : 0 = j1 := (nI_eq (a := 0) (b := j1) (by omega) (by omega)).mp h50
                    refine w_aload_n (pc' := 54) rfl rfl rfl rfl ?_
                    refine w_getC (pc' := 57) rfl rfl rfl sh_153 rfl ?_
                    refine w_iload_n (pc' := 58) rfl rfl rfl ?_
                    refine w_iald (j := (j2)) (pc' := 59) rfl rfl sh_154 rfl (by omega) (by decide) ?_
                    rw [show m.1 154 j2 = nI (T.1 154 (j2)) from (rd_154 h _ :)]
                    have b78 : (T.1 154 (j2)) < 7 := hB 154 (j2)
                    refine w_goto (pc' := 64) rfl (by decide) ?_
                    refine w_iret rfl rfl rfl ?_
                    have hf : f_taken T (nI j2) (nI j1) = (nI ((T.1 154 (j2))), T) := by simp [f_taken, q_is_nI (n := 7) hj1 (by omega), nI_clamp (show j1 < 2 ^ 31 by omega), q_is_nI (n := T.1 153 0) hj2 (by omega), nI_clamp (show j2 < 2 ^ 31 by omega), e7, g65, g67, Nat.lt_of_not_le g67, g72, g74, Nat.lt_of_not_le g74, eq_true g75, eq_true g77, f_und, f_ab]
                    rw [hf]
                    exact ⟨rfl, h, hF⟩
                · have g79 : ¬ 0 = j1 := fun q => h33 ((nI_eq (a := 0) (b := j1) (by omega) (by omega)).mpr q)
                  refine w_iload_n (pc' := 37) rfl rfl rfl ?_
                  refine w_if_le (t := 48) (pc' := 40) rfl (by decide) rfl (fun h37 => ?_) (fun h37 => ?_)
                  · have g80 : 0 ≤ 0 := (nI_leI (a := 0) (b := 0) (by omega) (by omega)).mp h37
                    refine w_iload_n (pc' := 49) rfl rfl rfl ?_
                    refine w_iload_n (pc' := 50) rfl rfl rfl ?_
                    refine w_ic_ne (t := 62) (pc' := 53) rfl (by decide) rfl (fun h50 => ?_) (fun h50 => ?_)
                    · have g81 : ¬ 0 = j1 := fun q => h50 ((nI_eq (a := 0) (b := j1) (by omega) (by omega)).mpr q)
                      refine w_bipush (pc' := 64) (-12) rfl rfl bp_m12 ?_
                      refine w_iret rfl rfl rfl ?_
                      have hf : f_taken T (nI j2) (nI j1) = (-12, T) := by simp [f_taken, q_is_nI (n := 7) hj1 (by omega), nI_clamp (show j1 < 2 ^ 31 by omega), q_is_nI (n := T.1 153 0) hj2 (by omega), nI_clamp (show j2 < 2 ^ 31 by omega), e7, g65, g67, Nat.lt_of_not_le g67, g72, g74, Nat.lt_of_not_le g74, g79, g80, Nat.not_lt.mpr g80, g81, f_und, f_ab]
                      rw [hf]
                      exact ⟨rfl, h, hF⟩
                    · have g82 : 0 = j1 := (nI_eq (a := 0) (b := j1) (by omega) (by omega)).mp h50
                      omega
                  · exact absurd h37 (by decide)
      · rw [e7]
        refine w_iload_n (pc' := 32) rfl rfl rfl ?_
        refine w_iload_n (pc' := 33) rfl rfl rfl ?_
        refine w_ic_eq (t := 48) (pc' := 36) rfl (by decide) rfl (fun h33 => ?_) (fun h33 => ?_)
        · have g84 : 5 = j1 := (nI_eq (a := 5) (b := j1) (by omega) (by omega)).mp h33
          refine w_iload_n (pc' := 49) rfl rfl rfl ?_
          refine w_iload_n (pc' := 50) rfl rfl rfl ?_
          refine w_ic_ne (t := 62) (pc' := 53) rfl (by decide) rfl (fun h50 => ?_) (fun h50 => ?_)
          · have g85 : ¬ 5 = j1 := fun q => h50 ((nI_eq (a := 5) (b := j1) (by omega) (by omega)).mpr q)
            omega
          · have g86 : 5 = j1 := (nI_eq (a := 5) (b := j1) (by omega) (by omega)).mp h50
            refine w_aload_n (pc' := 54) rfl rfl rfl rfl ?_
            refine w_getC (pc' := 57) rfl rfl rfl sh_153 rfl ?_
            refine w_iload_n (pc' := 58) rfl rfl rfl ?_
            refine w_iald (j := (j2)) (pc' := 59) rfl rfl sh_154 rfl (by omega) (by decide) ?_
            rw [show m.1 154 j2 = nI (T.1 154 (j2)) from (rd_154 h _ :)]
            have b87 : (T.1 154 (j2)) < 7 := hB 154 (j2)
            refine w_goto (pc' := 64) rfl (by decide) ?_
            refine w_iret rfl rfl rfl ?_
            have hf : f_taken T (nI j2) (nI j1) = (nI ((T.1 154 (j2))), T) := by simp [f_taken, q_is_nI (n := 7) hj1 (by omega), nI_clamp (show j1 < 2 ^ 31 by omega), q_is_nI (n := T.1 153 0) hj2 (by omega), nI_clamp (show j2 < 2 ^ 31 by omega), e7, eq_true g84, eq_true g86, f_und, f_ab]
            rw [hf]
            exact ⟨rfl, h, hF⟩
        · have g88 : ¬ 5 = j1 := fun q => h33 ((nI_eq (a := 5) (b := j1) (by omega) (by omega)).mpr q)
          refine w_iload_n (pc' := 37) rfl rfl rfl ?_
          refine w_if_le (t := 48) (pc' := 40) rfl (by decide) rfl (fun h37 => ?_) (fun h37 => ?_)
          · exact absurd h37 (by decide)
          · have g90 : ¬ 5 ≤ 0 := fun q => h37 ((nI_leI (a := 5) (b := 0) (by omega) (by omega)).mpr q)
            refine w_iload_n (pc' := 41) rfl rfl rfl ?_
            refine w_cS1i (pc' := 44) (v_m_above xs _ (k := 5) (by omega)) (by decide) rfl rfl rfl (Or.inl rfl) (Nat.le_of_ble_eq_true rfl) (fun m' hm' => ?_)
            rw [show m' = m from hm']
            clear hm' m'
            rw [show f_ab 5 = 2 from rfl]
            refine w_ist3 (pc' := 45) rfl rfl rfl ?_
            refine w_goto (pc' := 31) rfl (by decide) ?_
            refine w_iload_n (pc' := 32) rfl rfl rfl ?_
            refine w_iload_n (pc' := 33) rfl rfl rfl ?_
            refine w_ic_eq (t := 48) (pc' := 36) rfl (by decide) rfl (fun h33 => ?_) (fun h33 => ?_)
            · have g91 : 2 = j1 := (nI_eq (a := 2) (b := j1) (by omega) (by omega)).mp h33
              refine w_iload_n (pc' := 49) rfl rfl rfl ?_
              refine w_iload_n (pc' := 50) rfl rfl rfl ?_
              refine w_ic_ne (t := 62) (pc' := 53) rfl (by decide) rfl (fun h50 => ?_) (fun h50 => ?_)
              · have g92 : ¬ 2 = j1 := fun q => h50 ((nI_eq (a := 2) (b := j1) (by omega) (by omega)).mpr q)
                omega
              · have g93 : 2 = j1 := (nI_eq (a := 2) (b := j1) (by omega) (by omega)).mp h50
                refine w_aload_n (pc' := 54) rfl rfl rfl rfl ?_
                refine w_getC (pc' := 57) rfl rfl rfl sh_153 rfl ?_
                refine w_iload_n (pc' := 58) rfl rfl rfl ?_
                refine w_iald (j := (j2)) (pc' := 59) rfl rfl sh_154 rfl (by omega) (by decide) ?_
                rw [show m.1 154 j2 = nI (T.1 154 (j2)) from (rd_154 h _ :)]
                have b94 : (T.1 154 (j2)) < 7 := hB 154 (j2)
                refine w_goto (pc' := 64) rfl (by decide) ?_
                refine w_iret rfl rfl rfl ?_
                have hf : f_taken T (nI j2) (nI j1) = (nI ((T.1 154 (j2))), T) := by simp [f_taken, q_is_nI (n := 7) hj1 (by omega), nI_clamp (show j1 < 2 ^ 31 by omega), q_is_nI (n := T.1 153 0) hj2 (by omega), nI_clamp (show j2 < 2 ^ 31 by omega), e7, g88, g90, Nat.lt_of_not_le g90, eq_true g91, eq_true g93, f_und, f_ab]
                rw [hf]
                exact ⟨rfl, h, hF⟩
            · have g95 : ¬ 2 = j1 := fun q => h33 ((nI_eq (a := 2) (b := j1) (by omega) (by omega)).mpr q)
              refine w_iload_n (pc' := 37) rfl rfl rfl ?_
              refine w_if_le (t := 48) (pc' := 40) rfl (by decide) rfl (fun h37 => ?_) (fun h37 => ?_)
              · exact absurd h37 (by decide)
              · have g97 : ¬ 2 ≤ 0 := fun q => h37 ((nI_leI (a := 2) (b := 0) (by omega) (by omega)).mpr q)
                refine w_iload_n (pc' := 41) rfl rfl rfl ?_
                refine w_cS1i (pc' := 44) (v_m_above xs _ (k := 2) (by omega)) (by decide) rfl rfl rfl (Or.inl rfl) (Nat.le_of_ble_eq_true rfl) (fun m' hm' => ?_)
                rw [show m' = m from hm']
                clear hm' m'
                rw [show f_ab 2 = 0 from rfl]
                refine w_ist3 (pc' := 45) rfl rfl rfl ?_
                refine w_goto (pc' := 31) rfl (by decide) ?_
                refine w_iload_n (pc' := 32) rfl rfl rfl ?_
                refine w_iload_n (pc' := 33) rfl rfl rfl ?_
                refine w_ic_eq (t := 48) (pc' := 36) rfl (by decide) rfl (fun h33 => ?_) (fun h33 => ?_)
                · have g98 : 0 = j1 := (nI_eq (a := 0) (b := j1) (by omega) (by omega)).mp h33
                  refine w_iload_n (pc' := 49) rfl rfl rfl ?_
                  refine w_iload_n (pc' := 50) rfl rfl rfl ?_
                  refine w_ic_ne (t := 62) (pc' := 53) rfl (by decide) rfl (fun h50 => ?_) (fun h50 => ?_)
                  · have g99 : ¬ 0 = j1 := fun q => h50 ((nI_eq (a := 0) (b := j1) (by omega) (by omega)).mpr q)
                    omega
                  · have g100 : 0 = j1 := (nI_eq (a := 0) (b := j1) (by omega) (by omega)).mp h50
                    refine w_aload_n (pc' := 54) rfl rfl rfl rfl ?_
                    refine w_getC (pc' := 57) rfl rfl rfl sh_153 rfl ?_
                    refine w_iload_n (pc' := 58) rfl rfl rfl ?_
                    refine w_iald (j := (j2)) (pc' := 59) rfl rfl sh_154 rfl (by omega) (by decide) ?_
                    rw [show m.1 154 j2 = nI (T.1 154 (j2)) from (rd_154 h _ :)]
                    have b101 : (T.1 154 (j2)) < 7 := hB 154 (j2)
                    refine w_goto (pc' := 64) rfl (by decide) ?_
                    refine w_iret rfl rfl rfl ?_
                    have hf : f_taken T (nI j2) (nI j1) = (nI ((T.1 154 (j2))), T) := by simp [f_taken, q_is_nI (n := 7) hj1 (by omega), nI_clamp (show j1 < 2 ^ 31 by omega), q_is_nI (n := T.1 153 0) hj2 (by omega), nI_clamp (show j2 < 2 ^ 31 by omega), e7, g88, g90, Nat.lt_of_not_le g90, g95, g97, Nat.lt_of_not_le g97, eq_true g98, eq_true g100, f_und, f_ab]
                    rw [hf]
                    exact ⟨rfl, h, hF⟩
                · have g102 : ¬ 0 = j1 := fun q => h33 ((nI_eq (a := 0) (b := j1) (by omega) (by omega)).mpr q)
                  refine w_iload_n (pc' := 37) rfl rfl rfl ?_
                  refine w_if_le (t := 48) (pc' := 40) rfl (by decide) rfl (fun h37 => ?_) (fun h37 => ?_)
                  · have g103 : 0 ≤ 0 := (nI_leI (a := 0) (b := 0) (by omega) (by omega)).mp h37
                    refine w_iload_n (pc' := 49) rfl rfl rfl ?_
                    refine w_iload_n (pc' := 50) rfl rfl rfl ?_
                    refine w_ic_ne (t := 62) (pc' := 53) rfl (by decide) rfl (fun h50 => ?_) (fun h50 => ?_)
                    · have g104 : ¬ 0 = j1 := fun q => h50 ((nI_eq (a := 0) (b := j1) (by omega) (by omega)).mpr q)
                      refine w_bipush (pc' := 64) (-12) rfl rfl bp_m12 ?_
                      refine w_iret rfl rfl rfl ?_
                      have hf : f_taken T (nI j2) (nI j1) = (-12, T) := by simp [f_taken, q_is_nI (n := 7) hj1 (by omega), nI_clamp (show j1 < 2 ^ 31 by omega), q_is_nI (n := T.1 153 0) hj2 (by omega), nI_clamp (show j2 < 2 ^ 31 by omega), e7, g88, g90, Nat.lt_of_not_le g90, g95, g97, Nat.lt_of_not_le g97, g102, g103, Nat.not_lt.mpr g103, g104, f_und, f_ab]
                      rw [hf]
                      exact ⟨rfl, h, hF⟩
                    · have g105 : 0 = j1 := (nI_eq (a := 0) (b := j1) (by omega) (by omega)).mp h50
                      omega
                  · exact absurd h37 (by decide)
      · rw [e7]
        refine w_iload_n (pc' := 32) rfl rfl rfl ?_
        refine w_iload_n (pc' := 33) rfl rfl rfl ?_
        refine w_ic_eq (t := 48) (pc' := 36) rfl (by decide) rfl (fun h33 => ?_) (fun h33 => ?_)
        · have g107 : 6 = j1 := (nI_eq (a := 6) (b := j1) (by omega) (by omega)).mp h33
          refine w_iload_n (pc' := 49) rfl rfl rfl ?_
          refine w_iload_n (pc' := 50) rfl rfl rfl ?_
          refine w_ic_ne (t := 62) (pc' := 53) rfl (by decide) rfl (fun h50 => ?_) (fun h50 => ?_)
          · have g108 : ¬ 6 = j1 := fun q => h50 ((nI_eq (a := 6) (b := j1) (by omega) (by omega)).mpr q)
            omega
          · have g109 : 6 = j1 := (nI_eq (a := 6) (b := j1) (by omega) (by omega)).mp h50
            refine w_aload_n (pc' := 54) rfl rfl rfl rfl ?_
            refine w_getC (pc' := 57) rfl rfl rfl sh_153 rfl ?_
            refine w_iload_n (pc' := 58) rfl rfl rfl ?_
            refine w_iald (j := (j2)) (pc' := 59) rfl rfl sh_154 rfl (by omega) (by decide) ?_
            rw [show m.1 154 j2 = nI (T.1 154 (j2)) from (rd_154 h _ :)]
            have b110 : (T.1 154 (j2)) < 7 := hB 154 (j2)
            refine w_goto (pc' := 64) rfl (by decide) ?_
            refine w_iret rfl rfl rfl ?_
            have hf : f_taken T (nI j2) (nI j1) = (nI ((T.1 154 (j2))), T) := by simp [f_taken, q_is_nI (n := 7) hj1 (by omega), nI_clamp (show j1 < 2 ^ 31 by omega), q_is_nI (n := T.1 153 0) hj2 (by omega), nI_clamp (show j2 < 2 ^ 31 by omega), e7, eq_true g107, eq_true g109, f_und, f_ab]
            rw [hf]
            exact ⟨rfl, h, hF⟩
        · have g111 : ¬ 6 = j1 := fun q => h33 ((nI_eq (a := 6) (b := j1) (by omega) (by omega)).mpr q)
          refine w_iload_n (pc' := 37) rfl rfl rfl ?_
          refine w_if_le (t := 48) (pc' := 40) rfl (by decide) rfl (fun h37 => ?_) (fun h37 => ?_)
          · exact absurd h37 (by decide)
          · have g113 : ¬ 6 ≤ 0 := fun q => h37 ((nI_leI (a := 6) (b := 0) (by omega) (by omega)).mpr q)
            refine w_iload_n (pc' := 41) rfl rfl rfl ?_
            refine w_cS1i (pc' := 44) (v_m_above xs _ (k := 6) (by omega)) (by decide) rfl rfl rfl (Or.inl rfl) (Nat.le_of_ble_eq_true rfl) (fun m' hm' => ?_)
            rw [show m' = m from hm']
            clear hm' m'
            rw [show f_ab 6 = 3 from rfl]
            refine w_ist3 (pc' := 45) rfl rfl rfl ?_
            refine w_goto (pc' := 31) rfl (by decide) ?_
            refine w_iload_n (pc' := 32) rfl rfl rfl ?_
            refine w_iload_n (pc' := 33) rfl rfl rfl ?_
            refine w_ic_eq (t := 48) (pc' := 36) rfl (by decide) rfl (fun h33 => ?_) (fun h33 => ?_)
            · have g114 : 3 = j1 := (nI_eq (a := 3) (b := j1) (by omega) (by omega)).mp h33
              refine w_iload_n (pc' := 49) rfl rfl rfl ?_
              refine w_iload_n (pc' := 50) rfl rfl rfl ?_
              refine w_ic_ne (t := 62) (pc' := 53) rfl (by decide) rfl (fun h50 => ?_) (fun h50 => ?_)
              · have g115 : ¬ 3 = j1 := fun q => h50 ((nI_eq (a := 3) (b := j1) (by omega) (by omega)).mpr q)
                omega
              · have g116 : 3 = j1 := (nI_eq (a := 3) (b := j1) (by omega) (by omega)).mp h50
                refine w_aload_n (pc' := 54) rfl rfl rfl rfl ?_
                refine w_getC (pc' := 57) rfl rfl rfl sh_153 rfl ?_
                refine w_iload_n (pc' := 58) rfl rfl rfl ?_
                refine w_iald (j := (j2)) (pc' := 59) rfl rfl sh_154 rfl (by omega) (by decide) ?_
                rw [show m.1 154 j2 = nI (T.1 154 (j2)) from (rd_154 h _ :)]
                have b117 : (T.1 154 (j2)) < 7 := hB 154 (j2)
                refine w_goto (pc' := 64) rfl (by decide) ?_
                refine w_iret rfl rfl rfl ?_
                have hf : f_taken T (nI j2) (nI j1) = (nI ((T.1 154 (j2))), T) := by simp [f_taken, q_is_nI (n := 7) hj1 (by omega), nI_clamp (show j1 < 2 ^ 31 by omega), q_is_nI (n := T.1 153 0) hj2 (by omega), nI_clamp (show j2 < 2 ^ 31 by omega), e7, g111, g113, Nat.lt_of_not_le g113, eq_true g114, eq_true g116, f_und, f_ab]
                rw [hf]
                exact ⟨rfl, h, hF⟩
            · have g118 : ¬ 3 = j1 := fun q => h33 ((nI_eq (a := 3) (b := j1) (by omega) (by omega)).mpr q)
              refine w_iload_n (pc' := 37) rfl rfl rfl ?_
              refine w_if_le (t := 48) (pc' := 40) rfl (by decide) rfl (fun h37 => ?_) (fun h37 => ?_)
              · exact absurd h37 (by decide)
              · have g120 : ¬ 3 ≤ 0 := fun q => h37 ((nI_leI (a := 3) (b := 0) (by omega) (by omega)).mpr q)
                refine w_iload_n (pc' := 41) rfl rfl rfl ?_
                refine w_cS1i (pc' := 44) (v_m_above xs _ (k := 3) (by omega)) (by decide) rfl rfl rfl (Or.inl rfl) (Nat.le_of_ble_eq_true rfl) (fun m' hm' => ?_)
                rw [show m' = m from hm']
                clear hm' m'
                rw [show f_ab 3 = 0 from rfl]
                refine w_ist3 (pc' := 45) rfl rfl rfl ?_
                refine w_goto (pc' := 31) rfl (by decide) ?_
                refine w_iload_n (pc' := 32) rfl rfl rfl ?_
                refine w_iload_n (pc' := 33) rfl rfl rfl ?_
                refine w_ic_eq (t := 48) (pc' := 36) rfl (by decide) rfl (fun h33 => ?_) (fun h33 => ?_)
                · have g121 : 0 = j1 := (nI_eq (a := 0) (b := j1) (by omega) (by omega)).mp h33
                  refine w_iload_n (pc' := 49) rfl rfl rfl ?_
                  refine w_iload_n (pc' := 50) rfl rfl rfl ?_
                  refine w_ic_ne (t := 62) (pc' := 53) rfl (by decide) rfl (fun h50 => ?_) (fun h50 => ?_)
                  · have g122 : ¬ 0 = j1 := fun q => h50 ((nI_eq (a := 0) (b := j1) (by omega) (by omega)).mpr q)
                    omega
                  · have g123 : 0 = j1 := (nI_eq (a := 0) (b := j1) (by omega) (by omega)).mp h50
                    refine w_aload_n (pc' := 54) rfl rfl rfl rfl ?_
                    refine w_getC (pc' := 57) rfl rfl rfl sh_153 rfl ?_
                    refine w_iload_n (pc' := 58) rfl rfl rfl ?_
                    refine w_iald (j := (j2)) (pc' := 59) rfl rfl sh_154 rfl (by omega) (by decide) ?_
                    rw [show m.1 154 j2 = nI (T.1 154 (j2)) from (rd_154 h _ :)]
                    have b124 : (T.1 154 (j2)) < 7 := hB 154 (j2)
                    refine w_goto (pc' := 64) rfl (by decide) ?_
                    refine w_iret rfl rfl rfl ?_
                    have hf : f_taken T (nI j2) (nI j1) = (nI ((T.1 154 (j2))), T) := by simp [f_taken, q_is_nI (n := 7) hj1 (by omega), nI_clamp (show j1 < 2 ^ 31 by omega), q_is_nI (n := T.1 153 0) hj2 (by omega), nI_clamp (show j2 < 2 ^ 31 by omega), e7, g111, g113, Nat.lt_of_not_le g113, g118, g120, Nat.lt_of_not_le g120, eq_true g121, eq_true g123, f_und, f_ab]
                    rw [hf]
                    exact ⟨rfl, h, hF⟩
                · have g125 : ¬ 0 = j1 := fun q => h33 ((nI_eq (a := 0) (b := j1) (by omega) (by omega)).mpr q)
                  refine w_iload_n (pc' := 37) rfl rfl rfl ?_
                  refine w_if_le (t := 48) (pc' := 40) rfl (by decide) rfl (fun h37 => ?_) (fun h37 => ?_)
                  · have g126 : 0 ≤ 0 := (nI_leI (a := 0) (b := 0) (by omega) (by omega)).mp h37
                    refine w_iload_n (pc' := 49) rfl rfl rfl ?_
                    refine w_iload_n (pc' := 50) rfl rfl rfl ?_
                    refine w_ic_ne (t := 62) (pc' := 53) rfl (by decide) rfl (fun h50 => ?_) (fun h50 => ?_)
                    · have g127 : ¬ 0 = j1 := fun q => h50 ((nI_eq (a := 0) (b := j1) (by omega) (by omega)).mpr q)
                      refine w_bipush (pc' := 64) (-12) rfl rfl bp_m12 ?_
                      refine w_iret rfl rfl rfl ?_
                      have hf : f_taken T (nI j2) (nI j1) = (-12, T) := by simp [f_taken, q_is_nI (n := 7) hj1 (by omega), nI_clamp (show j1 < 2 ^ 31 by omega), q_is_nI (n := T.1 153 0) hj2 (by omega), nI_clamp (show j2 < 2 ^ 31 by omega), e7, g111, g113, Nat.lt_of_not_le g113, g118, g120, Nat.lt_of_not_le g120, g125, g126, Nat.not_lt.mpr g126, g127, f_und, f_ab]
                      rw [hf]
                      exact ⟨rfl, h, hF⟩
                    · have g128 : 0 = j1 := (nI_eq (a := 0) (b := j1) (by omega) (by omega)).mp h50
                      omega
                  · exact absurd h37 (by decide)
    · have hN130 := bB_0.mp h18
      refine w_bipush (pc' := 23) (-11) rfl rfl bp_m11 ?_
      refine w_iret rfl rfl rfl ?_
      have hf : f_taken T d (nI j1) = (-11, T) := by simp [f_taken, q_is_nI (n := 7) hj1 (by omega), nI_clamp (show j1 < 2 ^ 31 by omega), hN130, f_und, f_ab]
      rw [hf]
      exact ⟨rfl, h, hF⟩
  · have hN131 := bB_0.mp h7
    refine w_bipush (pc' := 12) (-2) rfl rfl bp_m2 ?_
    refine w_iret rfl rfl rfl ?_
    have hf : f_taken T d k = (-2, T) := by simp [f_taken, hN131, f_und, f_ab]
    rw [hf]
    exact ⟨rfl, h, hF⟩
