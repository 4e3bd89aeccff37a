theorem winN {x : Int32} {n : Nat} (hn : n < 1000) (hq : q_is x n = false) (h1 : ¬ x < 0) (h2 : ¬ nI n ≤ x) : False := by
  obtain ⟨j, hj, rfl⟩ := nI_of (x := x) h1
  have e2 : ¬ n ≤ j := fun z => h2 ((nI_leI (a := n) (b := j) (by omega) hj).mpr z)
  rw [q_is_nI (n := n) (by omega) (by omega)] at hq
  exact absurd hq (by decide)
theorem shT {t : Nat} (h : t < 6) : am_sh[141 + 2 * t]? = some (.inr (.inr (5, [(0, .null), (0, .null), (3, .ref (142 + 2 * t))]))) := by
  rcases q_p6 h with rfl | rfl | rfl | rfl | rfl | rfl <;> rfl
theorem shTi {t : Nat} (h : t < 6) : am_sh[142 + 2 * t]? = some (.inl (.long, 60)) := by
  rcases q_p6 h with rfl | rfl | rfl | rfl | rfl | rfl <;> rfl
theorem drT {t : Nat} (ht : t < 6) : ([some 141, some 143, some 145, some 147, some 149, some 151] : List (Option Nat))[t]? = some (some (141 + 2 * t)) := by
  rcases q_p6 ht with rfl | rfl | rfl | rfl | rfl | rfl <;> rfl
set_option maxRecDepth 100000 in
set_option maxHeartbeats 4000000 in
theorem lp_klook (xs : List Int32) {T : q_T} {m : am_Mm} (hC : q_Rc T m) (hI : q_I T) : ∀ (r k : Nat), k + r = T.1 153 35 → am_P xs 3 k_looked 10 [some (.ref 0), some (.ref 100), some (.int (nI k))] [] m (am_qi (lk_go T r k) (· = m)) := by
  intro r
  induction r with
  | zero =>
    intro k hk
    have hY := hI.1.1
    have hB := hY.1
    have hl6 := hI.1.2.1
    have hn0 : T.1 153 0 < 7 := hB 153 0
    have b35 : T.1 153 35 < 9 := hB 153 35
    refine w_iload_n (pc' := 11) rfl rfl rfl ?_
    refine w_aload_n (pc' := 12) rfl rfl rfl rfl ?_
    refine w_getI (pc' := 15) rfl rfl rfl sh_100 rfl ?_
    have b1 : T.1 153 35 < 9 := hB 153 (35)
    rw [show m.1 100 4 = nI (T.1 153 35) from hC.2.2.1.2.2.2.2.1]
    refine w_ic_ge (t := 56) (pc' := 18) rfl (by decide) rfl (fun h15 => ?_) (fun h15 => ?_)
    · have g2 : (T.1 153 35) ≤ k := (nI_leI (a := (T.1 153 35)) (b := k) (by omega) (by omega)).mp h15
      refine w_bipush (pc' := 58) (-5) rfl rfl bp_m5 ?_
      refine w_iret rfl rfl rfl ?_
      exact ⟨rfl, rfl⟩
    · have g3 : ¬ (T.1 153 35) ≤ k := fun q => h15 ((nI_leI (a := (T.1 153 35)) (b := k) (by omega) (by omega)).mpr q)
      omega
  | succ r ih =>
    intro k hk
    have hY := hI.1.1
    have hB := hY.1
    have hl6 := hI.1.2.1
    have hn0 : T.1 153 0 < 7 := hB 153 0
    have b35 : T.1 153 35 < 9 := hB 153 35
    refine w_iload_n (pc' := 11) rfl rfl rfl ?_
    refine w_aload_n (pc' := 12) rfl rfl rfl rfl ?_
    refine w_getI (pc' := 15) rfl rfl rfl sh_100 rfl ?_
    have b1 : T.1 153 35 < 9 := hB 153 (35)
    rw [show m.1 100 4 = nI (T.1 153 35) from hC.2.2.1.2.2.2.2.1]
    refine w_ic_ge (t := 56) (pc' := 18) rfl (by decide) rfl (fun h15 => ?_) (fun h15 => ?_)
    · have g2 : (T.1 153 35) ≤ k := (nI_leI (a := (T.1 153 35)) (b := k) (by omega) (by omega)).mp h15
      omega
    · have g3 : ¬ (T.1 153 35) ≤ k := fun q => h15 ((nI_leI (a := (T.1 153 35)) (b := k) (by omega) (by omega)).mpr q)
      refine w_iload_n (pc' := 19) rfl rfl rfl ?_
      refine w_aload_n (pc' := 20) rfl rfl rfl rfl ?_
      refine w_getC (pc' := 23) rfl rfl rfl sh_100 rfl ?_
      refine w_ic_ge (t := 56) (pc' := 26) rfl (by decide) rfl (fun h23 => ?_) (fun h23 => ?_)
      · have g4 : 8 ≤ k := (nI_leI (a := 8) (b := k) (by omega) (by omega)).mp h23
        omega
      · have g5 : ¬ 8 ≤ k := fun q => h23 ((nI_leI (a := 8) (b := k) (by omega) (by omega)).mpr q)
        refine w_aload_n (pc' := 27) rfl rfl rfl rfl ?_
        refine w_getC (pc' := 30) rfl rfl rfl sh_0 rfl ?_
        refine w_aload_n (pc' := 31) rfl rfl rfl rfl ?_
        refine w_getC (pc' := 34) rfl rfl rfl sh_100 rfl ?_
        refine w_iload_n (pc' := 35) rfl rfl rfl ?_
        refine w_iald (j := (k)) (pc' := 36) rfl rfl sh_101 rfl (by omega) (by decide) ?_
        rw [show m.1 101 k = nI (T.1 176 k) from (hC.2.2.1.2.2.2.2.2 k (by omega)).1]
        have b6 : T.1 176 k < 16 := hB 176 (k)
        refine w_cV1i (pc' := 39) (v_la_markAt xs q_L1 hC.1 (i := T.1 176 k) (by omega)) (by decide) rfl rfl rfl (Nat.le_of_ble_eq_true rfl) (shL q_L1) rfl (fun m' hm' => ?_)
        rw [show m' = m from hm']
        clear hm' m'
        have bm8 : T.1 162 (T.1 176 k) < 8 := hB 162 _
        refine w_aload_n (pc' := 40) rfl rfl rfl rfl ?_
        refine w_getC (pc' := 43) rfl rfl rfl sh_100 rfl ?_
        refine w_iload_n (pc' := 44) rfl rfl rfl ?_
        refine w_iald (j := (k)) (pc' := 45) rfl rfl sh_102 rfl (by omega) (by decide) ?_
        rw [show m.1 102 k = nI (T.1 177 k) from (hC.2.2.1.2.2.2.2.2 k (by omega)).2]
        have b7 : T.1 177 k < 8 := hB 177 (k)
        refine w_ic_eq (t := 50) (pc' := 48) rfl (by decide) rfl (fun h45 => ?_) (fun h45 => ?_)
        · have g8 : (T.1 162 (T.1 176 k)) = (T.1 177 k) := (nI_eq (a := (T.1 162 (T.1 176 k))) (b := (T.1 177 k)) (by omega) (by omega)).mp h45
          refine w_iinc2 (pc' := 53) 1 rfl rfl ic_1 rfl ?_
          rw [nI_inc]
          refine w_goto (pc' := 10) rfl (by decide) ?_
          rw [show lk_go T (r + 1) k = lk_go T r (k + 1) from if_pos (by omega)]
          exact ih (k + 1) (by omega)
        · have g9 : ¬ (T.1 162 (T.1 176 k)) = (T.1 177 k) := fun q => h45 ((nI_eq (a := (T.1 162 (T.1 176 k))) (b := (T.1 177 k)) (by omega) (by omega)).mpr q)
          refine w_iload_n (pc' := 49) rfl rfl rfl ?_
          refine w_iret rfl rfl rfl ?_
          rw [show lk_go T (r + 1) k = nI k from if_neg (by omega)]
          exact ⟨rfl, rfl⟩
set_option maxRecDepth 100000 in
set_option maxHeartbeats 4000000 in
theorem v_k_looked (xs : List Int32) {T : q_T} {m : am_Mm} (hC : q_Rc T m) (hI : q_I T) : am_V xs 4 113 [.ref 0] m (am_qi (f_looked T).1 (q_Q (f_looked T).2 m)) := by
  have hY := hI.1.1
  have hB := hY.1
  have hl6 := hI.1.2.1
  have hn0 : T.1 153 0 < 7 := hB 153 0
  refine am_V_of ky_113 (Nat.le_of_ble_eq_true rfl) ?_
  show am_P xs 3 k_looked 0 [some (.ref 0), none, none] [] m _
  refine w_aload_n (pc' := 1) rfl rfl rfl rfl ?_
  refine w_getC (pc' := 4) rfl rfl rfl sh_0 rfl ?_
  refine w_getC (pc' := 7) rfl rfl rfl sh_91 rfl ?_
  refine w_ast1 (pc' := 8) rfl rfl rfl rfl ?_
  refine w_iconst (pc' := 9) 0 rfl rfl ic_0 ?_
  refine w_ist2 (pc' := 10) rfl rfl rfl ?_
  exact (lp_klook xs hC hI (T.1 153 35) 0 (by omega)).mono (fun v m2 h2 => ⟨h2.1, by rw [show m2 = m from h2.2]; exact hC.Q hI q_Fq.rf⟩)
set_option maxRecDepth 100000 in
set_option maxHeartbeats 4000000 in
theorem v_ab0 (xs : List Int32) (m : am_Mm) : am_V xs 1 125 [.int 0] m (am_qi (-1) (· = m)) := by
  refine am_V_of ky_125 (Nat.le_of_ble_eq_true rfl) ?_
  show am_P xs 0 k_aboveOf 0 [some (.int 0)] [] m _
  refine w_iload_n (pc' := 1) rfl rfl rfl ?_
  refine w_if_lt (t := 18) (pc' := 4) rfl (by decide) rfl (fun h1 => ?_) (fun h1 => ?_)
  · exact absurd h1 (by decide)
  · refine w_iload_n (pc' := 5) rfl rfl rfl ?_
    refine w_bipush (pc' := 7) 7 rfl rfl bp_7 ?_
    refine w_ic_ge (t := 18) (pc' := 10) rfl (by decide) rfl (fun h7 => ?_) (fun h7 => ?_)
    · exact absurd h7 (by decide)
    · refine w_gets (sid := 0) (pc' := 13) rfl rfl (fun _ => rfl) ?_
      refine w_iload_n (pc' := 14) rfl rfl rfl ?_
      refine w_ialdR (j := 0) (pc' := 15) rfl rfl (by decide) rfl rfl rfl (by omega) ?_
      skip
      refine w_goto (pc' := 19) rfl (by decide) ?_
      refine w_iret rfl rfl rfl ?_
      exact ⟨rfl, rfl⟩
set_option maxRecDepth 100000 in
set_option maxHeartbeats 4000000 in
theorem v_ab1 (xs : List Int32) (m : am_Mm) : am_V xs 1 125 [.int 1] m (am_qi (0) (· = m)) := by
  refine am_V_of ky_125 (Nat.le_of_ble_eq_true rfl) ?_
  show am_P xs 0 k_aboveOf 0 [some (.int 1)] [] m _
  refine w_iload_n (pc' := 1) rfl rfl rfl ?_
  refine w_if_lt (t := 18) (pc' := 4) rfl (by decide) rfl (fun h1 => ?_) (fun h1 => ?_)
  · exact absurd h1 (by decide)
  · refine w_iload_n (pc' := 5) rfl rfl rfl ?_
    refine w_bipush (pc' := 7) 7 rfl rfl bp_7 ?_
    refine w_ic_ge (t := 18) (pc' := 10) rfl (by decide) rfl (fun h7 => ?_) (fun h7 => ?_)
    · exact absurd h7 (by decide)
    · refine w_gets (sid := 0) (pc' := 13) rfl rfl (fun _ => rfl) ?_
      refine w_iload_n (pc' := 14) rfl rfl rfl ?_
      refine w_ialdR (j := 1) (pc' := 15) rfl rfl (by decide) rfl rfl rfl (by omega) ?_
      skip
      refine w_goto (pc' := 19) rfl (by decide) ?_
      refine w_iret rfl rfl rfl ?_
      exact ⟨rfl, rfl⟩
set_option maxRecDepth 100000 in
set_option maxHeartbeats 4000000 in
theorem v_ab2 (xs : List Int32) (m : am_Mm) : am_V xs 1 125 [.int 2] m (am_qi (0) (· = m)) := by
  refine am_V_of ky_125 (Nat.le_of_ble_eq_true rfl) ?_
  show am_P xs 0 k_aboveOf 0 [some (.int 2)] [] m _
  refine w_iload_n (pc' := 1) rfl rfl rfl ?_
  refine w_if_lt (t := 18) (pc' := 4) rfl (by decide) rfl (fun h1 => ?_) (fun h1 => ?_)
  · exact absurd h1 (by decide)
  · refine w_iload_n (pc' := 5) rfl rfl rfl ?_
    refine w_bipush (pc' := 7) 7 rfl rfl bp_7 ?_
    refine w_ic_ge (t := 18) (pc' := 10) rfl (by decide) rfl (fun h7 => ?_) (fun h7 => ?_)
    · exact absurd h7 (by decide)
    · refine w_gets (sid := 0) (pc' := 13) rfl rfl (fun _ => rfl) ?_
      refine w_iload_n (pc' := 14) rfl rfl rfl ?_
      refine w_ialdR (j := 2) (pc' := 15) rfl rfl (by decide) rfl rfl rfl (by omega) ?_
      skip
      refine w_goto (pc' := 19) rfl (by decide) ?_
      refine w_iret rfl rfl rfl ?_
      exact ⟨rfl, rfl⟩
set_option maxRecDepth 100000 in
set_option maxHeartbeats 4000000 in
theorem v_ab3 (xs : List Int32) (m : am_Mm) : am_V xs 1 125 [.int 3] m (am_qi (0) (· = m)) := by
  refine am_V_of ky_125 (Nat.le_of_ble_eq_true rfl) ?_
  show am_P xs 0 k_aboveOf 0 [some (.int 3)] [] m _
  refine w_iload_n (pc' := 1) rfl rfl rfl ?_
  refine w_if_lt (t := 18) (pc' := 4) rfl (by decide) rfl (fun h1 => ?_) (fun h1 => ?_)
  · exact absurd h1 (by decide)
  · refine w_iload_n (pc' := 5) rfl rfl rfl ?_
    refine w_bipush (pc' := 7) 7 rfl rfl bp_7 ?_
    refine w_ic_ge (t := 18) (pc' := 10) rfl (by decide) rfl (fun h7 => ?_) (fun h7 => ?_)
    · exact absurd h7 (by decide)
    · refine w_gets (sid := 0) (pc' := 13) rfl rfl (fun _ => rfl) ?_
      refine w_iload_n (pc' := 14) rfl rfl rfl ?_
      refine w_ialdR (j := 3) (pc' := 15) rfl rfl (by decide) rfl rfl rfl (by omega) ?_
      skip
      refine w_goto (pc' := 19) rfl (by decide) ?_
      refine w_iret rfl rfl rfl ?_
      exact ⟨rfl, rfl⟩
set_option maxRecDepth 100000 in
set_option maxHeartbeats 4000000 in
theorem v_ab4 (xs : List Int32) (m : am_Mm) : am_V xs 1 125 [.int 4] m (am_qi (1) (· = m)) := by
  refine am_V_of ky_125 (Nat.le_of_ble_eq_true rfl) ?_
  show am_P xs 0 k_aboveOf 0 [some (.int 4)] [] m _
  refine w_iload_n (pc' := 1) rfl rfl rfl ?_
  refine w_if_lt (t := 18) (pc' := 4) rfl (by decide) rfl (fun h1 => ?_) (fun h1 => ?_)
  · exact absurd h1 (by decide)
  · refine w_iload_n (pc' := 5) rfl rfl rfl ?_
    refine w_bipush (pc' := 7) 7 rfl rfl bp_7 ?_
    refine w_ic_ge (t := 18) (pc' := 10) rfl (by decide) rfl (fun h7 => ?_) (fun h7 => ?_)
    · exact absurd h7 (by decide)
    · refine w_gets (sid := 0) (pc' := 13) rfl rfl (fun _ => rfl) ?_
      refine w_iload_n (pc' := 14) rfl rfl rfl ?_
      refine w_ialdR (j := 4) (pc' := 15) rfl rfl (by decide) rfl rfl rfl (by omega) ?_
      skip
      refine w_goto (pc' := 19) rfl (by decide) ?_
      refine w_iret rfl rfl rfl ?_
      exact ⟨rfl, rfl⟩
set_option maxRecDepth 100000 in
set_option maxHeartbeats 4000000 in
theorem v_ab5 (xs : List Int32) (m : am_Mm) : am_V xs 1 125 [.int 5] m (am_qi (2) (· = m)) := by
  refine am_V_of ky_125 (Nat.le_of_ble_eq_true rfl) ?_
  show am_P xs 0 k_aboveOf 0 [some (.int 5)] [] m _
  refine w_iload_n (pc' := 1) rfl rfl rfl ?_
  refine w_if_lt (t := 18) (pc' := 4) rfl (by decide) rfl (fun h1 => ?_) (fun h1 => ?_)
  · exact absurd h1 (by decide)
  · refine w_iload_n (pc' := 5) rfl rfl rfl ?_
    refine w_bipush (pc' := 7) 7 rfl rfl bp_7 ?_
    refine w_ic_ge (t := 18) (pc' := 10) rfl (by decide) rfl (fun h7 => ?_) (fun h7 => ?_)
    · exact absurd h7 (by decide)
    · refine w_gets (sid := 0) (pc' := 13) rfl rfl (fun _ => rfl) ?_
      refine w_iload_n (pc' := 14) rfl rfl rfl ?_
      refine w_ialdR (j := 5) (pc' := 15) rfl rfl (by decide) rfl rfl rfl (by omega) ?_
      skip
      refine w_goto (pc' := 19) rfl (by decide) ?_
      refine w_iret rfl rfl rfl ?_
      exact ⟨rfl, rfl⟩
set_option maxRecDepth 100000 in
set_option maxHeartbeats 4000000 in
theorem v_ab6 (xs : List Int32) (m : am_Mm) : am_V xs 1 125 [.int 6] m (am_qi (3) (· = m)) := by
  refine am_V_of ky_125 (Nat.le_of_ble_eq_true rfl) ?_
  show am_P xs 0 k_aboveOf 0 [some (.int 6)] [] m _
  refine w_iload_n (pc' := 1) rfl rfl rfl ?_
  refine w_if_lt (t := 18) (pc' := 4) rfl (by decide) rfl (fun h1 => ?_) (fun h1 => ?_)
  · exact absurd h1 (by decide)
  · refine w_iload_n (pc' := 5) rfl rfl rfl ?_
    refine w_bipush (pc' := 7) 7 rfl rfl bp_7 ?_
    refine w_ic_ge (t := 18) (pc' := 10) rfl (by decide) rfl (fun h7 => ?_) (fun h7 => ?_)
    · exact absurd h7 (by decide)
    · refine w_gets (sid := 0) (pc' := 13) rfl rfl (fun _ => rfl) ?_
      refine w_iload_n (pc' := 14) rfl rfl rfl ?_
      refine w_ialdR (j := 6) (pc' := 15) rfl rfl (by decide) rfl rfl rfl (by omega) ?_
      skip
      refine w_goto (pc' := 19) rfl (by decide) ?_
      refine w_iret rfl rfl rfl ?_
      exact ⟨rfl, rfl⟩
set_option maxRecDepth 100000 in
set_option maxHeartbeats 4000000 in
theorem v_under0 (xs : List Int32) (m : am_Mm) {b : Nat} (hb : b < 7) : am_V xs 2 130 [.int 0, .int (nI b)] m (am_qi (bB (f_und 0 b)) (· = m)) := by
  refine am_V_of ky_130 (Nat.le_of_ble_eq_true rfl) ?_
  show am_P xs 1 k_isUnder 0 [some (.int 0), some (.int (nI b)), none, none] [] m _
  refine w_iload_n (pc' := 1) rfl rfl rfl ?_
  refine w_ist2 (pc' := 2) rfl rfl rfl ?_
  refine w_iconst (pc' := 3) 0 rfl rfl ic_0 ?_
  refine w_ist3 (pc' := 4) rfl rfl rfl ?_
  refine w_iload_n (pc' := 5) rfl rfl rfl ?_
  refine w_bipush (pc' := 7) 7 rfl rfl bp_7 ?_
  refine w_ic_ge (t := 32) (pc' := 10) rfl (by decide) rfl (fun h7 => ?_) (fun h7 => ?_)
  · exact absurd h7 (by decide)
  · refine w_iload_n (pc' := 11) rfl rfl rfl ?_
    refine w_if_lt (t := 32) (pc' := 14) rfl (by decide) rfl (fun h11 => ?_) (fun h11 => ?_)
    · exact absurd h11 (by decide)
    · refine w_iload_n (pc' := 15) rfl rfl rfl ?_
      refine w_iload_n (pc' := 16) rfl rfl rfl ?_
      refine w_ic_ne (t := 21) (pc' := 19) rfl (by decide) rfl (fun h16 => ?_) (fun h16 => ?_)
      · have g1 : ¬ 0 = b := fun q => h16 ((nI_eq (a := 0) (b := b) (by omega) (by omega)).mpr q)
        refine w_iload_n (pc' := 22) rfl rfl rfl ?_
        refine w_cS1i (pc' := 25) (v_ab0 xs m) (by decide) rfl rfl rfl (Or.inl rfl) (Nat.le_of_ble_eq_true rfl) (fun m' hm' => ?_)
        rw [show m' = m from hm']
        clear hm' m'
        refine w_ist2 (pc' := 26) rfl rfl rfl ?_
        refine w_iinc3 (pc' := 29) 1 rfl rfl ic_1 rfl ?_
        rw [show (0 : Int32) + Int32.ofInt 1 = 1 from by decide]
        refine w_goto (pc' := 4) rfl (by decide) ?_
        refine w_iload_n (pc' := 5) rfl rfl rfl ?_
        refine w_bipush (pc' := 7) 7 rfl rfl bp_7 ?_
        refine w_ic_ge (t := 32) (pc' := 10) rfl (by decide) rfl (fun h7 => ?_) (fun h7 => ?_)
        · exact absurd h7 (by decide)
        · refine w_iload_n (pc' := 11) rfl rfl rfl ?_
          refine w_if_lt (t := 32) (pc' := 14) rfl (by decide) rfl (fun h11 => ?_) (fun h11 => ?_)
          · refine w_iconst (pc' := 33) 0 rfl rfl ic_0 ?_
            refine w_iret rfl rfl (by first | rfl | exact am_nbB _) ?_
            rw [show f_und 0 b = false by simp [f_und, f_ab, g1]]
            exact ⟨rfl, rfl⟩
          · exact absurd h11 (by decide)
      · have g2 : 0 = b := (nI_eq (a := 0) (b := b) (by omega) (by omega)).mp h16
        refine w_iconst (pc' := 20) 1 rfl rfl ic_1 ?_
        refine w_iret rfl rfl (by first | rfl | exact am_nbB _) ?_
        rw [show f_und 0 b = true by simp [f_und, f_ab, eq_true g2, Eq.symm g2]]
        exact ⟨rfl, rfl⟩
set_option maxRecDepth 100000 in
set_option maxHeartbeats 4000000 in
theorem v_under1 (xs : List Int32) (m : am_Mm) {b : Nat} (hb : b < 7) : am_V xs 2 130 [.int 1, .int (nI b)] m (am_qi (bB (f_und 1 b)) (· = m)) := by
  refine am_V_of ky_130 (Nat.le_of_ble_eq_true rfl) ?_
  show am_P xs 1 k_isUnder 0 [some (.int 1), some (.int (nI b)), none, none] [] m _
  refine w_iload_n (pc' := 1) rfl rfl rfl ?_
  refine w_ist2 (pc' := 2) rfl rfl rfl ?_
  refine w_iconst (pc' := 3) 0 rfl rfl ic_0 ?_
  refine w_ist3 (pc' := 4) rfl rfl rfl ?_
  refine w_iload_n (pc' := 5) rfl rfl rfl ?_
  refine w_bipush (pc' := 7) 7 rfl rfl bp_7 ?_
  refine w_ic_ge (t := 32) (pc' := 10) rfl (by decide) rfl (fun h7 => ?_) (fun h7 => ?_)
  · exact absurd h7 (by decide)
  · refine w_iload_n (pc' := 11) rfl rfl rfl ?_
    refine w_if_lt (t := 32) (pc' := 14) rfl (by decide) rfl (fun h11 => ?_) (fun h11 => ?_)
    · exact absurd h11 (by decide)
    · refine w_iload_n (pc' := 15) rfl rfl rfl ?_
      refine w_iload_n (pc' := 16) rfl rfl rfl ?_
      refine w_ic_ne (t := 21) (pc' := 19) rfl (by decide) rfl (fun h16 => ?_) (fun h16 => ?_)
      · have g1 : ¬ 1 = b := fun q => h16 ((nI_eq (a := 1) (b := b) (by omega) (by omega)).mpr q)
        refine w_iload_n (pc' := 22) rfl rfl rfl ?_
        refine w_cS1i (pc' := 25) (v_ab1 xs m) (by decide) rfl rfl rfl (Or.inl rfl) (Nat.le_of_ble_eq_true rfl) (fun m' hm' => ?_)
        rw [show m' = m from hm']
        clear hm' m'
        refine w_ist2 (pc' := 26) rfl rfl rfl ?_
        refine w_iinc3 (pc' := 29) 1 rfl rfl ic_1 rfl ?_
        rw [show (0 : Int32) + Int32.ofInt 1 = 1 from by decide]
        refine w_goto (pc' := 4) rfl (by decide) ?_
        refine w_iload_n (pc' := 5) rfl rfl rfl ?_
        refine w_bipush (pc' := 7) 7 rfl rfl bp_7 ?_
        refine w_ic_ge (t := 32) (pc' := 10) rfl (by decide) rfl (fun h7 => ?_) (fun h7 => ?_)
        · exact absurd h7 (by decide)
        · refine w_iload_n (pc' := 11) rfl rfl rfl ?_
          refine w_if_lt (t := 32) (pc' := 14) rfl (by decide) rfl (fun h11 => ?_) (fun h11 => ?_)
          · exact absurd h11 (by decide)
          · refine w_iload_n (pc' := 15) rfl rfl rfl ?_
            refine w_iload_n (pc' := 16) rfl rfl rfl ?_
            refine w_ic_ne (t := 21) (pc' := 19) rfl (by decide) rfl (fun h16 => ?_) (fun h16 => ?_)
            · have g2 : ¬ 0 = b := fun q => h16 ((nI_eq (a := 0) (b := b) (by omega) (by omega)).mpr q)
              refine w_iload_n (pc' := 22) rfl rfl rfl ?_
              refine w_cS1i (pc' := 25) (v_ab0 xs m) (by decide) rfl rfl rfl (Or.inl rfl) (Nat.le_of_ble_eq_true rfl) (fun m' hm' => ?_)
              rw [show m' = m from hm']
              clear hm' m'
              refine w_ist2 (pc' := 26) rfl rfl rfl ?_
              refine w_iinc3 (pc' := 29) 1 rfl rfl ic_1 rfl ?_
              rw [show (1 : Int32) + Int32.ofInt 1 = 2 from by decide]
              refine w_goto (pc' := 4) rfl (by decide) ?_
              refine w_iload_n (pc' := 5) rfl rfl rfl ?_
              refine w_bipush (pc' := 7) 7 rfl rfl bp_7 ?_
              refine w_ic_ge (t := 32) (pc' := 10) rfl (by decide) rfl (fun h7 => ?_) (fun h7 => ?_)
              · exact absurd h7 (by decide)
              · refine w_iload_n (pc' := 11) rfl rfl rfl ?_
                refine w_if_lt (t := 32) (pc' := 14) rfl (by decide) rfl (fun h11 => ?_) (fun h11 => ?_)
                · refine w_iconst (pc' := 33) 0 rfl rfl ic_0 ?_
                  refine w_iret rfl rfl (by first | rfl | exact am_nbB _) ?_
                  rw [show f_und 1 b = false by simp [f_und, f_ab, g1, g2]]
                  exact ⟨rfl, rfl⟩
                · exact absurd h11 (by decide)
            · have g3 : 0 = b := (nI_eq (a := 0) (b := b) (by omega) (by omega)).mp h16
              refine w_iconst (pc' := 20) 1 rfl rfl ic_1 ?_
              refine w_iret rfl rfl (by first | rfl | exact am_nbB _) ?_
              rw [show f_und 1 b = true by simp [f_und, f_ab, g1, eq_true g3, Eq.symm g3]]
              exact ⟨rfl, rfl⟩
      · have g4 : 1 = b := (nI_eq (a := 1) (b := b) (by omega) (by omega)).mp h16
        refine w_iconst (pc' := 20) 1 rfl rfl ic_1 ?_
        refine w_iret rfl rfl (by first | rfl | exact am_nbB _) ?_
        rw [show f_und 1 b = true by simp [f_und, f_ab, eq_true g4, Eq.symm g4]]
        exact ⟨rfl, rfl⟩
set_option maxRecDepth 100000 in
set_option maxHeartbeats 4000000 in
theorem v_under2 (xs : List Int32) (m : am_Mm) {b : Nat} (hb : b < 7) : am_V xs 2 130 [.int 2, .int (nI b)] m (am_qi (bB (f_und 2 b)) (· = m)) := by
  refine am_V_of ky_130 (Nat.le_of_ble_eq_true rfl) ?_
  show am_P xs 1 k_isUnder 0 [some (.int 2), some (.int (nI b)), none, none] [] m _
  refine w_iload_n (pc' := 1) rfl rfl rfl ?_
  refine w_ist2 (pc' := 2) rfl rfl rfl ?_
  refine w_iconst (pc' := 3) 0 rfl rfl ic_0 ?_
  refine w_ist3 (pc' := 4) rfl rfl rfl ?_
  refine w_iload_n (pc' := 5) rfl rfl rfl ?_
  refine w_bipush (pc' := 7) 7 rfl rfl bp_7 ?_
  refine w_ic_ge (t := 32) (pc' := 10) rfl (by decide) rfl (fun h7 => ?_) (fun h7 => ?_)
  · exact absurd h7 (by decide)
  · refine w_iload_n (pc' := 11) rfl rfl rfl ?_
    refine w_if_lt (t := 32) (pc' := 14) rfl (by decide) rfl (fun h11 => ?_) (fun h11 => ?_)
    · exact absurd h11 (by decide)
    · refine w_iload_n (pc' := 15) rfl rfl rfl ?_
      refine w_iload_n (pc' := 16) rfl rfl rfl ?_
      refine w_ic_ne (t := 21) (pc' := 19) rfl (by decide) rfl (fun h16 => ?_) (fun h16 => ?_)
      · have g1 : ¬ 2 = b := fun q => h16 ((nI_eq (a := 2) (b := b) (by omega) (by omega)).mpr q)
        refine w_iload_n (pc' := 22) rfl rfl rfl ?_
        refine w_cS1i (pc' := 25) (v_ab2 xs m) (by decide) rfl rfl rfl (Or.inl rfl) (Nat.le_of_ble_eq_true rfl) (fun m' hm' => ?_)
        rw [show m' = m from hm']
        clear hm' m'
        refine w_ist2 (pc' := 26) rfl rfl rfl ?_
        refine w_iinc3 (pc' := 29) 1 rfl rfl ic_1 rfl ?_
        rw [show (0 : Int32) + Int32.ofInt 1 = 1 from by decide]
        refine w_goto (pc' := 4) rfl (by decide) ?_
        refine w_iload_n (pc' := 5) rfl rfl rfl ?_
        refine w_bipush (pc' := 7) 7 rfl rfl bp_7 ?_
        refine w_ic_ge (t := 32) (pc' := 10) rfl (by decide) rfl (fun h7 => ?_) (fun h7 => ?_)
        · exact absurd h7 (by decide)
        · refine w_iload_n (pc' := 11) rfl rfl rfl ?_
          refine w_if_lt (t := 32) (pc' := 14) rfl (by decide) rfl (fun h11 => ?_) (fun h11 => ?_)
          · exact absurd h11 (by decide)
          · refine w_iload_n (pc' := 15) rfl rfl rfl ?_
            refine w_iload_n (pc' := 16) rfl rfl rfl ?_
            refine w_ic_ne (t := 21) (pc' := 19) rfl (by decide) rfl (fun h16 => ?_) (fun h16 => ?_)
            · have g2 : ¬ 0 = b := fun q => h16 ((nI_eq (a := 0) (b := b) (by omega) (by omega)).mpr q)
              refine w_iload_n (pc' := 22) rfl rfl rfl ?_
              refine w_cS1i (pc' := 25) (v_ab0 xs m) (by decide) rfl rfl rfl (Or.inl rfl) (Nat.le_of_ble_eq_true rfl) (fun m' hm' => ?_)
              rw [show m' = m from hm']
              clear hm' m'
              refine w_ist2 (pc' := 26) rfl rfl rfl ?_
              refine w_iinc3 (pc' := 29) 1 rfl rfl ic_1 rfl ?_
              rw [show (1 : Int32) + Int32.ofInt 1 = 2 from by decide]
              refine w_goto (pc' := 4) rfl (by decide) ?_
              refine w_iload_n (pc' := 5) rfl rfl rfl ?_
              refine w_bipush (pc' := 7) 7 rfl rfl bp_7 ?_
              refine w_ic_ge (t := 32) (pc' := 10) rfl (by decide) rfl (fun h7 => ?_) (fun h7 => ?_)
              · exact absurd h7 (by decide)
              · refine w_iload_n (pc' := 11) rfl rfl rfl ?_
                refine w_if_lt (t := 32) (pc' := 14) rfl (by decide) rfl (fun h11 => ?_) (fun h11 => ?_)
                · refine w_iconst (pc' := 33) 0 rfl rfl ic_0 ?_
                  refine w_iret rfl rfl (by first | rfl | exact am_nbB _) ?_
                  rw [show f_und 2 b = false by simp [f_und, f_ab, g1, g2]]
                  exact ⟨rfl, rfl⟩
                · exact absurd h11 (by decide)
            · have g3 : 0 = b := (nI_eq (a := 0) (b := b) (by omega) (by omega)).mp h16
              refine w_iconst (pc' := 20) 1 rfl rfl ic_1 ?_
              refine w_iret rfl rfl (by first | rfl | exact am_nbB _) ?_
              rw [show f_und 2 b = true by simp [f_und, f_ab, g1, eq_true g3, Eq.symm g3]]
              exact ⟨rfl, rfl⟩
      · have g4 : 2 = b := (nI_eq (a := 2) (b := b) (by omega) (by omega)).mp h16
        refine w_iconst (pc' := 20) 1 rfl rfl ic_1 ?_
        refine w_iret rfl rfl (by first | rfl | exact am_nbB _) ?_
        rw [show f_und 2 b = true by simp [f_und, f_ab, eq_true g4, Eq.symm g4]]
        exact ⟨rfl, rfl⟩
set_option maxRecDepth 100000 in
set_option maxHeartbeats 4000000 in
theorem v_under3 (xs : List Int32) (m : am_Mm) {b : Nat} (hb : b < 7) : am_V xs 2 130 [.int 3, .int (nI b)] m (am_qi (bB (f_und 3 b)) (· = m)) := by
  refine am_V_of ky_130 (Nat.le_of_ble_eq_true rfl) ?_
  show am_P xs 1 k_isUnder 0 [some (.int 3), some (.int (nI b)), none, none] [] m _
  refine w_iload_n (pc' := 1) rfl rfl rfl ?_
  refine w_ist2 (pc' := 2) rfl rfl rfl ?_
  refine w_iconst (pc' := 3) 0 rfl rfl ic_0 ?_
  refine w_ist3 (pc' := 4) rfl rfl rfl ?_
  refine w_iload_n (pc' := 5) rfl rfl rfl ?_
  refine w_bipush (pc' := 7) 7 rfl rfl bp_7 ?_
  refine w_ic_ge (t := 32) (pc' := 10) rfl (by decide) rfl (fun h7 => ?_) (fun h7 => ?_)
  · exact absurd h7 (by decide)
  · refine w_iload_n (pc' := 11) rfl rfl rfl ?_
    refine w_if_lt (t := 32) (pc' := 14) rfl (by decide) rfl (fun h11 => ?_) (fun h11 => ?_)
    · exact absurd h11 (by decide)
    · refine w_iload_n (pc' := 15) rfl rfl rfl ?_
      refine w_iload_n (pc' := 16) rfl rfl rfl ?_
      refine w_ic_ne (t := 21) (pc' := 19) rfl (by decide) rfl (fun h16 => ?_) (fun h16 => ?_)
      · have g1 : ¬ 3 = b := fun q => h16 ((nI_eq (a := 3) (b := b) (by omega) (by omega)).mpr q)
        refine w_iload_n (pc' := 22) rfl rfl rfl ?_
        refine w_cS1i (pc' := 25) (v_ab3 xs m) (by decide) rfl rfl rfl (Or.inl rfl) (Nat.le_of_ble_eq_true rfl) (fun m' hm' => ?_)
        rw [show m' = m from hm']
        clear hm' m'
        refine w_ist2 (pc' := 26) rfl rfl rfl ?_
        refine w_iinc3 (pc' := 29) 1 rfl rfl ic_1 rfl ?_
        rw [show (0 : Int32) + Int32.ofInt 1 = 1 from by decide]
        refine w_goto (pc' := 4) rfl (by decide) ?_
        refine w_iload_n (pc' := 5) rfl rfl rfl ?_
        refine w_bipush (pc' := 7) 7 rfl rfl bp_7 ?_
        refine w_ic_ge (t := 32) (pc' := 10) rfl (by decide) rfl (fun h7 => ?_) (fun h7 => ?_)
        · exact absurd h7 (by decide)
        · refine w_iload_n (pc' := 11) rfl rfl rfl ?_
          refine w_if_lt (t := 32) (pc' := 14) rfl (by decide) rfl (fun h11 => ?_) (fun h11 => ?_)
          · exact absurd h11 (by decide)
          · refine w_iload_n (pc' := 15) rfl rfl rfl ?_
            refine w_iload_n (pc' := 16) rfl rfl rfl ?_
            refine w_ic_ne (t := 21) (pc' := 19) rfl (by decide) rfl (fun h16 => ?_) (fun h16 => ?_)
            · have g2 : ¬ 0 = b := fun q => h16 ((nI_eq (a := 0) (b := b) (by omega) (by omega)).mpr q)
              refine w_iload_n (pc' := 22) rfl rfl rfl ?_
              refine w_cS1i (pc' := 25) (v_ab0 xs m) (by decide) rfl rfl rfl (Or.inl rfl) (Nat.le_of_ble_eq_true rfl) (fun m' hm' => ?_)
              rw [show m' = m from hm']
              clear hm' m'
              refine w_ist2 (pc' := 26) rfl rfl rfl ?_
              refine w_iinc3 (pc' := 29) 1 rfl rfl ic_1 rfl ?_
              rw [show (1 : Int32) + Int32.ofInt 1 = 2 from by decide]
              refine w_goto (pc' := 4) rfl (by decide) ?_
              refine w_iload_n (pc' := 5) rfl rfl rfl ?_
              refine w_bipush (pc' := 7) 7 rfl rfl bp_7 ?_
              refine w_ic_ge (t := 32) (pc' := 10) rfl (by decide) rfl (fun h7 => ?_) (fun h7 => ?_)
              · exact absurd h7 (by decide)
              · refine w_iload_n (pc' := 11) rfl rfl rfl ?_
                refine w_if_lt (t := 32) (pc' := 14) rfl (by decide) rfl (fun h11 => ?_) (fun h11 => ?_)
                · refine w_iconst (pc' := 33) 0 rfl rfl ic_0 ?_
                  refine w_iret rfl rfl (by first | rfl | exact am_nbB _) ?_
                  rw [show f_und 3 b = false by simp [f_und, f_ab, g1, g2]]
                  exact ⟨rfl, rfl⟩
                · exact absurd h11 (by decide)
            · have g3 : 0 = b := (nI_eq (a := 0) (b := b) (by omega) (by omega)).mp h16
              refine w_iconst (pc' := 20) 1 rfl rfl ic_1 ?_
              refine w_iret rfl rfl (by first | rfl | exact am_nbB _) ?_
              rw [show f_und 3 b = true by simp [f_und, f_ab, g1, eq_true g3, Eq.symm g3]]
              exact ⟨rfl, rfl⟩
      · have g4 : 3 = b := (nI_eq (a := 3) (b := b) (by omega) (by omega)).mp h16
        refine w_iconst (pc' := 20) 1 rfl rfl ic_1 ?_
        refine w_iret rfl rfl (by first | rfl | exact am_nbB _) ?_
        rw [show f_und 3 b = true by simp [f_und, f_ab, eq_true g4, Eq.symm g4]]
        exact ⟨rfl, rfl⟩
set_option maxRecDepth 100000 in
set_option maxHeartbeats 4000000 in
theorem v_under4 (xs : List Int32) (m : am_Mm) {b : Nat} (hb : b < 7) : am_V xs 2 130 [.int 4, .int (nI b)] m (am_qi (bB (f_und 4 b)) (· = m)) := by
  refine am_V_of ky_130 (Nat.le_of_ble_eq_true rfl) ?_
  show am_P xs 1 k_isUnder 0 [some (.int 4), some (.int (nI b)), none, none] [] m _
  refine w_iload_n (pc' := 1) rfl rfl rfl ?_
  refine w_ist2 (pc' := 2) rfl rfl rfl ?_
  refine w_iconst (pc' := 3) 0 rfl rfl ic_0 ?_
  refine w_ist3 (pc' := 4) rfl rfl rfl ?_
  refine w_iload_n (pc' := 5) rfl rfl rfl ?_
  refine w_bipush (pc' := 7) 7 rfl rfl bp_7 ?_
  refine w_ic_ge (t := 32) (pc' := 10) rfl (by decide) rfl (fun h7 => ?_) (fun h7 => ?_)
  · exact absurd h7 (by decide)
  · refine w_iload_n (pc' := 11) rfl rfl rfl ?_
    refine w_if_lt (t := 32) (pc' := 14) rfl (by decide) rfl (fun h11 => ?_) (fun h11 => ?_)
    · exact absurd h11 (by decide)
    · refine w_iload_n (pc' := 15) rfl rfl rfl ?_
      refine w_iload_n (pc' := 16) rfl rfl rfl ?_
      refine w_ic_ne (t := 21) (pc' := 19) rfl (by decide) rfl (fun h16 => ?_) (fun h16 => ?_)
      · have g1 : ¬ 4 = b := fun q => h16 ((nI_eq (a := 4) (b := b) (by omega) (by omega)).mpr q)
        refine w_iload_n (pc' := 22) rfl rfl rfl ?_
        refine w_cS1i (pc' := 25) (v_ab4 xs m) (by decide) rfl rfl rfl (Or.inl rfl) (Nat.le_of_ble_eq_true rfl) (fun m' hm' => ?_)
        rw [show m' = m from hm']
        clear hm' m'
        refine w_ist2 (pc' := 26) rfl rfl rfl ?_
        refine w_iinc3 (pc' := 29) 1 rfl rfl ic_1 rfl ?_
        rw [show (0 : Int32) + Int32.ofInt 1 = 1 from by decide]
        refine w_goto (pc' := 4) rfl (by decide) ?_
        refine w_iload_n (pc' := 5) rfl rfl rfl ?_
        refine w_bipush (pc' := 7) 7 rfl rfl bp_7 ?_
        refine w_ic_ge (t := 32) (pc' := 10) rfl (by decide) rfl (fun h7 => ?_) (fun h7 => ?_)
        · exact absurd h7 (by decide)
        · refine w_iload_n (pc' := 11) rfl rfl rfl ?_
          refine w_if_lt (t := 32) (pc' := 14) rfl (by decide) rfl (fun h11 => ?_) (fun h11 => ?_)
          · exact absurd h11 (by decide)
          · refine w_iload_n (pc' := 15) rfl rfl rfl ?_
            refine w_iload_n (pc' := 16) rfl rfl rfl ?_
            refine w_ic_ne (t := 21) (pc' := 19) rfl (by decide) rfl (fun h16 => ?_) (fun h16 => ?_)
            · have g2 : ¬ 1 = b := fun q => h16 ((nI_eq (a := 1) (b := b) (by omega) (by omega)).mpr q)
              refine w_iload_n (pc' := 22) rfl rfl rfl ?_
              refine w_cS1i (pc' := 25) (v_ab1 xs m) (by decide) rfl rfl rfl (Or.inl rfl) (Nat.le_of_ble_eq_true rfl) (fun m' hm' => ?_)
              rw [show m' = m from hm']
              clear hm' m'
              refine w_ist2 (pc' := 26) rfl rfl rfl ?_
              refine w_iinc3 (pc' := 29) 1 rfl rfl ic_1 rfl ?_
              rw [show (1 : Int32) + Int32.ofInt 1 = 2 from by decide]
              refine w_goto (pc' := 4) rfl (by decide) ?_
              refine w_iload_n (pc' := 5) rfl rfl rfl ?_
              refine w_bipush (pc' := 7) 7 rfl rfl bp_7 ?_
              refine w_ic_ge (t := 32) (pc' := 10) rfl (by decide) rfl (fun h7 => ?_) (fun h7 => ?_)
              · exact absurd h7 (by decide)
              · refine w_iload_n (pc' := 11) rfl rfl rfl ?_
                refine w_if_lt (t := 32) (pc' := 14) rfl (by decide) rfl (fun h11 => ?_) (fun h11 => ?_)
                · exact absurd h11 (by decide)
                · refine w_iload_n (pc' := 15) rfl rfl rfl ?_
                  refine w_iload_n (pc' := 16) rfl rfl rfl ?_
                  refine w_ic_ne (t := 21) (pc' := 19) rfl (by decide) rfl (fun h16 => ?_) (fun h16 => ?_)
                  · have g3 : ¬ 0 = b := fun q => h16 ((nI_eq (a := 0) (b := b) (by omega) (by omega)).mpr q)
                    refine w_iload_n (pc' := 22) rfl rfl rfl ?_
                    refine w_cS1i (pc' := 25) (v_ab0 xs m) (by decide) rfl rfl rfl (Or.inl rfl) (Nat.le_of_ble_eq_true rfl) (fun m' hm' => ?_)
                    rw [show m' = m from hm']
                    clear hm' m'
                    refine w_ist2 (pc' := 26) rfl rfl rfl ?_
                    refine w_iinc3 (pc' := 29) 1 rfl rfl ic_1 rfl ?_
                    rw [show (2 : Int32) + Int32.ofInt 1 = 3 from by decide]
                    refine w_goto (pc' := 4) rfl (by decide) ?_
                    refine w_iload_n (pc' := 5) rfl rfl rfl ?_
                    refine w_bipush (pc' := 7) 7 rfl rfl bp_7 ?_
                    refine w_ic_ge (t := 32) (pc' := 10) rfl (by decide) rfl (fun h7 => ?_) (fun h7 => ?_)
                    · exact absurd h7 (by decide)
                    · refine w_iload_n (pc' := 11) rfl rfl rfl ?_
                      refine w_if_lt (t := 32) (pc' := 14) rfl (by decide) rfl (fun h11 => ?_) (fun h11 => ?_)
                      · refine w_iconst (pc' := 33) 0 rfl rfl ic_0 ?_
                        refine w_iret rfl rfl (by first | rfl | exact am_nbB _) ?_
                        rw [show f_und 4 b = false by simp [f_und, f_ab, g1, g2, g3]]
                        exact ⟨rfl, rfl⟩
                      · exact absurd h11 (by decide)
                  · have g4 : 0 = b := (nI_eq (a := 0) (b := b) (by omega) (by omega)).mp h16
                    refine w_iconst (pc' := 20) 1 rfl rfl ic_1 ?_
                    refine w_iret rfl rfl (by first | rfl | exact am_nbB _) ?_
                    rw [show f_und 4 b = true by simp [f_und, f_ab, g1, g2, eq_true g4, Eq.symm g4]]
                    exact ⟨rfl, rfl⟩
            · have g5 : 1 = b := (nI_eq (a := 1) (b := b) (by omega) (by omega)).mp h16
              refine w_iconst (pc' := 20) 1 rfl rfl ic_1 ?_
              refine w_iret rfl rfl (by first | rfl | exact am_nbB _) ?_
              rw [show f_und 4 b = true by simp [f_und, f_ab, g1, eq_true g5, Eq.symm g5]]
              exact ⟨rfl, rfl⟩
      · have g6 : 4 = b := (nI_eq (a := 4) (b := b) (by omega) (by omega)).mp h16
        refine w_iconst (pc' := 20) 1 rfl rfl ic_1 ?_
        refine w_iret rfl rfl (by first | rfl | exact am_nbB _) ?_
        rw [show f_und 4 b = true by simp [f_und, f_ab, eq_true g6, Eq.symm g6]]
        exact ⟨rfl, rfl⟩
set_option maxRecDepth 100000 in
set_option maxHeartbeats 4000000 in
theorem v_under5 (xs : List Int32) (m : am_Mm) {b : Nat} (hb : b < 7) : am_V xs 2 130 [.int 5, .int (nI b)] m (am_qi (bB (f_und 5 b)) (· = m)) := by
  refine am_V_of ky_130 (Nat.le_of_ble_eq_true rfl) ?_
  show am_P xs 1 k_isUnder 0 [some (.int 5), some (.int (nI b)), none, none] [] m _
  refine w_iload_n (pc' := 1) rfl rfl rfl ?_
  refine w_ist2 (pc' := 2) rfl rfl rfl ?_
  refine w_iconst (pc' := 3) 0 rfl rfl ic_0 ?_
  refine w_ist3 (pc' := 4) rfl rfl rfl ?_
  refine w_iload_n (pc' := 5) rfl rfl rfl ?_
  refine w_bipush (pc' := 7) 7 rfl rfl bp_7 ?_
  refine w_ic_ge (t := 32) (pc' := 10) rfl (by decide) rfl (fun h7 => ?_) (fun h7 => ?_)
  · exact absurd h7 (by decide)
  · refine w_iload_n (pc' := 11) rfl rfl rfl ?_
    refine w_if_lt (t := 32) (pc' := 14) rfl (by decide) rfl (fun h11 => ?_) (fun h11 => ?_)
    · exact absurd h11 (by decide)
    · refine w_iload_n (pc' := 15) rfl rfl rfl ?_
      refine w_iload_n (pc' := 16) rfl rfl rfl ?_
      refine w_ic_ne (t := 21) (pc' := 19) rfl (by decide) rfl (fun h16 => ?_) (fun h16 => ?_)
      · have g1 : ¬ 5 = b := fun q => h16 ((nI_eq (a := 5) (b := b) (by omega) (by omega)).mpr q)
        refine w_iload_n (pc' := 22) rfl rfl rfl ?_
        refine w_cS1i (pc' := 25) (v_ab5 xs m) (by decide) rfl rfl rfl (Or.inl rfl) (Nat.le_of_ble_eq_true rfl) (fun m' hm' => ?_)
        rw [show m' = m from hm']
        clear hm' m'
        refine w_ist2 (pc' := 26) rfl rfl rfl ?_
        refine w_iinc3 (pc' := 29) 1 rfl rfl ic_1 rfl ?_
        rw [show (0 : Int32) + Int32.ofInt 1 = 1 from by decide]
        refine w_goto (pc' := 4) rfl (by decide) ?_
        refine w_iload_n (pc' := 5) rfl rfl rfl ?_
        refine w_bipush (pc' := 7) 7 rfl rfl bp_7 ?_
        refine w_ic_ge (t := 32) (pc' := 10) rfl (by decide) rfl (fun h7 => ?_) (fun h7 => ?_)
        · exact absurd h7 (by decide)
        · refine w_iload_n (pc' := 11) rfl rfl rfl ?_
          refine w_if_lt (t := 32) (pc' := 14) rfl (by decide) rfl (fun h11 => ?_) (fun h11 => ?_)
          · exact absurd h11 (by decide)
          · refine w_iload_n (pc' := 15) rfl rfl rfl ?_
            refine w_iload_n (pc' := 16) rfl rfl rfl ?_
            refine w_ic_ne (t := 21) (pc' := 19) rfl (by decide) rfl (fun h16 => ?_) (fun h16 => ?_)
            · have g2 : ¬ 2 = b := fun q => h16 ((nI_eq (a := 2) (b := b) (by omega) (by omega)).mpr q)
              refine w_iload_n (pc' := 22) rfl rfl rfl ?_
              refine w_cS1i (pc' := 25) (v_ab2 xs m) (by decide) rfl rfl rfl (Or.inl rfl) (Nat.le_of_ble_eq_true rfl) (fun m' hm' => ?_)
              rw [show m' = m from hm']
              clear hm' m'
              refine w_ist2 (pc' := 26) rfl rfl rfl ?_
              refine w_iinc3 (pc' := 29) 1 rfl rfl ic_1 rfl ?_
              rw [show (1 : Int32) + Int32.ofInt 1 = 2 from by decide]
              refine w_goto (pc' := 4) rfl (by decide) ?_
              refine w_iload_n (pc' := 5) rfl rfl rfl ?_
              refine w_bipush (pc' := 7) 7 rfl rfl bp_7 ?_
              refine w_ic_ge (t := 32) (pc' := 10) rfl (by decide) rfl (fun h7 => ?_) (fun h7 => ?_)
              · exact absurd h7 (by decide)
              · refine w_iload_n (pc' := 11) rfl rfl rfl ?_
                refine w_if_lt (t := 32) (pc' := 14) rfl (by decide) rfl (fun h11 => ?_) (fun h11 => ?_)
                · exact absurd h11 (by decide)
                · refine w_iload_n (pc' := 15) rfl rfl rfl ?_
                  refine w_iload_n (pc' := 16) rfl rfl rfl ?_
                  refine w_ic_ne (t := 21) (pc' := 19) rfl (by decide) rfl (fun h16 => ?_) (fun h16 => ?_)
                  · have g3 : ¬ 0 = b := fun q => h16 ((nI_eq (a := 0) (b := b) (by omega) (by omega)).mpr q)
                    refine w_iload_n (pc' := 22) rfl rfl rfl ?_
                    refine w_cS1i (pc' := 25) (v_ab0 xs m) (by decide) rfl rfl rfl (Or.inl rfl) (Nat.le_of_ble_eq_true rfl) (fun m' hm' => ?_)
                    rw [show m' = m from hm']
                    clear hm' m'
                    refine w_ist2 (pc' := 26) rfl rfl rfl ?_
                    refine w_iinc3 (pc' := 29) 1 rfl rfl ic_1 rfl ?_
                    rw [show (2 : Int32) + Int32.ofInt 1 = 3 from by decide]
                    refine w_goto (pc' := 4) rfl (by decide) ?_
                    refine w_iload_n (pc' := 5) rfl rfl rfl ?_
                    refine w_bipush (pc' := 7) 7 rfl rfl bp_7 ?_
                    refine w_ic_ge (t := 32) (pc' := 10) rfl (by decide) rfl (fun h7 => ?_) (fun h7 => ?_)
                    · exact absurd h7 (by decide)
                    · refine w_iload_n (pc' := 11) rfl rfl rfl ?_
                      refine w_if_lt (t := 32) (pc' := 14) rfl (by decide) rfl (fun h11 => ?_) (fun h11 => ?_)
                      · refine w_iconst (pc' := 33) 0 rfl rfl ic_0 ?_
                        refine w_iret rfl rfl (by first | rfl | exact am_nbB _) ?_
                        rw [show f_und 5 b = false by simp [f_und, f_ab, g1, g2, g3]]
                        exact ⟨rfl, rfl⟩
                      · exact absurd h11 (by decide)
                  · have g4 : 0 = b := (nI_eq (a := 0) (b := b) (by omega) (by omega)).mp h16
                    refine w_iconst (pc' := 20) 1 rfl rfl ic_1 ?_
                    refine w_iret rfl rfl (by first | rfl | exact am_nbB _) ?_
                    rw [show f_und 5 b = true by simp [f_und, f_ab, g1, g2, eq_true g4, Eq.symm g4]]
                    exact ⟨rfl, rfl⟩
            · have g5 : 2 = b := (nI_eq (a := 2) (b := b) (by omega) (by omega)).mp h16
              refine w_iconst (pc' := 20) 1 rfl rfl ic_1 ?_
              refine w_iret rfl rfl (by first | rfl | exact am_nbB _) ?_
              rw [show f_und 5 b = true by simp [f_und, f_ab, g1, eq_true g5, Eq.symm g5]]
              exact ⟨rfl, rfl⟩
      · have g6 : 5 = b := (nI_eq (a := 5) (b := b) (by omega) (by omega)).mp h16
        refine w_iconst (pc' := 20) 1 rfl rfl ic_1 ?_
        refine w_iret rfl rfl (by first | rfl | exact am_nbB _) ?_
        rw [show f_und 5 b = true by simp [f_und, f_ab, eq_true g6, Eq.symm g6]]
        exact ⟨rfl, rfl⟩
set_option maxRecDepth 100000 in
set_option maxHeartbeats 4000000 in
theorem v_under6 (xs : List Int32) (m : am_Mm) {b : Nat} (hb : b < 7) : am_V xs 2 130 [.int 6, .int (nI b)] m (am_qi (bB (f_und 6 b)) (· = m)) := by
  refine am_V_of ky_130 (Nat.le_of_ble_eq_true rfl) ?_
  show am_P xs 1 k_isUnder 0 [some (.int 6), some (.int (nI b)), none, none] [] m _
  refine w_iload_n (pc' := 1) rfl rfl rfl ?_
  refine w_ist2 (pc' := 2) rfl rfl rfl ?_
  refine w_iconst (pc' := 3) 0 rfl rfl ic_0 ?_
  refine w_ist3 (pc' := 4) rfl rfl rfl ?_
  refine w_iload_n (pc' := 5) rfl rfl rfl ?_
  refine w_bipush (pc' := 7) 7 rfl rfl bp_7 ?_
  refine w_ic_ge (t := 32) (pc' := 10) rfl (by decide) rfl (fun h7 => ?_) (fun h7 => ?_)
  · exact absurd h7 (by decide)
  · refine w_iload_n (pc' := 11) rfl rfl rfl ?_
    refine w_if_lt (t := 32) (pc' := 14) rfl (by decide) rfl (fun h11 => ?_) (fun h11 => ?_)
    · exact absurd h11 (by decide)
    · refine w_iload_n (pc' := 15) rfl rfl rfl ?_
      refine w_iload_n (pc' := 16) rfl rfl rfl ?_
      refine w_ic_ne (t := 21) (pc' := 19) rfl (by decide) rfl (fun h16 => ?_) (fun h16 => ?_)
      · have g1 : ¬ 6 = b := fun q => h16 ((nI_eq (a := 6) (b := b) (by omega) (by omega)).mpr q)
        refine w_iload_n (pc' := 22) rfl rfl rfl ?_
        refine w_cS1i (pc' := 25) (v_ab6 xs m) (by decide) rfl rfl rfl (Or.inl rfl) (Nat.le_of_ble_eq_true rfl) (fun m' hm' => ?_)
        rw [show m' = m from hm']
        clear hm' m'
        refine w_ist2 (pc' := 26) rfl rfl rfl ?_
        refine w_iinc3 (pc' := 29) 1 rfl rfl ic_1 rfl ?_
        rw [show (0 : Int32) + Int32.ofInt 1 = 1 from by decide]
        refine w_goto (pc' := 4) rfl (by decide) ?_
        refine w_iload_n (pc' := 5) rfl rfl rfl ?_
        refine w_bipush (pc' := 7) 7 rfl rfl bp_7 ?_
        refine w_ic_ge (t := 32) (pc' := 10) rfl (by decide) rfl (fun h7 => ?_) (fun h7 => ?_)
        · exact absurd h7 (by decide)
        · refine w_iload_n (pc' := 11) rfl rfl rfl ?_
          refine w_if_lt (t := 32) (pc' := 14) rfl (by decide) rfl (fun h11 => ?_) (fun h11 => ?_)
          · exact absurd h11 (by decide)
          · refine w_iload_n (pc' := 15) rfl rfl rfl ?_
            refine w_iload_n (pc' := 16) rfl rfl rfl ?_
            refine w_ic_ne (t := 21) (pc' := 19) rfl (by decide) rfl (fun h16 => ?_) (fun h16 => ?_)
            · have g2 : ¬ 3 = b := fun q => h16 ((nI_eq (a := 3) (b := b) (by omega) (by omega)).mpr q)
              refine w_iload_n (pc' := 22) rfl rfl rfl ?_
              refine w_cS1i (pc' := 25) (v_ab3 xs m) (by decide) rfl rfl rfl (Or.inl rfl) (Nat.le_of_ble_eq_true rfl) (fun m' hm' => ?_)
              rw [show m' = m from hm']
              clear hm' m'
              refine w_ist2 (pc' := 26) rfl rfl rfl ?_
              refine w_iinc3 (pc' := 29) 1 rfl rfl ic_1 rfl ?_
              rw [show (1 : Int32) + Int32.ofInt 1 = 2 from by decide]
              refine w_goto (pc' := 4) rfl (by decide) ?_
              refine w_iload_n (pc' := 5) rfl rfl rfl ?_
              refine w_bipush (pc' := 7) 7 rfl rfl bp_7 ?_
              refine w_ic_ge (t := 32) (pc' := 10) rfl (by decide) rfl (fun h7 => ?_) (fun h7 => ?_)
              · exact absurd h7 (by decide)
              · refine w_iload_n (pc' := 11) rfl rfl rfl ?_
                refine w_if_lt (t := 32) (pc' := 14) rfl (by decide) rfl (fun h11 => ?_) (fun h11 => ?_)
                · exact absurd h11 (by decide)
                · refine w_iload_n (pc' := 15) rfl rfl rfl ?_
                  refine w_iload_n (pc' := 16) rfl rfl rfl ?_
                  refine w_ic_ne (t := 21) (pc' := 19) rfl (by decide) rfl (fun h16 => ?_) (fun h16 => ?_)
                  · have g3 : ¬ 0 = b := fun q => h16 ((nI_eq (a := 0) (b := b) (by omega) (by omega)).mpr q)
                    refine w_iload_n (pc' := 22) rfl rfl rfl ?_
                    refine w_cS1i (pc' := 25) (v_ab0 xs m) (by decide) rfl rfl rfl (Or.inl rfl) (Nat.le_of_ble_eq_true rfl) (fun m' hm' => ?_)
                    rw [show m' = m from hm']
                    clear hm' m'
                    refine w_ist2 (pc' := 26) rfl rfl rfl ?_
                    refine w_iinc3 (pc' := 29) 1 rfl rfl ic_1 rfl ?_
                    rw [show (2 : Int32) + Int32.ofInt 1 = 3 from by decide]
                    refine w_goto (pc' := 4) rfl (by decide) ?_
                    refine w_iload_n (pc' := 5) rfl rfl rfl ?_
                    refine w_bipush (pc' := 7) 7 rfl rfl bp_7 ?_
                    refine w_ic_ge (t := 32) (pc' := 10) rfl (by decide) rfl (fun h7 => ?_) (fun h7 => ?_)
                    · exact absurd h7 (by decide)
                    · refine w_iload_n (pc' := 11) rfl rfl rfl ?_
                      refine w_if_lt (t := 32) (pc' := 14) rfl (by decide) rfl (fun h11 => ?_) (fun h11 => ?_)
                      · refine w_iconst (pc' := 33) 0 rfl rfl ic_0 ?_
                        refine w_iret rfl rfl (by first | rfl | exact am_nbB _) ?_
                        rw [show f_und 6 b = false by simp [f_und, f_ab, g1, g2, g3]]
                        exact ⟨rfl, rfl⟩
                      · exact absurd h11 (by decide)
                  · have g4 : 0 = b := (nI_eq (a := 0) (b := b) (by omega) (by omega)).mp h16
                    refine w_iconst (pc' := 20) 1 rfl rfl ic_1 ?_
                    refine w_iret rfl rfl (by first | rfl | exact am_nbB _) ?_
                    rw [show f_und 6 b = true by simp [f_und, f_ab, g1, g2, eq_true g4, Eq.symm g4]]
                    exact ⟨rfl, rfl⟩
            · have g5 : 3 = b := (nI_eq (a := 3) (b := b) (by omega) (by omega)).mp h16
              refine w_iconst (pc' := 20) 1 rfl rfl ic_1 ?_
              refine w_iret rfl rfl (by first | rfl | exact am_nbB _) ?_
              rw [show f_und 6 b = true by simp [f_und, f_ab, g1, eq_true g5, Eq.symm g5]]
              exact ⟨rfl, rfl⟩
      · have g6 : 6 = b := (nI_eq (a := 6) (b := b) (by omega) (by omega)).mp h16
        refine w_iconst (pc' := 20) 1 rfl rfl ic_1 ?_
        refine w_iret rfl rfl (by first | rfl | exact am_nbB _) ?_
        rw [show f_und 6 b = true by simp [f_und, f_ab, eq_true g6, Eq.symm g6]]
        exact ⟨rfl, rfl⟩
theorem v_isUnder (xs : List Int32) (m : am_Mm) {a b : Nat} (ha : a < 7) (hb : b < 7) : am_V xs 2 130 [.int (nI a), .int (nI b)] m (am_qi (bB (f_und a b)) (· = m)) := by
  rcases (show a = 0 ∨ a = 1 ∨ a = 2 ∨ a = 3 ∨ a = 4 ∨ a = 5 ∨ a = 6 by omega) with rfl | rfl | rfl | rfl | rfl | rfl | rfl
  · exact v_under0 xs m hb
  · exact v_under1 xs m hb
  · exact v_under2 xs m hb
  · exact v_under3 xs m hb
  · exact v_under4 xs m hb
  · exact v_under5 xs m hb
  · exact v_under6 xs m hb
set_option maxRecDepth 100000 in
set_option maxHeartbeats 4000000 in
theorem v_k_taken (xs : List Int32) {T : q_T} {m : am_Mm} (hC : q_Rc T m) (hI : q_I T) (d : Int32) (k : Int32) : am_V xs 3 129 [.ref 0, .int d, .int k] m (am_qi (f_taken T d k).1 (q_Q (f_taken T d k).2 m)) := by
  have hY := hI.1.1
  have hB := hY.1
  have hl6 := hI.1.2.1
  have hn0 : T.1 153 0 < 7 := hB 153 0
  have hF : q_Fl 61 m m := q_Fl.rf
  have hR1 := hC.1
  refine am_V_of ky_129 (Nat.le_of_ble_eq_true rfl) ?_
  show am_P xs 2 k_taken 0 [some (.ref 0), some (.int d), some (.int k), none] [] m _
  refine w_iload_n (pc' := 1) rfl rfl rfl ?_
  refine w_if_lt (t := 10) (pc' := 4) rfl (by decide) rfl (fun h1 => ?_) (fun h1 => ?_)
  · have hnegk : k < 0 := h1
    refine w_bipush (pc' := 12) (-2) rfl rfl bp_m2 ?_
    refine w_iret rfl rfl rfl ?_
    have hf : f_taken T d k = (-2, T) := by simp [f_taken, q_is_neg hnegk (n := 7) (by omega)]
    rw [hf]
    exact ⟨rfl, hC.Q hI (q_Fq.rf)⟩
  · obtain ⟨jk, hjk, rfl⟩ := nI_of (x := k) h1
    refine w_iload_n (pc' := 5) rfl rfl rfl ?_
    refine w_bipush (pc' := 7) 7 rfl rfl bp_7 ?_
    refine w_ic_lt (t := 13) (pc' := 10) rfl (by decide) rfl (fun h7 => ?_) (fun h7 => ?_)
    · have g1 : jk < 7 := (nI_ltI (a := jk) (b := 7) (by omega) (by omega)).mp h7
      rcases hqb : q_is d (T.1 153 0) with _ | _
      · have hqd : q_is d (T.1 153 0) = false := hqb
        refine w_aload_n (pc' := 14) rfl rfl rfl rfl ?_
        refine w_getC (pc' := 17) rfl rfl rfl sh_0 rfl ?_
        refine w_iload_n (pc' := 18) rfl rfl rfl ?_
        refine w_cV1a (pc' := 21) (v_la_drawerN xs q_L1 hR1 hB hqd) (by decide) rfl rfl rfl (Nat.le_of_ble_eq_true rfl) (shL q_L1) rfl (fun m' hm' => ?_)
        rw [show m' = m from hm']
        clear hm' m'
        refine w_ast3 (pc' := 22) rfl rfl rfl rfl ?_
        refine w_aload_n (pc' := 23) rfl rfl rfl rfl ?_
        refine w_ifnonnullN (pc' := 26) rfl rfl ?_
        refine w_bipush (pc' := 28) (-11) rfl rfl bp_m11 ?_
        refine w_iret rfl rfl rfl ?_
        have hf : f_taken T d (nI jk) = (-11, T) := by simp [f_taken, nI_clamp (show jk < 2 ^ 31 by omega), q_is_nI (n := 7) (j := jk) (by omega) (by omega), g1, hqd]
        rw [hf]
        exact ⟨rfl, hC.Q hI (q_Fq.rf)⟩
      · obtain ⟨jd, hjd, rfl⟩ := q_is_of hqb (by omega)
        refine w_aload_n (pc' := 14) rfl rfl rfl rfl ?_
        refine w_getC (pc' := 17) rfl rfl rfl sh_0 rfl ?_
        refine w_iload_n (pc' := 18) rfl rfl rfl ?_
        refine w_cV1a (pc' := 21) (v_la_drawerS xs q_L1 hR1 hB (p := jd) (by omega)) (by decide) rfl rfl rfl (Nat.le_of_ble_eq_true rfl) (shL q_L1) rfl (fun m' hm' => ?_)
        rw [show m' = m from hm']
        clear hm' m'
        refine w_ast3 (pc' := 22) rfl rfl rfl rfl ?_
        refine w_aload_n (pc' := 23) rfl rfl rfl rfl ?_
        refine w_ifnonnullR (pc' := 29) rfl (by decide) (by omega) ?_
        refine w_aload_n (pc' := 30) rfl rfl rfl rfl ?_
        refine w_getI (pc' := 33) rfl rfl rfl (shD q_L1 (p := jd) (by omega)) rfl ?_
        have b2 : T.1 154 jd < 7 := hB 154 (jd)
        rw [show m.1 (1 + 6 + 4 * jd) 1 = nI (T.1 154 jd) from (hR1.2.2.2.2.2 jd (by omega)).1]
        refine w_iload_n (pc' := 34) rfl rfl rfl ?_
        refine w_cS2i (pc' := 37) (v_isUnder xs m (a := T.1 154 jd) (b := jk) (by omega) (by omega)) (by decide) rfl rfl rfl (Or.inl rfl) (Nat.le_of_ble_eq_true rfl) (fun m' hm' => ?_)
        rw [show m' = m from hm']
        clear hm' m'
        refine w_if_eq (t := 47) (pc' := 40) rfl (by decide) rfl (fun h37 => ?_) (fun h37 => ?_)
        · have hb3 : f_und (T.1 154 jd) jk = false := bB_0.mp h37
          refine w_bipush (pc' := 49) (-12) rfl rfl bp_m12 ?_
          refine w_iret rfl rfl rfl ?_
          have hf : f_taken T (nI jd) (nI jk) = (-12, T) := by simp [f_taken, nI_clamp (show jk < 2 ^ 31 by omega), q_is_nI (n := 7) (j := jk) (by omega) (by omega), g1, q_is_nI (n := T.1 153 0) hjd (by omega), nI_clamp (show jd < 2 ^ 31 by omega), hb3]
          rw [hf]
          exact ⟨rfl, hC.Q hI (q_Fq.rf)⟩
        · have hb4 : f_und (T.1 154 jd) jk = true := bB_n0.mp h37
          refine w_aload_n (pc' := 41) rfl rfl rfl rfl ?_
          refine w_getI (pc' := 44) rfl rfl rfl (shD q_L1 (p := jd) (by omega)) rfl ?_
          have b5 : T.1 154 jd < 7 := hB 154 (jd)
          rw [show m.1 (1 + 6 + 4 * jd) 1 = nI (T.1 154 jd) from (hR1.2.2.2.2.2 jd (by omega)).1]
          refine w_goto (pc' := 49) rfl (by decide) ?_
          refine w_iret rfl rfl rfl ?_
          have hf : f_taken T (nI jd) (nI jk) = (nI ((T.1 154 jd)), T) := by simp [f_taken, nI_clamp (show jk < 2 ^ 31 by omega), q_is_nI (n := 7) (j := jk) (by omega) (by omega), g1, q_is_nI (n := T.1 153 0) hjd (by omega), nI_clamp (show jd < 2 ^ 31 by omega), hb4]
          rw [hf]
          exact ⟨rfl, hC.Q hI (q_Fq.rf)⟩
    · have g6 : ¬ jk < 7 := fun q => h7 ((nI_ltI (a := jk) (b := 7) (by omega) (by omega)).mpr q)
      refine w_bipush (pc' := 12) (-2) rfl rfl bp_m2 ?_
      refine w_iret rfl rfl rfl ?_
      have hf : f_taken T d (nI jk) = (-2, T) := by simp [f_taken, nI_clamp (show jk < 2 ^ 31 by omega), q_is_big (n := 7) (j := jk) (by omega) (by omega), g6]
      rw [hf]
      exact ⟨rfl, hC.Q hI (q_Fq.rf)⟩
set_option maxRecDepth 100000 in
set_option maxHeartbeats 4000000 in
theorem v_k_trace (xs : List Int32) {T : q_T} {m : am_Mm} (hC : q_Rc T m) (hI : q_I T) (i : Int32) : am_V xs 1 128 [.ref 0, .int i] m (am_qi (f_trace T i).1 (q_Q (f_trace T i).2 m)) := by
  have hY := hI.1.1
  have hB := hY.1
  have hl6 := hI.1.2.1
  have hn0 : T.1 153 0 < 7 := hB 153 0
  have hF : q_Fl 61 m m := q_Fl.rf
  have hR1 := hC.1
  refine am_V_of ky_128 (Nat.le_of_ble_eq_true rfl) ?_
  show am_P xs 0 k_trace 0 [some (.ref 0), some (.int i)] [] m _
  refine w_iload_n (pc' := 1) rfl rfl rfl ?_
  refine w_if_lt (t := 21) (pc' := 4) rfl (by decide) rfl (fun h1 => ?_) (fun h1 => ?_)
  · have hnegi : i < 0 := h1
    refine w_iconst (pc' := 22) (-1) rfl rfl ic_m1 ?_
    refine w_iret rfl rfl rfl ?_
    have hf : f_trace T i = (-1, T) := by simp [f_trace, q_is_neg hnegi (n := (min 20 (T.1 153 38))) (by omega)]
    rw [hf]
    exact ⟨rfl, hC.Q hI (q_Fq.rf)⟩
  · obtain ⟨ji, hji, rfl⟩ := nI_of (x := i) h1
    refine w_iload_n (pc' := 5) rfl rfl rfl ?_
    refine w_aload_n (pc' := 6) rfl rfl rfl rfl ?_
    refine w_getC (pc' := 9) rfl rfl rfl sh_0 rfl ?_
    refine w_getI (pc' := 12) rfl rfl rfl sh_120 rfl ?_
    rw [show m.1 120 1 = nI (T.1 153 38) from hC.2.2.2.1.2.2.2.1]
    have b38 : T.1 153 38 < 100 := hB 153 38
    refine w_ic_ge (t := 21) (pc' := 15) rfl (by decide) rfl (fun h12 => ?_) (fun h12 => ?_)
    · have g1 : (T.1 153 38) ≤ ji := (nI_leI (a := (T.1 153 38)) (b := ji) (by omega) (by omega)).mp h12
      refine w_iconst (pc' := 22) (-1) rfl rfl ic_m1 ?_
      refine w_iret rfl rfl rfl ?_
      have hf : f_trace T (nI ji) = (-1, T) := by simp [f_trace, nI_clamp (show ji < 2 ^ 31 by omega), q_is_big (n := (min 20 (T.1 153 38))) (j := ji) (by omega) (by omega), g1, Nat.not_lt.mpr g1]
      rw [hf]
      exact ⟨rfl, hC.Q hI (q_Fq.rf)⟩
    · have g2 : ¬ (T.1 153 38) ≤ ji := fun q => h12 ((nI_leI (a := (T.1 153 38)) (b := ji) (by omega) (by omega)).mpr q)
      refine w_iload_n (pc' := 16) rfl rfl rfl ?_
      refine w_bipush (pc' := 18) 20 rfl rfl bp_20 ?_
      refine w_ic_lt (t := 23) (pc' := 21) rfl (by decide) rfl (fun h18 => ?_) (fun h18 => ?_)
      · have g3 : ji < 20 := (nI_ltI (a := ji) (b := 20) (by omega) (by omega)).mp h18
        refine w_aload_n (pc' := 24) rfl rfl rfl rfl ?_
        refine w_getC (pc' := 27) rfl rfl rfl sh_0 rfl ?_
        refine w_getC (pc' := 30) rfl rfl rfl sh_120 rfl ?_
        refine w_iload_n (pc' := 31) rfl rfl rfl ?_
        refine w_iald (j := (ji)) (pc' := 32) rfl rfl sh_121 rfl (by omega) (by decide) ?_
        rw [show m.1 121 ji = nI (T.1 178 ji) from hC.2.2.2.1.2.2.2.2.1 ji (by omega) (by omega)]
        refine w_iret rfl rfl rfl ?_
        have hf : f_trace T (nI ji) = (nI ((T.1 178 ji)), T) := by simp [f_trace, nI_clamp (show ji < 2 ^ 31 by omega), g2, Nat.lt_of_not_le g2, q_is_nI (n := (min 20 (T.1 153 38))) (j := ji) (by omega) (by omega), g3]
        rw [hf]
        exact ⟨rfl, hC.Q hI (q_Fq.rf)⟩
      · have g4 : ¬ ji < 20 := fun q => h18 ((nI_ltI (a := ji) (b := 20) (by omega) (by omega)).mpr q)
        refine w_iconst (pc' := 22) (-1) rfl rfl ic_m1 ?_
        refine w_iret rfl rfl rfl ?_
        have hf : f_trace T (nI ji) = (-1, T) := by simp [f_trace, nI_clamp (show ji < 2 ^ 31 by omega), g2, Nat.lt_of_not_le g2, q_is_big (n := (min 20 (T.1 153 38))) (j := ji) (by omega) (by omega), g4]
        rw [hf]
        exact ⟨rfl, hC.Q hI (q_Fq.rf)⟩
set_option maxRecDepth 100000 in
set_option maxHeartbeats 4000000 in
theorem v_tapeAtS (xs : List Int32) (m : am_Mm) {t : Nat} (ht : t < 6) : am_V xs 1 115 [.ref 0, .int (nI t)] m (am_qa (.ref (141 + 2 * t)) (· = m)) := by
  refine am_V_of ky_115 (Nat.le_of_ble_eq_true rfl) ?_
  show am_P xs 0 k_tapeAt 0 [some (.ref 0), some (.int (nI t))] [] m _
  refine w_iload_n (pc' := 1) rfl rfl rfl ?_
  refine w_if_lt (t := 19) (pc' := 4) rfl (by decide) rfl (fun h1 => ?_) (fun h1 => ?_)
  · have g1 : t < 0 := (nI_ltI (a := t) (b := 0) (by omega) (by omega)).mp h1
    omega
  · have g2 : ¬ t < 0 := fun q => h1 ((nI_ltI (a := t) (b := 0) (by omega) (by omega)).mpr q)
    refine w_iload_n (pc' := 5) rfl rfl rfl ?_
    refine w_bipush (pc' := 7) 6 rfl rfl bp_6 ?_
    refine w_ic_ge (t := 19) (pc' := 10) rfl (by decide) rfl (fun h7 => ?_) (fun h7 => ?_)
    · have g3 : 6 ≤ t := (nI_leI (a := 6) (b := t) (by omega) (by omega)).mp h7
      omega
    · have g4 : ¬ 6 ≤ t := fun q => h7 ((nI_leI (a := 6) (b := t) (by omega) (by omega)).mpr q)
      refine w_aload_n (pc' := 11) rfl rfl rfl rfl ?_
      refine w_getC (pc' := 14) rfl rfl rfl sh_0 rfl ?_
      refine w_iload_n (pc' := 15) rfl rfl rfl ?_
      refine w_aald (j := t) (a := (141 + 2 * t)) (pc' := 16) rfl rfl sh_122 rfl (drT (t := t) (by omega)) (by omega) (am_sh_lt (shT (t := t) (by omega))) ?_
      refine w_goto (pc' := 20) rfl (by decide) ?_
      refine w_aret rfl (by first | exact Or.inl ⟨_, rfl⟩ | exact Or.inr ⟨_, rfl⟩) rfl ?_
      exact ⟨rfl, rfl⟩
set_option maxRecDepth 100000 in
set_option maxHeartbeats 4000000 in
theorem v_tapeAtN (xs : List Int32) (m : am_Mm) {x : Int32} (hq : q_is x 6 = false) : am_V xs 1 115 [.ref 0, .int x] m (am_qa .null (· = m)) := by
  refine am_V_of ky_115 (Nat.le_of_ble_eq_true rfl) ?_
  show am_P xs 0 k_tapeAt 0 [some (.ref 0), some (.int x)] [] m _
  refine w_iload_n (pc' := 1) rfl rfl rfl ?_
  refine w_if_lt (t := 19) (pc' := 4) rfl (by decide) rfl (fun h1 => ?_) (fun h1 => ?_)
  · refine w_null (pc' := 20) rfl rfl ?_
    refine w_aret rfl (by first | exact Or.inl ⟨_, rfl⟩ | exact Or.inr ⟨_, rfl⟩) rfl ?_
    exact ⟨rfl, rfl⟩
  · refine w_iload_n (pc' := 5) rfl rfl rfl ?_
    refine w_bipush (pc' := 7) 6 rfl rfl bp_6 ?_
    refine w_ic_ge (t := 19) (pc' := 10) rfl (by decide) rfl (fun h7 => ?_) (fun h7 => ?_)
    · refine w_null (pc' := 20) rfl rfl ?_
      refine w_aret rfl (by first | exact Or.inl ⟨_, rfl⟩ | exact Or.inr ⟨_, rfl⟩) rfl ?_
      exact ⟨rfl, rfl⟩
    · exact (winN (n := 6) (by omega) hq h1 h7).elim
set_option maxRecDepth 100000 in
set_option maxHeartbeats 4000000 in
theorem v_has (xs : List Int32) {T : q_T} {m : am_Mm} (hC : q_Rc T m) (hB : q_Bd T) {t : Nat} (ht : t < 6) (i : Int32) : am_V xs 1 116 [.ref (141 + 2 * t), .int i] m (am_qi (bB (q_is i (T.1 183 t))) (· = m)) := by
  have b61 : T.1 183 t < 61 := hB 183 t
  refine am_V_of ky_116 (Nat.le_of_ble_eq_true rfl) ?_
  show am_P xs 0 tp_has 0 [some (.ref (141 + 2 * t)), some (.int i)] [] m _
  refine w_iload_n (pc' := 1) rfl rfl rfl ?_
  refine w_if_lt (t := 22) (pc' := 4) rfl (by decide) rfl (fun h1 => ?_) (fun h1 => ?_)
  · refine w_iconst (pc' := 23) 0 rfl rfl ic_0 ?_
    refine w_iret rfl rfl (by first | rfl | exact am_nbB _) ?_
    rw [q_is_neg h1 (n := T.1 183 t) (by omega)]
    exact ⟨rfl, rfl⟩
  · obtain ⟨j, hj, rfl⟩ := nI_of (x := i) h1
    refine w_iload_n (pc' := 5) rfl rfl rfl ?_
    refine w_aload_n (pc' := 6) rfl rfl rfl rfl ?_
    refine w_getI (pc' := 9) rfl rfl rfl (shT (t := t) (by omega)) rfl ?_
    rw [show m.1 (141 + 2 * t) 1 = nI (T.1 183 t) from (hC.2.2.2.1.2.2.2.2.2.2 t (by omega)).2.1]
    refine w_ic_ge (t := 22) (pc' := 12) rfl (by decide) rfl (fun h9 => ?_) (fun h9 => ?_)
    · have g1 : (T.1 183 t) ≤ j := (nI_leI (a := (T.1 183 t)) (b := j) (by omega) (by omega)).mp h9
      refine w_iconst (pc' := 23) 0 rfl rfl ic_0 ?_
      refine w_iret rfl rfl (by first | rfl | exact am_nbB _) ?_
      rw [q_is_big (n := T.1 183 t) (j := j) (by omega) (by omega)]
      exact ⟨rfl, rfl⟩
    · have g2 : ¬ (T.1 183 t) ≤ j := fun q => h9 ((nI_leI (a := (T.1 183 t)) (b := j) (by omega) (by omega)).mpr q)
      refine w_iload_n (pc' := 13) rfl rfl rfl ?_
      refine w_bipush (pc' := 15) 60 rfl rfl bp_60 ?_
      refine w_ic_ge (t := 22) (pc' := 18) rfl (by decide) rfl (fun h15 => ?_) (fun h15 => ?_)
      · have g3 : 60 ≤ j := (nI_leI (a := 60) (b := j) (by omega) (by omega)).mp h15
        omega
      · have g4 : ¬ 60 ≤ j := fun q => h15 ((nI_leI (a := 60) (b := j) (by omega) (by omega)).mpr q)
        refine w_iconst (pc' := 19) 1 rfl rfl ic_1 ?_
        refine w_goto (pc' := 23) rfl (by decide) ?_
        refine w_iret rfl rfl (by first | rfl | exact am_nbB _) ?_
        rw [q_is_nI (n := T.1 183 t) (j := j) (by omega) (by omega)]
        exact ⟨rfl, rfl⟩
set_option maxRecDepth 100000 in
set_option maxHeartbeats 4000000 in
theorem v_k_read (xs : List Int32) {T : q_T} {m : am_Mm} (hC : q_Rc T m) (hI : q_I T) (t : Int32) (i : Int32) : am_V xs 2 136 [.ref 0, .int t, .int i] m (am_qj (f_read T t i).1 (q_Q (f_read T t i).2 m)) := by
  have hY := hI.1.1
  have hB := hY.1
  have hl6 := hI.1.2.1
  have hn0 : T.1 153 0 < 7 := hB 153 0
  have hF : q_Fl 61 m m := q_Fl.rf
  have hR1 := hC.1
  refine am_V_of ky_136 (Nat.le_of_ble_eq_true rfl) ?_
  show am_P xs 1 k_read 0 [some (.ref 0), some (.int t), some (.int i), none] [] m _
  rcases hqbt : q_is t 6 with _ | _
  · have hqt : q_is t 6 = false := hqbt
    refine w_aload_n (pc' := 1) rfl rfl rfl rfl ?_
    refine w_iload_n (pc' := 2) rfl rfl rfl ?_
    refine w_cV1a (pc' := 5) (v_tapeAtN xs m hqt) (by decide) rfl rfl rfl (Nat.le_of_ble_eq_true rfl) sh_0 rfl (fun m' hm' => ?_)
    rw [show m' = m from hm']
    clear hm' m'
    refine w_ast3 (pc' := 6) rfl rfl rfl rfl ?_
    refine w_aload_n (pc' := 7) rfl rfl rfl rfl ?_
    refine w_ifnullN (pc' := 26) rfl (by decide) ?_
    refine w_ldc2_w (pc' := 29) rfl rfl rfl rfl ?_
    refine w_lret rfl rfl ?_
    have hf : f_read T t i = (-9223372036854775808, T) := by simp [f_read, hqt]
    rw [hf]
    exact ⟨rfl, hC.Q hI (q_Fq.rf)⟩
  · obtain ⟨jt, hjt, rfl⟩ := q_is_of hqbt (by omega)
    have b61t : T.1 183 jt < 61 := hB 183 jt
    have b6t : T.1 182 jt < 6 := hB 182 jt
    refine w_aload_n (pc' := 1) rfl rfl rfl rfl ?_
    refine w_iload_n (pc' := 2) rfl rfl rfl ?_
    refine w_cV1a (pc' := 5) (v_tapeAtS xs m (t := jt) (by omega)) (by decide) rfl rfl rfl (Nat.le_of_ble_eq_true rfl) sh_0 rfl (fun m' hm' => ?_)
    rw [show m' = m from hm']
    clear hm' m'
    refine w_ast3 (pc' := 6) rfl rfl rfl rfl ?_
    refine w_aload_n (pc' := 7) rfl rfl rfl rfl ?_
    refine w_ifnullR (pc' := 10) rfl rfl (by omega) ?_
    refine w_aload_n (pc' := 11) rfl rfl rfl rfl ?_
    refine w_getI (pc' := 14) rfl rfl rfl (shT (t := jt) (by omega)) rfl ?_
    rw [show m.1 (141 + 2 * jt) 0 = nI (T.1 182 jt) - 1 from (hC.2.2.2.1.2.2.2.2.2.2 jt (by omega)).1]
    refine w_iconst (pc' := 15) (-1) rfl rfl ic_m1 ?_
    refine w_ic_eq (t := 26) (pc' := 18) rfl (by decide) rfl (fun h15 => ?_) (fun h15 => ?_)
    · have hp0 : T.1 182 jt = 0 := (nI_pp (a := T.1 182 jt) (b := 0) (by omega) (by omega)).mp h15
      refine w_ldc2_w (pc' := 29) rfl rfl rfl rfl ?_
      refine w_lret rfl rfl ?_
      have hf : f_read T (nI jt) i = (-9223372036854775808, T) := by simp [f_read, q_is_nI (n := 6) hjt (by omega), nI_clamp (show jt < 2 ^ 31 by omega), hp0]
      rw [hf]
      exact ⟨rfl, hC.Q hI (q_Fq.rf)⟩
    · have hp0 : ¬ T.1 182 jt = 0 := fun q => h15 ((nI_pp (a := T.1 182 jt) (b := 0) (by omega) (by omega)).mpr q)
      refine w_aload_n (pc' := 19) rfl rfl rfl rfl ?_
      refine w_iload_n (pc' := 20) rfl rfl rfl ?_
      refine w_cV1i (pc' := 23) (v_has xs hC hB (t := jt) (by omega) (i)) (by decide) rfl rfl rfl (Nat.le_of_ble_eq_true rfl) (shT (t := jt) (by omega)) rfl (fun m' hm' => ?_)
      rw [show m' = m from hm']
      clear hm' m'
      refine w_if_ne (t := 30) (pc' := 26) rfl (by decide) rfl (fun h23 => ?_) (fun h23 => ?_)
      · obtain ⟨j1, hj1, rfl⟩ := q_is_of (bB_n0.mp h23) (by omega)
        refine w_aload_n (pc' := 31) rfl rfl rfl rfl ?_
        refine w_getC (pc' := 34) rfl rfl rfl (shT (t := jt) (by omega)) rfl ?_
        refine w_iload_n (pc' := 35) rfl rfl rfl ?_
        refine w_lald (j := (j1)) (pc' := 36) rfl rfl (shTi (t := jt) (by omega)) rfl (by omega) (by decide) ?_
        rw [show m.2 (142 + 2 * jt) j1 = T.2.2 jt j1 from (hC.2.2.2.1.2.2.2.2.2.2 jt (by omega)).2.2 j1 (by omega)]
        refine w_lret rfl rfl ?_
        have hf : f_read T (nI jt) (nI j1) = (T.2.2 jt j1, T) := by simp [f_read, q_is_nI (n := 6) hjt (by omega), nI_clamp (show jt < 2 ^ 31 by omega), Nat.pos_of_ne_zero hp0, q_is_nI (n := (T.1 183 jt)) hj1 (by omega), nI_clamp (show j1 < 2 ^ 31 by omega)]
        rw [hf]
        exact ⟨rfl, hC.Q hI (q_Fq.rf)⟩
      · have hN2 := bB_0.mp h23
        refine w_ldc2_w (pc' := 29) rfl rfl rfl rfl ?_
        refine w_lret rfl rfl ?_
        have hf : f_read T (nI jt) i = (-9223372036854775808, T) := by simp [f_read, q_is_nI (n := 6) hjt (by omega), nI_clamp (show jt < 2 ^ 31 by omega), Nat.pos_of_ne_zero hp0, hN2]
        rw [hf]
        exact ⟨rfl, hC.Q hI (q_Fq.rf)⟩
set_option maxRecDepth 100000 in
set_option maxHeartbeats 4000000 in
theorem lp_kjudge (xs : List Int32) {T : q_T} {m : am_Mm} (hC : q_Rc T m) (hI : q_I T) {t ji : Nat} (ht : t < 6) (h182 : ¬ T.1 182 t = 0) (hji : ji < 60) : ∀ (r k : Nat), k + r = 16 → ∀ (l5 : Option Value), am_P xs 2 k_judge 48 [some (.ref 0), some (.int (nI t)), some (.int (nI ji)), some (.ref (141 + 2 * t)), some (.int (nI k)), l5] [] m (am_qi (jd T t (nI ji) r k) (· = m)) := by
  intro r
  induction r with
  | zero =>
    intro k hk l5
    have hY := hI.1.1
    have hB := hY.1
    have hl6 := hI.1.2.1
    have hn0 : T.1 153 0 < 7 := hB 153 0
    have b61 : T.1 183 t < 61 := hB 183 t
    refine w_iload (pc' := 50) rfl rfl rfl ?_
    refine w_bipush (pc' := 52) 16 rfl rfl bp_16 ?_
    refine w_ic_ge (t := 106) (pc' := 55) rfl (by decide) rfl (fun h52 => ?_) (fun h52 => ?_)
    · have g1 : 16 ≤ k := (nI_leI (a := 16) (b := k) (by omega) (by omega)).mp h52
      refine w_bipush (pc' := 108) (-5) rfl rfl bp_m5 ?_
      refine w_iret rfl rfl rfl ?_
      exact ⟨rfl, rfl⟩
    · have g2 : ¬ 16 ≤ k := fun q => h52 ((nI_leI (a := 16) (b := k) (by omega) (by omega)).mpr q)
      omega
  | succ r ih =>
    intro k hk l5
    have hY := hI.1.1
    have hB := hY.1
    have hl6 := hI.1.2.1
    have hn0 : T.1 153 0 < 7 := hB 153 0
    have b61 : T.1 183 t < 61 := hB 183 t
    refine w_iload (pc' := 50) rfl rfl rfl ?_
    refine w_bipush (pc' := 52) 16 rfl rfl bp_16 ?_
    refine w_ic_ge (t := 106) (pc' := 55) rfl (by decide) rfl (fun h52 => ?_) (fun h52 => ?_)
    · have g1 : 16 ≤ k := (nI_leI (a := 16) (b := k) (by omega) (by omega)).mp h52
      omega
    · have g2 : ¬ 16 ≤ k := fun q => h52 ((nI_leI (a := 16) (b := k) (by omega) (by omega)).mpr q)
      refine w_iload_n (pc' := 56) rfl rfl rfl ?_
      refine w_iload (pc' := 58) rfl rfl rfl ?_
      refine w_iadd (pc' := 59) rfl rfl ?_
      rw [show nI (ji) + nI (k) = nI (ji + k) from nI_add _ _]
      refine w_ist5 (pc' := 61) rfl rfl rfl ?_
      refine w_aload_n (pc' := 62) rfl rfl rfl rfl ?_
      refine w_iload (pc' := 64) rfl rfl rfl ?_
      refine w_cV1i (pc' := 67) (v_has xs hC hB (t := t) (by omega) (nI (ji + k))) (by decide) rfl rfl rfl (Nat.le_of_ble_eq_true rfl) (shT (t := t) (by omega)) rfl (fun m' hm' => ?_)
      rw [show m' = m from hm']
      clear hm' m'
      refine w_if_ne (t := 76) (pc' := 70) rfl (by decide) rfl (fun h67 => ?_) (fun h67 => ?_)
      · have hin : ji + k < T.1 183 t := by
          obtain ⟨j, hj, e⟩ := q_is_of (bB_n0.mp h67) (by omega)
          have := (nI_eq (a := ji + k) (b := j) (by omega) (by omega)).mp e
          omega
        have hc : ¬ (T.1 182 t = 0 ∨ nI ji < 0 ∨ ¬ (nI ji).toNatClampNeg + k < T.1 183 t) := by
          rw [nI_clamp (show ji < 2 ^ 31 by omega)]
          rintro (z | z | z)
          · omega
          · exact nI_pos (by omega) z
          · exact z hin
        refine w_aload_n (pc' := 77) rfl rfl rfl rfl ?_
        refine w_getC (pc' := 80) rfl rfl rfl (shT (t := t) (by omega)) rfl ?_
        refine w_iload (pc' := 82) rfl rfl rfl ?_
        refine w_lald (j := (ji + k)) (pc' := 83) rfl rfl (shTi (t := t) (by omega)) rfl (by omega) (by decide) ?_
        rw [show m.2 (142 + 2 * t) (ji + k) = T.2.2 t (ji + k) from (hC.2.2.2.1.2.2.2.2.2.2 t (by omega)).2.2 (ji + k) (by omega)]
        refine w_aload_n (pc' := 84) rfl rfl rfl rfl ?_
        refine w_getC (pc' := 87) rfl rfl rfl sh_0 rfl ?_
        refine w_iload (pc' := 89) rfl rfl rfl ?_
        refine w_cV1i (pc' := 92) (v_la_markAt xs q_L1 hC.1 (i := k) (by omega)) (by decide) rfl rfl rfl (Nat.le_of_ble_eq_true rfl) (shL q_L1) rfl (fun m' hm' => ?_)
        rw [show m' = m from hm']
        clear hm' m'
        refine w_i2l (pc' := 93) rfl rfl ?_
        refine w_lcmp (pc' := 94) rfl rfl ?_
        refine w_if_eq (t := 100) (pc' := 97) rfl (by decide) rfl (fun h94 => ?_) (fun h94 => ?_)
        · have hee : T.2.2 t (ji + k) = (nI (T.1 162 k)).toInt64 := (lg_cmp_eq _ _).mp h94
          refine w_iinc4 (pc' := 103) 1 rfl rfl ic_1 rfl ?_
          rw [nI_inc]
          refine w_goto (pc' := 48) rfl (by decide) ?_
          rw [show jd T t (nI ji) (r + 1) k = jd T t (nI ji) r (k + 1) from (if_neg hc).trans (if_pos (by rw [nI_clamp (show ji < 2 ^ 31 by omega)]; exact hee))]
          exact ih (k + 1) (by omega) _
        · have hne : ¬ T.2.2 t (ji + k) = (nI (T.1 162 k)).toInt64 := fun z => h94 ((lg_cmp_eq _ _).mpr z)
          refine w_iload (pc' := 99) rfl rfl rfl ?_
          refine w_iret rfl rfl rfl ?_
          rw [show jd T t (nI ji) (r + 1) k = nI k from (if_neg hc).trans (if_neg (by rw [nI_clamp (show ji < 2 ^ 31 by omega)]; exact hne))]
          exact ⟨rfl, rfl⟩
      · have hout : ¬ ji + k < T.1 183 t := fun z => by
          have e := bB_0.mp h67
          rw [q_is_nI z (by omega)] at e
          exact absurd e (by decide)
        refine w_bipush (pc' := 72) 100 rfl rfl bp_100 ?_
        refine w_iload (pc' := 74) rfl rfl rfl ?_
        refine w_iadd (pc' := 75) rfl rfl ?_
        rw [show (100 : Int32) + nI (k) = nI (100 + k) from nI_add _ _]
        refine w_iret rfl rfl rfl ?_
        rw [show jd T t (nI ji) (r + 1) k = nI (100 + k) from if_pos (Or.inr (Or.inr (by rw [nI_clamp (show ji < 2 ^ 31 by omega)]; exact hout)))]
        exact ⟨rfl, rfl⟩
set_option maxRecDepth 100000 in
set_option maxHeartbeats 4000000 in
theorem v_k_judge (xs : List Int32) {T : q_T} {m : am_Mm} (hC : q_Rc T m) (hI : q_I T) (hTp : ∀ t, t < 6 → T.1 182 t = 0 → T.1 183 t = 0) (t : Int32) (i : Int32) : am_V xs 3 114 [.ref 0, .int t, .int i] m (am_qi (f_judge T t i).1 (q_Q (f_judge T t i).2 m)) := by
  have hY := hI.1.1
  have hB := hY.1
  have hl6 := hI.1.2.1
  have hn0 : T.1 153 0 < 7 := hB 153 0
  have hF : q_Fl 61 m m := q_Fl.rf
  have hR1 := hC.1
  refine am_V_of ky_114 (Nat.le_of_ble_eq_true rfl) ?_
  show am_P xs 2 k_judge 0 [some (.ref 0), some (.int t), some (.int i), none, none, none] [] m _
  rcases hqbt : q_is t 6 with _ | _
  · have hqt : q_is t 6 = false := hqbt
    refine w_aload_n (pc' := 1) rfl rfl rfl rfl ?_
    refine w_iload_n (pc' := 2) rfl rfl rfl ?_
    refine w_cV1a (pc' := 5) (v_tapeAtN xs m hqt) (by decide) rfl rfl rfl (Nat.le_of_ble_eq_true rfl) sh_0 rfl (fun m' hm' => ?_)
    rw [show m' = m from hm']
    clear hm' m'
    refine w_ast3 (pc' := 6) rfl rfl rfl rfl ?_
    refine w_aload_n (pc' := 7) rfl rfl rfl rfl ?_
    refine w_ifnonnullN (pc' := 10) rfl rfl ?_
    refine w_iconst (pc' := 11) (-1) rfl rfl ic_m1 ?_
    refine w_iret rfl rfl rfl ?_
    have hf : f_judge T t i = (-1, T) := by simp [f_judge, hqt]
    rw [hf]
    exact ⟨rfl, hC.Q hI (q_Fq.rf)⟩
  · obtain ⟨jt, hjt, rfl⟩ := q_is_of hqbt (by omega)
    have b61t : T.1 183 jt < 61 := hB 183 jt
    have b6t : T.1 182 jt < 6 := hB 182 jt
    refine w_aload_n (pc' := 1) rfl rfl rfl rfl ?_
    refine w_iload_n (pc' := 2) rfl rfl rfl ?_
    refine w_cV1a (pc' := 5) (v_tapeAtS xs m (t := jt) (by omega)) (by decide) rfl rfl rfl (Nat.le_of_ble_eq_true rfl) sh_0 rfl (fun m' hm' => ?_)
    rw [show m' = m from hm']
    clear hm' m'
    refine w_ast3 (pc' := 6) rfl rfl rfl rfl ?_
    refine w_aload_n (pc' := 7) rfl rfl rfl rfl ?_
    refine w_ifnonnullR (pc' := 12) rfl (by decide) (by omega) ?_
    refine w_aload_n (pc' := 13) rfl rfl rfl rfl ?_
    refine w_getI (pc' := 16) rfl rfl rfl (shT (t := jt) (by omega)) rfl ?_
    rw [show m.1 (141 + 2 * jt) 0 = nI (T.1 182 jt) - 1 from (hC.2.2.2.1.2.2.2.2.2.2 jt (by omega)).1]
    refine w_iconst (pc' := 17) (-1) rfl rfl ic_m1 ?_
    refine w_ic_eq (t := 30) (pc' := 20) rfl (by decide) rfl (fun h17 => ?_) (fun h17 => ?_)
    · have hs0 : T.1 182 jt = 0 := (nI_pp (a := T.1 182 jt) (b := 0) (by omega) (by omega)).mp h17
      refine w_iload_n (pc' := 31) rfl rfl rfl ?_
      refine w_if_lt (t := 42) (pc' := 34) rfl (by decide) rfl (fun h31 => ?_) (fun h31 => ?_)
      · have h31n := h31
        refine w_bipush (pc' := 44) 100 rfl rfl bp_100 ?_
        refine w_iret rfl rfl rfl ?_
        have hf : f_judge T (nI jt) i = (100, T) := by unfold f_judge; rw [if_pos (q_is_nI hjt (by omega)), nI_clamp (by omega), if_neg (by omega), show jd T jt i 16 0 = nI (100 + 0) from if_pos (Or.inr (Or.inl h31))]; rfl
        rw [hf]
        exact ⟨rfl, hC.Q hI (q_Fq.rf)⟩
      · obtain ⟨ji, hji, rfl⟩ := nI_of (x := i) h31
        refine w_iload_n (pc' := 35) rfl rfl rfl ?_
        refine w_aload_n (pc' := 36) rfl rfl rfl rfl ?_
        refine w_getI (pc' := 39) rfl rfl rfl (shT (t := jt) (by omega)) rfl ?_
        rw [show m.1 (141 + 2 * jt) 1 = nI (T.1 183 jt) from (hC.2.2.2.1.2.2.2.2.2.2 jt (by omega)).2.1]
        refine w_ic_lt (t := 45) (pc' := 42) rfl (by decide) rfl (fun h39 => ?_) (fun h39 => ?_)
        · have g1 : ji < (T.1 183 jt) := (nI_ltI (a := ji) (b := (T.1 183 jt)) (by omega) (by omega)).mp h39
          refine w_iconst (pc' := 46) 0 rfl rfl ic_0 ?_
          refine w_ist4 (pc' := 48) rfl rfl rfl ?_
          have hf : f_judge T (nI jt) (nI ji) = (jd T jt (nI ji) 16 0, T) := by unfold f_judge; rw [if_pos (q_is_nI hjt (by omega)), nI_clamp (by omega), if_neg (by omega)]
          rw [hf]
          exact (lp_kjudge xs hC hI (t := jt) (ji := ji) (by omega) (fun z => by have := hTp jt (by omega) z; omega) (by omega) 16 0 (by omega) none).mono (fun v m2 h2 => ⟨h2.1, by rw [show m2 = m from h2.2]; exact hC.Q hI q_Fq.rf⟩)
        · have g2 : ¬ ji < (T.1 183 jt) := fun q => h39 ((nI_ltI (a := ji) (b := (T.1 183 jt)) (by omega) (by omega)).mpr q)
          refine w_bipush (pc' := 44) 100 rfl rfl bp_100 ?_
          refine w_iret rfl rfl rfl ?_
          have hf : f_judge T (nI jt) (nI ji) = (100, T) := by unfold f_judge; rw [if_pos (q_is_nI hjt (by omega)), nI_clamp (by omega), if_neg (by omega), show jd T jt (nI ji) 16 0 = nI (100 + 0) from if_pos (Or.inr (Or.inr (by rw [nI_clamp (show ji < 2 ^ 31 by omega)]; omega)))]; rfl
          rw [hf]
          exact ⟨rfl, hC.Q hI (q_Fq.rf)⟩
    · have hs0 : ¬ T.1 182 jt = 0 := fun q => h17 ((nI_pp (a := T.1 182 jt) (b := 0) (by omega) (by omega)).mpr q)
      refine w_aload_n (pc' := 21) rfl rfl rfl rfl ?_
      refine w_getI (pc' := 24) rfl rfl rfl (shT (t := jt) (by omega)) rfl ?_
      rw [show m.1 (141 + 2 * jt) 0 = nI (T.1 182 jt) - 1 from (hC.2.2.2.1.2.2.2.2.2.2 jt (by omega)).1]
      refine w_if_eq (t := 30) (pc' := 27) rfl (by decide) rfl (fun h24 => ?_) (fun h24 => ?_)
      · have hs1 : T.1 182 jt = 1 := (nI_pp (a := T.1 182 jt) (b := 1) (by omega) (by omega)).mp h24
        refine w_iload_n (pc' := 31) rfl rfl rfl ?_
        refine w_if_lt (t := 42) (pc' := 34) rfl (by decide) rfl (fun h31 => ?_) (fun h31 => ?_)
        · have h31n := h31
          refine w_bipush (pc' := 44) 100 rfl rfl bp_100 ?_
          refine w_iret rfl rfl rfl ?_
          have hf : f_judge T (nI jt) i = (100, T) := by unfold f_judge; rw [if_pos (q_is_nI hjt (by omega)), nI_clamp (by omega), if_neg (by omega), show jd T jt i 16 0 = nI (100 + 0) from if_pos (Or.inr (Or.inl h31))]; rfl
          rw [hf]
          exact ⟨rfl, hC.Q hI (q_Fq.rf)⟩
        · obtain ⟨ji, hji, rfl⟩ := nI_of (x := i) h31
          refine w_iload_n (pc' := 35) rfl rfl rfl ?_
          refine w_aload_n (pc' := 36) rfl rfl rfl rfl ?_
          refine w_getI (pc' := 39) rfl rfl rfl (shT (t := jt) (by omega)) rfl ?_
          rw [show m.1 (141 + 2 * jt) 1 = nI (T.1 183 jt) from (hC.2.2.2.1.2.2.2.2.2.2 jt (by omega)).2.1]
          refine w_ic_lt (t := 45) (pc' := 42) rfl (by decide) rfl (fun h39 => ?_) (fun h39 => ?_)
          · have g3 : ji < (T.1 183 jt) := (nI_ltI (a := ji) (b := (T.1 183 jt)) (by omega) (by omega)).mp h39
            refine w_iconst (pc' := 46) 0 rfl rfl ic_0 ?_
            refine w_ist4 (pc' := 48) rfl rfl rfl ?_
            have hf : f_judge T (nI jt) (nI ji) = (jd T jt (nI ji) 16 0, T) := by unfold f_judge; rw [if_pos (q_is_nI hjt (by omega)), nI_clamp (by omega), if_neg (by omega)]
            rw [hf]
            exact (lp_kjudge xs hC hI (t := jt) (ji := ji) (by omega) (fun z => by have := hTp jt (by omega) z; omega) (by omega) 16 0 (by omega) none).mono (fun v m2 h2 => ⟨h2.1, by rw [show m2 = m from h2.2]; exact hC.Q hI q_Fq.rf⟩)
          · have g4 : ¬ ji < (T.1 183 jt) := fun q => h39 ((nI_ltI (a := ji) (b := (T.1 183 jt)) (by omega) (by omega)).mpr q)
            refine w_bipush (pc' := 44) 100 rfl rfl bp_100 ?_
            refine w_iret rfl rfl rfl ?_
            have hf : f_judge T (nI jt) (nI ji) = (100, T) := by unfold f_judge; rw [if_pos (q_is_nI hjt (by omega)), nI_clamp (by omega), if_neg (by omega), show jd T jt (nI ji) 16 0 = nI (100 + 0) from if_pos (Or.inr (Or.inr (by rw [nI_clamp (show ji < 2 ^ 31 by omega)]; omega)))]; rfl
            rw [hf]
            exact ⟨rfl, hC.Q hI (q_Fq.rf)⟩
      · have hs1 : ¬ T.1 182 jt = 1 := fun q => h24 ((nI_pp (a := T.1 182 jt) (b := 1) (by omega) (by omega)).mpr q)
        refine w_bipush (pc' := 29) (-12) rfl rfl bp_m12 ?_
        refine w_iret rfl rfl rfl ?_
        have hf : f_judge T (nI jt) i = (-12, T) := by simp [f_judge, q_is_nI (n := 6) hjt (by omega), nI_clamp (show jt < 2 ^ 31 by omega), hs0, (show 1 < T.1 182 jt by omega), hs1]
        rw [hf]
        exact ⟨rfl, hC.Q hI (q_Fq.rf)⟩
