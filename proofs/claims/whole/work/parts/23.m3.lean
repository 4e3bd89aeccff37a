theorem nI_inc (k : Nat) : nI k + Int32.ofInt 1 = nI (k + 1) := nI_1 k
theorem ts_eq {x c : Int32} {z : Int} (h : x.toInt = z) (h' : c.toInt = z) : x = c := Int32.toInt_inj.mp (h.trans h'.symm)
def f_count (T : q_T) (a : Int32) : Int32 × q_T := if a = 0 then (nI (T.1 153 0), T) else if a = 1 then (nI T.2.1.length, T) else if a = 2 then (nI (T.1 153 28), T) else if a = 3 then (nI (T.1 153 32), T) else if a = 4 then (nI (T.1 153 35), T) else if a = 5 then (nI (T.1 153 12), T) else if a = 6 then (nI (T.1 153 38), T) else (-2, T)
set_option maxRecDepth 100000 in
set_option maxHeartbeats 4000000 in
theorem v_m_count (xs : List Int32) {T : q_T} {m : am_Mm} (h : q_Rm T m) (hB : q_Bd T) (a : Int32) : am_V xs 3 219 [.ref 153, .int a] m (am_qi (f_count T a).1 (q_G (f_count T a).2 m)) := by
  have hF : q_FC m m := q_FC.rf
  have hn : T.1 153 0 < 7 := hB 153 0
  refine am_V_of ky_219 (Nat.le_of_ble_eq_true rfl) ?_
  show am_P xs 2 m_count 0 [some (.ref 153), some (.int a)] [] m _
  refine w_iload_n (pc' := 1) rfl rfl rfl ?_
  refine w_tsw (t := 79) rfl rfl (fun hD1 => ?_) (fun z1 hl1 hh1 hz1 => ?_)
  · have eD1_0 : ¬ a = 0 := fun q => by rw [q] at hD1; revert hD1; decide
    have eD1_1 : ¬ a = 1 := fun q => by rw [q] at hD1; revert hD1; decide
    have eD1_2 : ¬ a = 2 := fun q => by rw [q] at hD1; revert hD1; decide
    have eD1_3 : ¬ a = 3 := fun q => by rw [q] at hD1; revert hD1; decide
    have eD1_4 : ¬ a = 4 := fun q => by rw [q] at hD1; revert hD1; decide
    have eD1_5 : ¬ a = 5 := fun q => by rw [q] at hD1; revert hD1; decide
    have eD1_6 : ¬ a = 6 := fun q => by rw [q] at hD1; revert hD1; decide
    refine w_bipush (pc' := 81) (-2) rfl rfl bp_m2 ?_
    refine w_iret rfl rfl rfl ?_
    have hf : f_count T a = (-2, T) := by simp [f_count, eD1_0, eD1_1, eD1_2, eD1_3, eD1_4, eD1_5, eD1_6]
    rw [hf]
    exact ⟨rfl, h, hF⟩
  · rcases (show z1 = 0 ∨ z1 = 1 ∨ z1 = 2 ∨ z1 = 3 ∨ z1 = 4 ∨ z1 = 5 ∨ z1 = 6 by omega) with rfl | rfl | rfl | rfl | rfl | rfl | rfl
    · refine ⟨43, 44, rfl, rfl, ?_⟩
      have e1 : a = 0 := ts_eq hz1 (by decide)
      refine w_aload_n (pc' := 45) rfl rfl rfl rfl ?_
      refine w_getI (pc' := 48) rfl rfl rfl sh_153 rfl ?_
      rw [show m.1 153 0 = nI (T.1 153 (0)) from (rf_0 h :)]
      have b2 : (T.1 153 (0)) < 7 := hB 153 (0)
      refine w_iret rfl rfl rfl ?_
      have hf : f_count T a = (nI ((T.1 153 (0))), T) := by simp [f_count, e1]
      rw [hf]
      exact ⟨rfl, h, hF⟩
    · refine ⟨48, 49, rfl, rfl, ?_⟩
      have e1 : a = 1 := ts_eq hz1 (by decide)
      refine w_aload_n (pc' := 50) rfl rfl rfl rfl ?_
      refine w_getI (pc' := 53) rfl rfl rfl sh_153 rfl ?_
      rw [show m.1 153 18 = nI T.2.1.length from h.2.1.2.1]
      refine w_iret rfl rfl rfl ?_
      have hf : f_count T a = (nI T.2.1.length, T) := by simp [f_count, e1]
      rw [hf]
      exact ⟨rfl, h, hF⟩
    · refine ⟨53, 54, rfl, rfl, ?_⟩
      have e1 : a = 2 := ts_eq hz1 (by decide)
      refine w_aload_n (pc' := 55) rfl rfl rfl rfl ?_
      refine w_getI (pc' := 58) rfl rfl rfl sh_153 rfl ?_
      rw [show m.1 153 28 = nI (T.1 153 (28)) from (rf_28 h :)]
      have b3 : (T.1 153 (28)) < 6 := hB 153 (28)
      refine w_iret rfl rfl rfl ?_
      have hf : f_count T a = (nI ((T.1 153 (28))), T) := by simp [f_count, e1]
      rw [hf]
      exact ⟨rfl, h, hF⟩
    · refine ⟨58, 59, rfl, rfl, ?_⟩
      have e1 : a = 3 := ts_eq hz1 (by decide)
      refine w_aload_n (pc' := 60) rfl rfl rfl rfl ?_
      refine w_getI (pc' := 63) rfl rfl rfl sh_153 rfl ?_
      rw [show m.1 153 32 = nI (T.1 153 (32)) from (rf_32 h :)]
      have b4 : (T.1 153 (32)) < 11 := hB 153 (32)
      refine w_iret rfl rfl rfl ?_
      have hf : f_count T a = (nI ((T.1 153 (32))), T) := by simp [f_count, e1]
      rw [hf]
      exact ⟨rfl, h, hF⟩
    · refine ⟨63, 64, rfl, rfl, ?_⟩
      have e1 : a = 4 := ts_eq hz1 (by decide)
      refine w_aload_n (pc' := 65) rfl rfl rfl rfl ?_
      refine w_getI (pc' := 68) rfl rfl rfl sh_153 rfl ?_
      rw [show m.1 153 35 = nI (T.1 153 (35)) from (rf_35 h :)]
      have b5 : (T.1 153 (35)) < 9 := hB 153 (35)
      refine w_iret rfl rfl rfl ?_
      have hf : f_count T a = (nI ((T.1 153 (35))), T) := by simp [f_count, e1]
      rw [hf]
      exact ⟨rfl, h, hF⟩
    · refine ⟨68, 69, rfl, rfl, ?_⟩
      have e1 : a = 5 := ts_eq hz1 (by decide)
      refine w_aload_n (pc' := 70) rfl rfl rfl rfl ?_
      refine w_getI (pc' := 73) rfl rfl rfl sh_153 rfl ?_
      rw [show m.1 153 12 = nI (T.1 153 (12)) from (rf_12 h :)]
      have b6 : (T.1 153 (12)) < 101 := hB 153 (12)
      refine w_iret rfl rfl rfl ?_
      have hf : f_count T a = (nI ((T.1 153 (12))), T) := by simp [f_count, e1]
      rw [hf]
      exact ⟨rfl, h, hF⟩
    · refine ⟨73, 74, rfl, rfl, ?_⟩
      have e1 : a = 6 := ts_eq hz1 (by decide)
      refine w_aload_n (pc' := 75) rfl rfl rfl rfl ?_
      refine w_getI (pc' := 78) rfl rfl rfl sh_153 rfl ?_
      rw [show m.1 153 38 = nI (T.1 153 (38)) from (rf_38 h :)]
      have b7 : (T.1 153 (38)) < 100 := hB 153 (38)
      refine w_iret rfl rfl rfl ?_
      have hf : f_count T a = (nI ((T.1 153 (38))), T) := by simp [f_count, e1]
      rw [hf]
      exact ⟨rfl, h, hF⟩
def lk_go (T : q_T) : Nat → Nat → Int32
  | 0, _ => -5
  | r + 1, k => if T.1 162 (T.1 176 k) = T.1 177 k then lk_go T r (k + 1) else nI k
def f_looked (T : q_T) : Int32 × q_T := (lk_go T (T.1 153 35) 0, T)
set_option maxRecDepth 100000 in
set_option maxHeartbeats 4000000 in
theorem lp_looked (xs : List Int32) {T : q_T} {m m0 : am_Mm} (h : q_Rm T m) (hB : q_Bd T) (hF : q_FC m0 m) : ∀ (r k : Nat), k + r = T.1 153 35 → am_P xs 2 m_looked 2 [some (.ref 153), some (.int (nI k))] [] m (am_qi (lk_go T r k) (q_G T m0)) := by
  intro r
  induction r with
  | zero =>
    intro k hk
    refine w_iload_n (pc' := 3) rfl rfl rfl ?_
    refine w_aload_n (pc' := 4) rfl rfl rfl rfl ?_
    refine w_getI (pc' := 7) rfl rfl rfl sh_153 rfl ?_
    rw [show m.1 153 35 = nI (T.1 153 (35)) from (rf_35 h :)]
    have b1 : (T.1 153 (35)) < 9 := hB 153 (35)
    refine w_ic_ge (t := 38) (pc' := 10) rfl (by decide) rfl (fun h7 => ?_) (fun h7 => ?_)
    · have g2 : (T.1 153 (35)) ≤ k := (nI_leI (a := (T.1 153 (35))) (b := k) (by omega) (by omega)).mp h7
      refine w_bipush (pc' := 40) (-5) rfl rfl bp_m5 ?_
      refine w_iret rfl rfl rfl ?_
      exact ⟨rfl, h, hF⟩
    · have g3 : ¬ (T.1 153 (35)) ≤ k := fun q => h7 ((nI_leI (a := (T.1 153 (35))) (b := k) (by omega) (by omega)).mpr q)
      omega
  | succ r ih =>
    intro k hk
    refine w_iload_n (pc' := 3) rfl rfl rfl ?_
    refine w_aload_n (pc' := 4) rfl rfl rfl rfl ?_
    refine w_getI (pc' := 7) rfl rfl rfl sh_153 rfl ?_
    rw [show m.1 153 35 = nI (T.1 153 (35)) from (rf_35 h :)]
    have b1 : (T.1 153 (35)) < 9 := hB 153 (35)
    refine w_ic_ge (t := 38) (pc' := 10) rfl (by decide) rfl (fun h7 => ?_) (fun h7 => ?_)
    · have g2 : (T.1 153 (35)) ≤ k := (nI_leI (a := (T.1 153 (35))) (b := k) (by omega) (by omega)).mp h7
      omega
    · have g3 : ¬ (T.1 153 (35)) ≤ k := fun q => h7 ((nI_leI (a := (T.1 153 (35))) (b := k) (by omega) (by omega)).mpr q)
      refine w_aload_n (pc' := 11) rfl rfl rfl rfl ?_
      refine w_getC (pc' := 14) rfl rfl rfl sh_153 rfl ?_
      refine w_aload_n (pc' := 15) rfl rfl rfl rfl ?_
      refine w_getC (pc' := 18) rfl rfl rfl sh_153 rfl ?_
      refine w_iload_n (pc' := 19) rfl rfl rfl ?_
      refine w_iald (j := (k)) (pc' := 20) rfl rfl sh_176 rfl (by omega) (by decide) ?_
      rw [show m.1 176 k = nI (T.1 176 (k)) from (rd_176 h _ :)]
      have b4 : (T.1 176 (k)) < 16 := hB 176 (k)
      refine w_iald (j := ((T.1 176 (k)))) (pc' := 21) rfl rfl sh_162 rfl (by omega) (by decide) ?_
      rw [show m.1 162 (T.1 176 (k)) = nI (T.1 162 ((T.1 176 (k)))) from (rd_162 h _ :)]
      have b5 : (T.1 162 ((T.1 176 (k)))) < 8 := hB 162 ((T.1 176 (k)))
      refine w_aload_n (pc' := 22) rfl rfl rfl rfl ?_
      refine w_getC (pc' := 25) rfl rfl rfl sh_153 rfl ?_
      refine w_iload_n (pc' := 26) rfl rfl rfl ?_
      refine w_iald (j := (k)) (pc' := 27) rfl rfl sh_177 rfl (by omega) (by decide) ?_
      rw [show m.1 177 k = nI (T.1 177 (k)) from (rd_177 h _ :)]
      have b6 : (T.1 177 (k)) < 8 := hB 177 (k)
      refine w_ic_eq (t := 32) (pc' := 30) rfl (by decide) rfl (fun h27 => ?_) (fun h27 => ?_)
      · have g7 : (T.1 162 ((T.1 176 (k)))) = (T.1 177 (k)) := (nI_eq (a := (T.1 162 ((T.1 176 (k))))) (b := (T.1 177 (k))) (by omega) (by omega)).mp h27
        refine w_iinc1 (pc' := 35) 1 rfl rfl ic_1 rfl ?_
        rw [nI_inc]
        refine w_goto (pc' := 2) rfl (by decide) ?_
        rw [show lk_go T (r + 1) k = lk_go T r (k + 1) by simp [lk_go, g3, g7]]
        exact ih (k + 1) (by omega)
      · have g8 : ¬ (T.1 162 ((T.1 176 (k)))) = (T.1 177 (k)) := fun q => h27 ((nI_eq (a := (T.1 162 ((T.1 176 (k))))) (b := (T.1 177 (k))) (by omega) (by omega)).mpr q)
        refine w_iload_n (pc' := 31) rfl rfl rfl ?_
        refine w_iret rfl rfl rfl ?_
        rw [show lk_go T (r + 1) k = nI k by simp [lk_go, g3, g8]]
        exact ⟨rfl, h, hF⟩
set_option maxRecDepth 100000 in
set_option maxHeartbeats 4000000 in
theorem v_m_looked (xs : List Int32) {T : q_T} {m : am_Mm} (h : q_Rm T m) (hB : q_Bd T)  : am_V xs 3 207 [.ref 153] m (am_qi (f_looked T).1 (q_G (f_looked T).2 m)) := by
  have hF : q_FC m m := q_FC.rf
  have hn : T.1 153 0 < 7 := hB 153 0
  refine am_V_of ky_207 (Nat.le_of_ble_eq_true rfl) ?_
  show am_P xs 2 m_looked 0 [some (.ref 153), none] [] m _
  refine w_iconst (pc' := 1) 0 rfl rfl ic_0 ?_
  refine w_ist1 (pc' := 2) rfl rfl rfl ?_
  exact lp_looked xs h hB hF (T.1 153 35) 0 (by omega)
