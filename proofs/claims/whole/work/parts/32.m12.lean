theorem nI_rem10' {a : Nat} (ha : a < 2 ^ 31) : nI a - nI a / 10 * 10 = nI (a % 10) := by
  have hd : nI a / 10 = nI (a / 10) := Int32.toInt_inj.mp (by
    rw [Int32.toInt_div_of_ne_right _ _ (by decide), nI_toInt ha, nI_toInt (n := a / 10) (by omega), show (10 : Int32).toInt = 10 from by decide, Int.tdiv_eq_ediv_of_nonneg (by omega)]
    omega)
  rw [hd, show (nI (a / 10) * 10 : Int32) = nI (a / 10 * 10) from nI_mul _ _, nI_subN (a := a) (b := a / 10 * 10) (by omega), show a - a / 10 * 10 = a % 10 by omega]
theorem nI_rem4' {a : Nat} (ha : a < 2 ^ 31) : nI a - nI a / 4 * 4 = nI (a % 4) := by
  have hd : nI a / 4 = nI (a / 4) := Int32.toInt_inj.mp (by
    rw [Int32.toInt_div_of_ne_right _ _ (by decide), nI_toInt ha, nI_toInt (n := a / 4) (by omega), show (4 : Int32).toInt = 4 from by decide, Int.tdiv_eq_ediv_of_nonneg (by omega)]
    omega)
  rw [hd, show (nI (a / 4) * 4 : Int32) = nI (a / 4 * 4) from nI_mul _ _, nI_subN (a := a) (b := a / 4 * 4) (by omega), show a - a / 4 * 4 = a % 4 by omega]
def f_let (T : q_T) (p l : Nat) : Nat := if l = 0 then p else if l = 1 then T.1 154 p else if l = 2 then T.1 155 p else if l = 3 then T.1 162 (T.1 156 p) else if l = 4 then T.1 157 p else T.1 153 11 % 10
set_option maxRecDepth 100000 in
set_option maxHeartbeats 4000000 in
theorem v_m_letterOf (xs : List Int32) {T : q_T} {m : am_Mm} (h : q_Rm T m) (hB : q_Bd T) (hh : T.1 153 11 < 20000) {p l : Nat} (hp : p < 6) (hl : l < 100) : am_V xs 1 148 [.ref 153, .int (nI p), .int (nI l)] m (am_qi (nI (f_let T p l)) (· = m)) := by
  refine am_V_of ky_148 (Nat.le_of_ble_eq_true rfl) ?_
  show am_P xs 0 m_letterOf 0 [some (.ref 153), some (.int (nI p)), some (.int (nI l))] [] m _
  refine w_iload_n (pc' := 1) rfl rfl rfl ?_
  refine w_tsw (t := 71) rfl rfl (fun hD1 => ?_) (fun z1 hl1 hh1 hz1 => ?_)
  · have eD1_0 : ¬ l = 0 := fun q => by rw [nI_toInt (by omega)] at hD1; omega
    have eD1_1 : ¬ l = 1 := fun q => by rw [nI_toInt (by omega)] at hD1; omega
    have eD1_2 : ¬ l = 2 := fun q => by rw [nI_toInt (by omega)] at hD1; omega
    have eD1_3 : ¬ l = 3 := fun q => by rw [nI_toInt (by omega)] at hD1; omega
    have eD1_4 : ¬ l = 4 := fun q => by rw [nI_toInt (by omega)] at hD1; omega
    refine w_aload_n (pc' := 72) rfl rfl rfl rfl ?_
    refine w_getI (pc' := 75) rfl rfl rfl sh_153 rfl ?_
    rw [show m.1 153 11 = nI (T.1 153 (11)) from (rf_11 h :)]
    refine w_bipush (pc' := 77) 10 rfl rfl bp_10 ?_
    refine w_irem (pc' := 78) rfl rfl (by decide) ?_
    rw [nI_rem10' (by omega)]
    refine w_iret rfl rfl rfl ?_
    rw [show f_let T p l = (T.1 153 11 % 10) by simp [f_let, eD1_0, eD1_1, eD1_2, eD1_3, eD1_4]]
    exact ⟨rfl, rfl⟩
  · rcases (show z1 = 0 ∨ z1 = 1 ∨ z1 = 2 ∨ z1 = 3 ∨ z1 = 4 by omega) with rfl | rfl | rfl | rfl | rfl
    · refine ⟨35, 36, rfl, rfl, ?_⟩
      have e1 : l = 0 := by rw [nI_toInt (by omega)] at hz1; omega
      refine w_iload_n (pc' := 37) rfl rfl rfl ?_
      refine w_iret rfl rfl rfl ?_
      rw [show f_let T p l = p by simp [f_let, e1]]
      exact ⟨rfl, rfl⟩
    · refine ⟨37, 38, rfl, rfl, ?_⟩
      have e1 : l = 1 := by rw [nI_toInt (by omega)] at hz1; omega
      refine w_aload_n (pc' := 39) rfl rfl rfl rfl ?_
      refine w_getC (pc' := 42) rfl rfl rfl sh_153 rfl ?_
      refine w_iload_n (pc' := 43) rfl rfl rfl ?_
      refine w_iald (j := (p)) (pc' := 44) rfl rfl sh_154 rfl (by omega) (by decide) ?_
      rw [show m.1 154 p = nI (T.1 154 (p)) from (rd_154 h _ :)]
      have b2 : (T.1 154 (p)) < 7 := hB 154 (p)
      refine w_iret rfl rfl rfl ?_
      rw [show f_let T p l = (T.1 154 (p)) by simp [f_let, e1]]
      exact ⟨rfl, rfl⟩
    · refine ⟨44, 45, rfl, rfl, ?_⟩
      have e1 : l = 2 := by rw [nI_toInt (by omega)] at hz1; omega
      refine w_aload_n (pc' := 46) rfl rfl rfl rfl ?_
      refine w_getC (pc' := 49) rfl rfl rfl sh_153 rfl ?_
      refine w_iload_n (pc' := 50) rfl rfl rfl ?_
      refine w_iald (j := (p)) (pc' := 51) rfl rfl sh_155 rfl (by omega) (by decide) ?_
      rw [show m.1 155 p = nI (T.1 155 (p)) from (rd_155 h _ :)]
      have b3 : (T.1 155 (p)) < 10 := hB 155 (p)
      refine w_iret rfl rfl rfl ?_
      rw [show f_let T p l = (T.1 155 (p)) by simp [f_let, e1]]
      exact ⟨rfl, rfl⟩
    · refine ⟨51, 52, rfl, rfl, ?_⟩
      have e1 : l = 3 := by rw [nI_toInt (by omega)] at hz1; omega
      refine w_aload_n (pc' := 53) rfl rfl rfl rfl ?_
      refine w_getC (pc' := 56) rfl rfl rfl sh_153 rfl ?_
      refine w_aload_n (pc' := 57) rfl rfl rfl rfl ?_
      refine w_getC (pc' := 60) rfl rfl rfl sh_153 rfl ?_
      refine w_iload_n (pc' := 61) rfl rfl rfl ?_
      refine w_iald (j := (p)) (pc' := 62) rfl rfl sh_156 rfl (by omega) (by decide) ?_
      rw [show m.1 156 p = nI (T.1 156 (p)) from (rd_156 h _ :)]
      have b4 : (T.1 156 (p)) < 16 := hB 156 (p)
      refine w_iald (j := ((T.1 156 (p)))) (pc' := 63) rfl rfl sh_162 rfl (by omega) (by decide) ?_
      rw [show m.1 162 (T.1 156 (p)) = nI (T.1 162 ((T.1 156 (p)))) from (rd_162 h _ :)]
      have b5 : (T.1 162 ((T.1 156 (p)))) < 8 := hB 162 ((T.1 156 (p)))
      refine w_iret rfl rfl rfl ?_
      rw [show f_let T p l = (T.1 162 ((T.1 156 (p)))) by simp [f_let, e1]]
      exact ⟨rfl, rfl⟩
    · refine ⟨63, 64, rfl, rfl, ?_⟩
      have e1 : l = 4 := by rw [nI_toInt (by omega)] at hz1; omega
      refine w_aload_n (pc' := 65) rfl rfl rfl rfl ?_
      refine w_getC (pc' := 68) rfl rfl rfl sh_153 rfl ?_
      refine w_iload_n (pc' := 69) rfl rfl rfl ?_
      refine w_iald (j := (p)) (pc' := 70) rfl rfl sh_157 rfl (by omega) (by decide) ?_
      rw [show m.1 157 p = nI (T.1 157 (p)) from (rd_157 h _ :)]
      have b6 : (T.1 157 (p)) < 9 := hB 157 (p)
      refine w_iret rfl rfl rfl ?_
      rw [show f_let T p l = (T.1 157 (p)) by simp [f_let, e1]]
      exact ⟨rfl, rfl⟩
