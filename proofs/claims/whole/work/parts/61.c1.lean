theorem nI_nat {n : Nat} (h : n < 2 ^ 32) : (nI n).toBitVec.toNat = n := by
  show (BitVec.ofNat 32 n).toNat = n
  rw [BitVec.toNat_ofNat]
  exact Nat.mod_eq_of_lt h
theorem nI_ti {n : Nat} (h : n < 2 ^ 32) : (nI n).toInt = if n < 2 ^ 31 then (n : Int) else (n : Int) - 2 ^ 32 := by
  have c := BitVec.toInt_eq_toNat_cond (nI n).toBitVec
  rw [nI_nat h] at c
  show (nI n).toBitVec.toInt = _
  rw [c]
  split <;> split <;> omega
theorem nI_all (x : Int32) : ∃ n : Nat, n < 2 ^ 32 ∧ x = nI n := ⟨x.toBitVec.toNat, x.toBitVec.isLt, by
  apply Int32.toBitVec_inj.1
  show x.toBitVec = BitVec.ofNat 32 x.toBitVec.toNat
  simp⟩
theorem bm_ {z : Int} (h1 : -2147483648 ≤ z) (h2 : z < 2147483648) : z.bmod (2 ^ 32) = z := by
  rw [Int.bmod_eq_of_le (by omega) (by omega)]
/-- the rest by 4, as the machine has it -/
theorem rem4_ti (x : Int32) : (x - x / 4 * 4).toInt = if 0 ≤ x.toInt then x.toInt % 4 else -((-x.toInt) % 4) := by
  have h4 : (4 : Int32).toInt = 4 := by decide
  obtain ⟨n, hn, rfl⟩ := nI_all x
  have ht := nI_ti hn
  generalize hz : (nI n).toInt = z at *
  have hr : -2147483648 ≤ z ∧ z < 2147483648 := by
    split at ht <;> omega
  have hd : (nI n / 4).toInt = if 0 ≤ z then z / 4 else -((-z) / 4) := by
    rw [Int32.toInt_div_of_ne_right _ _ (by decide), hz, h4]
    split
    · exact Int.tdiv_eq_ediv_of_nonneg (by omega)
    · rw [show z = -(-z) by omega, Int.neg_tdiv, Int.tdiv_eq_ediv_of_nonneg (by omega)]
      rw [Int.neg_neg]
  rw [Int32.toInt_sub, Int32.toInt_mul, hd, hz, h4]
  split
  · rw [bm_ (z := z / 4 * 4) (by omega) (by omega), bm_ (by omega) (by omega)]
    omega
  · rw [bm_ (z := -(-z / 4) * 4) (by omega) (by omega), bm_ (by omega) (by omega)]
    omega
theorem xor4_lt (x : Int32) : x ^^^ 4 < 0 ↔ x < 0 := by
  obtain ⟨n, hn, rfl⟩ := nI_all x
  have e : nI n ^^^ 4 = nI (n ^^^ 4) := nx_xor n 4
  have h2 : n ^^^ 4 < 2 ^ 32 := Nat.xor_lt_two_pow hn (by decide)
  rw [e, Int32.lt_iff_toInt_lt, Int32.lt_iff_toInt_lt, nI_ti hn, nI_ti h2, show (0 : Int32).toInt = 0 from by decide]
  have h3 : n < 2 ^ 31 ↔ n ^^^ 4 < 2 ^ 31 := by
    constructor
    · exact fun h => Nat.xor_lt_two_pow h (by decide)
    · intro h
      have := Nat.xor_lt_two_pow h (show 4 < 2 ^ 31 by decide)
      rw [Nat.xor_assoc, Nat.xor_self, Nat.xor_zero] at this
      exact this
  by_cases h : n < 2 ^ 31
  · rw [if_pos h, if_pos (h3.mp h)]
    omega
  · rw [if_neg h, if_neg (fun z => h (h3.mpr z))]
    omega
theorem and3_ti (x : Int32) : (x &&& 3).toInt = x.toInt % 4 := by
  obtain ⟨n, hn, rfl⟩ := nI_all x
  have e2 : nI n &&& 3 = nI (n % 4) := by
    show nI n &&& nI 3 = _
    rw [nx_and, show (3 : Nat) = 2 ^ 2 - 1 from rfl, Nat.and_two_pow_sub_one_eq_mod]
  rw [e2, nI_ti hn, nI_toInt (by omega)]
  split <;> omega
set_option maxRecDepth 100000 in
set_option maxHeartbeats 4000000 in
theorem v_jm_floorMod (xs : List Int32) (m : am_Mm) (x : Int32) : am_V xs 1 23 [.int x, .int 4] m (am_qi (x &&& 3) (· = m)) := by
  refine am_V_of ky_23 (Nat.le_of_ble_eq_true rfl) ?_
  show am_P xs 0 jm_floorMod 0 [some (.int x), some (.int 4), none] [] m _
  refine w_iload_n (pc' := 1) rfl rfl rfl ?_
  refine w_iload_n (pc' := 2) rfl rfl rfl ?_
  refine w_irem (pc' := 3) rfl rfl (by decide) ?_
  refine w_ist2 (pc' := 4) rfl rfl rfl ?_
  refine w_iload_n (pc' := 5) rfl rfl rfl ?_
  refine w_iload_n (pc' := 6) rfl rfl rfl ?_
  refine w_ixor (pc' := 7) rfl rfl ?_
  refine w_if_ge (t := 18) (pc' := 10) rfl (by decide) rfl (fun h7 => ?_) (fun h7 => ?_)
  · have h0 : 0 ≤ x ^^^ 4 := h7
    refine w_iload_n (pc' := 19) rfl rfl rfl ?_
    refine w_iret rfl rfl rfl ?_
    refine ⟨congrArg (fun z => some (Value.int z)) ?_, rfl⟩
    apply Int32.toInt_inj.mp
    rw [and3_ti x]
    have hr := rem4_ti x
    have h2 := Int32.not_lt.mpr h0
    rw [xor4_lt, Int32.lt_iff_toInt_lt, show (0 : Int32).toInt = 0 from by decide] at h2
    rw [hr, if_pos (by omega)]
  · have h0 : x ^^^ 4 < 0 := Int32.not_le.mp h7
    refine w_iload_n (pc' := 11) rfl rfl rfl ?_
    refine w_if_eq (t := 18) (pc' := 14) rfl (by decide) rfl (fun h11 => ?_) (fun h11 => ?_)
    · have h1 : x - x / 4 * 4 = 0 := h11
      refine w_iload_n (pc' := 19) rfl rfl rfl ?_
      refine w_iret rfl rfl rfl ?_
      refine ⟨congrArg (fun z => some (Value.int z)) ?_, rfl⟩
      apply Int32.toInt_inj.mp
      rw [and3_ti x]
      have hr := rem4_ti x
      rw [xor4_lt, Int32.lt_iff_toInt_lt, show (0 : Int32).toInt = 0 from by decide] at h0
      have hne : (x - x / 4 * 4).toInt = 0 := by rw [h1]; decide
      rw [hr, if_neg (by omega)] at hne
      rw [h1]
      rw [show (0 : Int32).toInt = 0 from by decide]
      omega
    · have h1 : ¬ x - x / 4 * 4 = 0 := h11
      refine w_iload_n (pc' := 15) rfl rfl rfl ?_
      refine w_iload_n (pc' := 16) rfl rfl rfl ?_
      refine w_iadd (pc' := 17) rfl rfl ?_
      refine w_iret rfl rfl rfl ?_
      refine ⟨congrArg (fun z => some (Value.int z)) ?_, rfl⟩
      apply Int32.toInt_inj.mp
      rw [and3_ti x]
      have hr := rem4_ti x
      rw [xor4_lt, Int32.lt_iff_toInt_lt, show (0 : Int32).toInt = 0 from by decide] at h0
      have hne : ¬ (x - x / 4 * 4).toInt = 0 := fun z => h1 (Int32.toInt_inj.mp z)
      rw [Int32.toInt_add, hr, show (4 : Int32).toInt = 4 from by decide]
      rw [hr] at hne
      rw [if_neg (by omega)] at hne ⊢
      rw [bm_ (by omega) (by omega)]
      omega
set_option maxRecDepth 100000 in
set_option maxHeartbeats 4000000 in
theorem v_k_isCell (xs : List Int32) (m : am_Mm) (x : Int32) : am_V xs 1 11 [.int x] m (am_qi (bB (q_is x 16)) (· = m)) := by
  refine am_V_of ky_11 (Nat.le_of_ble_eq_true rfl) ?_
  show am_P xs 0 k_isCell 0 [some (.int x)] [] m _
  refine w_iload_n (pc' := 1) rfl rfl rfl ?_
  refine w_if_lt (t := 14) (pc' := 4) rfl (by decide) rfl (fun h1 => ?_) (fun h1 => ?_)
  · have hx0 : x < 0 := h1
    refine w_iconst (pc' := 15) 0 rfl rfl ic_0 ?_
    refine w_iret rfl rfl (by first | rfl | exact am_nbB _) ?_
    rw [show q_is x 16 = false from Bool.eq_false_iff.mpr (fun z => by obtain ⟨i, hi, e⟩ := q_is_of z (by omega); subst e; exact absurd hx0 (nI_pos (by omega)))]
    exact ⟨rfl, rfl⟩
  · obtain ⟨j, hj, rfl⟩ := nI_of (x := x) (Int32.not_lt.mpr (Int32.not_lt.mp h1))
    refine w_iload_n (pc' := 5) rfl rfl rfl ?_
    refine w_bipush (pc' := 7) 16 rfl rfl bp_16 ?_
    refine w_ic_ge (t := 14) (pc' := 10) rfl (by decide) rfl (fun h7 => ?_) (fun h7 => ?_)
    · have g1 : 16 ≤ j := (nI_leI (a := 16) (b := j) (by omega) (by omega)).mp h7
      refine w_iconst (pc' := 15) 0 rfl rfl ic_0 ?_
      refine w_iret rfl rfl (by first | rfl | exact am_nbB _) ?_
      rw [show q_is (nI j) 16 = false from Bool.eq_false_iff.mpr (fun z => by obtain ⟨i, hi, e⟩ := q_is_of z (by omega); have := (nI_eq (by omega) (by omega)).mp e; omega)]
      exact ⟨rfl, rfl⟩
    · have g2 : ¬ 16 ≤ j := fun q => h7 ((nI_leI (a := 16) (b := j) (by omega) (by omega)).mpr q)
      refine w_iconst (pc' := 11) 1 rfl rfl ic_1 ?_
      refine w_goto (pc' := 15) rfl (by decide) ?_
      refine w_iret rfl rfl (by first | rfl | exact am_nbB _) ?_
      rw [show q_is (nI j) 16 = true from q_is_nI (by omega) (by omega)]
      exact ⟨rfl, rfl⟩
set_option maxRecDepth 100000 in
set_option maxHeartbeats 4000000 in
theorem v_k_isMark (xs : List Int32) (m : am_Mm) (x : Int32) : am_V xs 1 31 [.int x] m (am_qi (bB (q_is x 8)) (· = m)) := by
  refine am_V_of ky_31 (Nat.le_of_ble_eq_true rfl) ?_
  show am_P xs 0 k_isMark 0 [some (.int x)] [] m _
  refine w_iload_n (pc' := 1) rfl rfl rfl ?_
  refine w_if_lt (t := 14) (pc' := 4) rfl (by decide) rfl (fun h1 => ?_) (fun h1 => ?_)
  · have hx0 : x < 0 := h1
    refine w_iconst (pc' := 15) 0 rfl rfl ic_0 ?_
    refine w_iret rfl rfl (by first | rfl | exact am_nbB _) ?_
    rw [show q_is x 8 = false from Bool.eq_false_iff.mpr (fun z => by obtain ⟨i, hi, e⟩ := q_is_of z (by omega); subst e; exact absurd hx0 (nI_pos (by omega)))]
    exact ⟨rfl, rfl⟩
  · obtain ⟨j, hj, rfl⟩ := nI_of (x := x) (Int32.not_lt.mpr (Int32.not_lt.mp h1))
    refine w_iload_n (pc' := 5) rfl rfl rfl ?_
    refine w_bipush (pc' := 7) 8 rfl rfl bp_8 ?_
    refine w_ic_ge (t := 14) (pc' := 10) rfl (by decide) rfl (fun h7 => ?_) (fun h7 => ?_)
    · have g1 : 8 ≤ j := (nI_leI (a := 8) (b := j) (by omega) (by omega)).mp h7
      refine w_iconst (pc' := 15) 0 rfl rfl ic_0 ?_
      refine w_iret rfl rfl (by first | rfl | exact am_nbB _) ?_
      rw [show q_is (nI j) 8 = false from Bool.eq_false_iff.mpr (fun z => by obtain ⟨i, hi, e⟩ := q_is_of z (by omega); have := (nI_eq (by omega) (by omega)).mp e; omega)]
      exact ⟨rfl, rfl⟩
    · have g2 : ¬ 8 ≤ j := fun q => h7 ((nI_leI (a := 8) (b := j) (by omega) (by omega)).mpr q)
      refine w_iconst (pc' := 11) 1 rfl rfl ic_1 ?_
      refine w_goto (pc' := 15) rfl (by decide) ?_
      refine w_iret rfl rfl (by first | rfl | exact am_nbB _) ?_
      rw [show q_is (nI j) 8 = true from q_is_nI (by omega) (by omega)]
      exact ⟨rfl, rfl⟩
set_option maxRecDepth 100000 in
set_option maxHeartbeats 4000000 in
theorem v_k_isDigit (xs : List Int32) (m : am_Mm) (x : Int32) : am_V xs 1 12 [.int x] m (am_qi (bB (q_is x 10)) (· = m)) := by
  refine am_V_of ky_12 (Nat.le_of_ble_eq_true rfl) ?_
  show am_P xs 0 k_isDigit 0 [some (.int x)] [] m _
  refine w_iload_n (pc' := 1) rfl rfl rfl ?_
  refine w_if_lt (t := 14) (pc' := 4) rfl (by decide) rfl (fun h1 => ?_) (fun h1 => ?_)
  · have hx0 : x < 0 := h1
    refine w_iconst (pc' := 15) 0 rfl rfl ic_0 ?_
    refine w_iret rfl rfl (by first | rfl | exact am_nbB _) ?_
    rw [show q_is x 10 = false from Bool.eq_false_iff.mpr (fun z => by obtain ⟨i, hi, e⟩ := q_is_of z (by omega); subst e; exact absurd hx0 (nI_pos (by omega)))]
    exact ⟨rfl, rfl⟩
  · obtain ⟨j, hj, rfl⟩ := nI_of (x := x) (Int32.not_lt.mpr (Int32.not_lt.mp h1))
    refine w_iload_n (pc' := 5) rfl rfl rfl ?_
    refine w_bipush (pc' := 7) 9 rfl rfl bp_9 ?_
    refine w_ic_gt (t := 14) (pc' := 10) rfl (by decide) rfl (fun h7 => ?_) (fun h7 => ?_)
    · have g1 : 9 < j := (nI_ltI (a := 9) (b := j) (by omega) (by omega)).mp h7
      refine w_iconst (pc' := 15) 0 rfl rfl ic_0 ?_
      refine w_iret rfl rfl (by first | rfl | exact am_nbB _) ?_
      rw [show q_is (nI j) 10 = false from Bool.eq_false_iff.mpr (fun z => by obtain ⟨i, hi, e⟩ := q_is_of z (by omega); have := (nI_eq (by omega) (by omega)).mp e; omega)]
      exact ⟨rfl, rfl⟩
    · have g2 : ¬ 9 < j := fun q => h7 ((nI_ltI (a := 9) (b := j) (by omega) (by omega)).mpr q)
      refine w_iconst (pc' := 11) 1 rfl rfl ic_1 ?_
      refine w_goto (pc' := 15) rfl (by decide) ?_
      refine w_iret rfl rfl (by first | rfl | exact am_nbB _) ?_
      rw [show q_is (nI j) 10 = true from q_is_nI (by omega) (by omega)]
      exact ⟨rfl, rfl⟩
set_option maxRecDepth 100000 in
set_option maxHeartbeats 4000000 in
theorem v_k_step (xs : List Int32) (m : am_Mm) {a b : Nat} (ha : a < 16) (hb : b < 4) : am_V xs 1 27 [.int (nI a), .int (nI b)] m (am_qi (nI (f_stp a b)) (· = m)) := by
  refine am_V_of ky_27 (Nat.le_of_ble_eq_true rfl) ?_
  show am_P xs 0 la_stepFrom 0 [some (.int (nI a)), some (.int (nI b)), none, none] [] m _
  refine w_iload_n (pc' := 1) rfl rfl rfl ?_
  refine w_iconst (pc' := 2) 4 rfl rfl ic_4 ?_
  refine w_idiv (pc' := 3) rfl rfl (by decide) ?_
  rw [show nI (a) / (4 : Int32) = nI (a / 4) from nI_divI (a := a) (c := 4) (by omega) (by omega) (by omega)]
  refine w_ist2 (pc' := 4) rfl rfl rfl ?_
  refine w_iload_n (pc' := 5) rfl rfl rfl ?_
  refine w_iconst (pc' := 6) 4 rfl rfl ic_4 ?_
  refine w_irem (pc' := 7) rfl rfl (by decide) ?_
  rw [show nI (a) - nI (a) / (4 : Int32) * (4 : Int32) = nI (a % 4) from nI_remI (a := a) (c := 4) (by omega) (by omega) (by omega)]
  refine w_ist3 (pc' := 8) rfl rfl rfl ?_
  refine w_iload_n (pc' := 9) rfl rfl rfl ?_
  refine w_tsw (t := 90) rfl rfl (fun hD1 => ?_) (fun z1 hl1 hh1 hz1 => ?_)
  · have eD1_0 : ¬ b = 0 := fun q => by rw [nI_toInt (by omega)] at hD1; omega
    have eD1_1 : ¬ b = 1 := fun q => by rw [nI_toInt (by omega)] at hD1; omega
    have eD1_2 : ¬ b = 2 := fun q => by rw [nI_toInt (by omega)] at hD1; omega
    have eD1_3 : ¬ b = 3 := fun q => by rw [nI_toInt (by omega)] at hD1; omega
    refine w_iload_n (pc' := 91) rfl rfl rfl ?_
    refine w_iret rfl rfl rfl ?_
    have est : f_stp a b = a := by
      unfold f_stp
      repeat' split
      all_goals omega
    rw [est]
    exact ⟨rfl, rfl⟩
  · rcases (show z1 = 0 ∨ z1 = 1 ∨ z1 = 2 ∨ z1 = 3 by omega) with rfl | rfl | rfl | rfl
    · refine ⟨31, 40, rfl, rfl, ?_⟩
      have e1 : b = 0 := by rw [nI_toInt (by omega)] at hz1; omega
      refine w_iload_n (pc' := 41) rfl rfl rfl ?_
      refine w_if_le (t := 50) (pc' := 44) rfl (by decide) rfl (fun h41 => ?_) (fun h41 => ?_)
      · have g2 : (a / 4) ≤ 0 := (nI_leI (a := (a / 4)) (b := 0) (by omega) (by omega)).mp h41
        refine w_iload_n (pc' := 51) rfl rfl rfl ?_
        refine w_iret rfl rfl rfl ?_
        have est : f_stp a b = a := by
          unfold f_stp
          repeat' split
          all_goals omega
        rw [est]
        exact ⟨rfl, rfl⟩
      · have g3 : ¬ (a / 4) ≤ 0 := fun q => h41 ((nI_leI (a := (a / 4)) (b := 0) (by omega) (by omega)).mpr q)
        refine w_iload_n (pc' := 45) rfl rfl rfl ?_
        refine w_iconst (pc' := 46) 4 rfl rfl ic_4 ?_
        refine w_isub (pc' := 47) rfl rfl ?_
        rw [show nI (a) - (4 : Int32) = nI (a - 4) from nI_subN (a := a) (b := 4) (by omega)]
        refine w_goto (pc' := 51) rfl (by decide) ?_
        refine w_iret rfl rfl rfl ?_
        have est : f_stp a b = (a - 4) := by
          unfold f_stp
          repeat' split
          all_goals omega
        rw [est]
        exact ⟨rfl, rfl⟩
    · refine ⟨43, 52, rfl, rfl, ?_⟩
      have e1 : b = 1 := by rw [nI_toInt (by omega)] at hz1; omega
      refine w_iload_n (pc' := 53) rfl rfl rfl ?_
      refine w_if_le (t := 62) (pc' := 56) rfl (by decide) rfl (fun h53 => ?_) (fun h53 => ?_)
      · have g4 : (a % 4) ≤ 0 := (nI_leI (a := (a % 4)) (b := 0) (by omega) (by omega)).mp h53
        refine w_iload_n (pc' := 63) rfl rfl rfl ?_
        refine w_iret rfl rfl rfl ?_
        have est : f_stp a b = a := by
          unfold f_stp
          repeat' split
          all_goals omega
        rw [est]
        exact ⟨rfl, rfl⟩
      · have g5 : ¬ (a % 4) ≤ 0 := fun q => h53 ((nI_leI (a := (a % 4)) (b := 0) (by omega) (by omega)).mpr q)
        refine w_iload_n (pc' := 57) rfl rfl rfl ?_
        refine w_iconst (pc' := 58) 1 rfl rfl ic_1 ?_
        refine w_isub (pc' := 59) rfl rfl ?_
        rw [show nI (a) - (1 : Int32) = nI (a - 1) from nI_subN (a := a) (b := 1) (by omega)]
        refine w_goto (pc' := 63) rfl (by decide) ?_
        refine w_iret rfl rfl rfl ?_
        have est : f_stp a b = (a - 1) := by
          unfold f_stp
          repeat' split
          all_goals omega
        rw [est]
        exact ⟨rfl, rfl⟩
    · refine ⟨55, 64, rfl, rfl, ?_⟩
      have e1 : b = 2 := by rw [nI_toInt (by omega)] at hz1; omega
      refine w_iload_n (pc' := 65) rfl rfl rfl ?_
      refine w_iconst (pc' := 66) 3 rfl rfl ic_3 ?_
      refine w_ic_ge (t := 75) (pc' := 69) rfl (by decide) rfl (fun h66 => ?_) (fun h66 => ?_)
      · have g6 : 3 ≤ (a % 4) := (nI_leI (a := 3) (b := (a % 4)) (by omega) (by omega)).mp h66
        refine w_iload_n (pc' := 76) rfl rfl rfl ?_
        refine w_iret rfl rfl rfl ?_
        have est : f_stp a b = a := by
          unfold f_stp
          repeat' split
          all_goals omega
        rw [est]
        exact ⟨rfl, rfl⟩
      · have g7 : ¬ 3 ≤ (a % 4) := fun q => h66 ((nI_leI (a := 3) (b := (a % 4)) (by omega) (by omega)).mpr q)
        refine w_iload_n (pc' := 70) rfl rfl rfl ?_
        refine w_iconst (pc' := 71) 1 rfl rfl ic_1 ?_
        refine w_iadd (pc' := 72) rfl rfl ?_
        rw [show nI (a) + (1 : Int32) = nI (a + 1) from nI_add _ _]
        refine w_goto (pc' := 76) rfl (by decide) ?_
        refine w_iret rfl rfl rfl ?_
        have est : f_stp a b = a + 1 := by
          unfold f_stp
          repeat' split
          all_goals omega
        rw [est]
        exact ⟨rfl, rfl⟩
    · refine ⟨68, 77, rfl, rfl, ?_⟩
      have e1 : b = 3 := by rw [nI_toInt (by omega)] at hz1; omega
      refine w_iload_n (pc' := 78) rfl rfl rfl ?_
      refine w_iconst (pc' := 79) 3 rfl rfl ic_3 ?_
      refine w_ic_ge (t := 88) (pc' := 82) rfl (by decide) rfl (fun h79 => ?_) (fun h79 => ?_)
      · have g8 : 3 ≤ (a / 4) := (nI_leI (a := 3) (b := (a / 4)) (by omega) (by omega)).mp h79
        refine w_iload_n (pc' := 89) rfl rfl rfl ?_
        refine w_iret rfl rfl rfl ?_
        have est : f_stp a b = a := by
          unfold f_stp
          repeat' split
          all_goals omega
        rw [est]
        exact ⟨rfl, rfl⟩
      · have g9 : ¬ 3 ≤ (a / 4) := fun q => h79 ((nI_leI (a := 3) (b := (a / 4)) (by omega) (by omega)).mpr q)
        refine w_iload_n (pc' := 83) rfl rfl rfl ?_
        refine w_iconst (pc' := 84) 4 rfl rfl ic_4 ?_
        refine w_iadd (pc' := 85) rfl rfl ?_
        rw [show nI (a) + (4 : Int32) = nI (a + 4) from nI_add _ _]
        refine w_goto (pc' := 89) rfl (by decide) ?_
        refine w_iret rfl rfl rfl ?_
        have est : f_stp a b = a + 4 := by
          unfold f_stp
          repeat' split
          all_goals omega
        rw [est]
        exact ⟨rfl, rfl⟩
set_option maxRecDepth 100000 in
set_option maxHeartbeats 4000000 in
theorem v_la_markAt (xs : List Int32) {b : Nat} (hb : q_isL b) {T : q_T} {m : am_Mm} (hR : q_Rl b T m) {i : Nat} (hi : i < 16) : am_V xs 1 19 [.ref b, .int (nI i)] m (am_qi (nI (T.1 162 i)) (· = m)) := by
  refine am_V_of ky_19 (Nat.le_of_ble_eq_true rfl) ?_
  show am_P xs 0 la_markAt 0 [some (.ref b), some (.int (nI i))] [] m _
  refine w_iload_n (pc' := 1) rfl rfl rfl ?_
  refine w_if_lt (t := 19) (pc' := 4) rfl (by decide) rfl (fun h1 => ?_) (fun h1 => ?_)
  · have g1 : i < 0 := (nI_ltI (a := i) (b := 0) (by omega) (by omega)).mp h1
    omega
  · have g2 : ¬ i < 0 := fun q => h1 ((nI_ltI (a := i) (b := 0) (by omega) (by omega)).mpr q)
    refine w_iload_n (pc' := 5) rfl rfl rfl ?_
    refine w_bipush (pc' := 7) 16 rfl rfl bp_16 ?_
    refine w_ic_ge (t := 19) (pc' := 10) rfl (by decide) rfl (fun h7 => ?_) (fun h7 => ?_)
    · have g3 : 16 ≤ i := (nI_leI (a := 16) (b := i) (by omega) (by omega)).mp h7
      omega
    · have g4 : ¬ 16 ≤ i := fun q => h7 ((nI_leI (a := 16) (b := i) (by omega) (by omega)).mpr q)
      refine w_aload_n (pc' := 11) rfl rfl rfl rfl ?_
      refine w_getC (pc' := 14) rfl rfl rfl (shL hb) rfl ?_
      refine w_iload_n (pc' := 15) rfl rfl rfl ?_
      refine w_iald (j := (i)) (pc' := 16) rfl rfl (shLm hb) rfl (by omega) (by decide) ?_
      rw [show m.1 (b + 1) i = nI (T.1 162 i) from hR.2.2.2.2.1 i (by omega)]
      refine w_goto (pc' := 20) rfl (by decide) ?_
      refine w_iret rfl rfl rfl ?_
      exact ⟨rfl, rfl⟩
set_option maxRecDepth 100000 in
set_option maxHeartbeats 4000000 in
theorem v_la_drawerS (xs : List Int32) {b : Nat} (hb : q_isL b) {T : q_T} {m : am_Mm} (hR : q_Rl b T m) (hB : q_Bd T) {p : Nat} (hp : p < T.1 153 0) : am_V xs 1 16 [.ref b, .int (nI p)] m (am_qa (.ref (b + 6 + 4 * p)) (· = m)) := by
  have hb1 := q_isL_lt hb
  have hn0 : T.1 153 0 < 7 := hB 153 0
  refine am_V_of ky_16 (Nat.le_of_ble_eq_true rfl) ?_
  show am_P xs 0 la_drawerAt 0 [some (.ref b), some (.int (nI p))] [] m _
  refine w_iload_n (pc' := 1) rfl rfl rfl ?_
  refine w_if_lt (t := 27) (pc' := 4) rfl (by decide) rfl (fun h1 => ?_) (fun h1 => ?_)
  · have g1 : p < 0 := (nI_ltI (a := p) (b := 0) (by omega) (by omega)).mp h1
    omega
  · have g2 : ¬ p < 0 := fun q => h1 ((nI_ltI (a := p) (b := 0) (by omega) (by omega)).mpr q)
    refine w_iload_n (pc' := 5) rfl rfl rfl ?_
    refine w_aload_n (pc' := 6) rfl rfl rfl rfl ?_
    refine w_getI (pc' := 9) rfl rfl rfl (shL hb) rfl ?_
    have b3 : T.1 153 0 < 7 := hB 153 (0)
    rw [show m.1 b 5 = nI (T.1 153 0) from hR.1]
    refine w_ic_ge (t := 27) (pc' := 12) rfl (by decide) rfl (fun h9 => ?_) (fun h9 => ?_)
    · have g4 : (T.1 153 0) ≤ p := (nI_leI (a := (T.1 153 0)) (b := p) (by omega) (by omega)).mp h9
      omega
    · have g5 : ¬ (T.1 153 0) ≤ p := fun q => h9 ((nI_leI (a := (T.1 153 0)) (b := p) (by omega) (by omega)).mpr q)
      refine w_iload_n (pc' := 13) rfl rfl rfl ?_
      refine w_bipush (pc' := 15) 6 rfl rfl bp_6 ?_
      refine w_ic_ge (t := 27) (pc' := 18) rfl (by decide) rfl (fun h15 => ?_) (fun h15 => ?_)
      · have g6 : 6 ≤ p := (nI_leI (a := 6) (b := p) (by omega) (by omega)).mp h15
        omega
      · have g7 : ¬ 6 ≤ p := fun q => h15 ((nI_leI (a := 6) (b := p) (by omega) (by omega)).mpr q)
        refine w_aload_n (pc' := 19) rfl rfl rfl rfl ?_
        refine w_getC (pc' := 22) rfl rfl rfl (shL hb) rfl ?_
        refine w_iload_n (pc' := 23) rfl rfl rfl ?_
        refine w_aald (j := p) (a := (b + 6 + 4 * p)) (pc' := 24) rfl rfl (shLd hb) rfl (drD (b := b) (p := p) (by omega)) (by omega) (am_sh_lt (shD hb (p := p) (by omega))) ?_
        refine w_goto (pc' := 28) rfl (by decide) ?_
        refine w_aret rfl (by first | exact Or.inl ⟨_, rfl⟩ | exact Or.inr ⟨_, rfl⟩) rfl ?_
        exact ⟨rfl, rfl⟩
set_option maxRecDepth 100000 in
set_option maxHeartbeats 4000000 in
theorem v_la_drawerN (xs : List Int32) {b : Nat} (hb : q_isL b) {T : q_T} {m : am_Mm} (hR : q_Rl b T m) (hB : q_Bd T) {x : Int32} (hx : q_is x (T.1 153 0) = false) : am_V xs 1 16 [.ref b, .int x] m (am_qa .null (· = m)) := by
  have hb1 := q_isL_lt hb
  have hn0 : T.1 153 0 < 7 := hB 153 0
  refine am_V_of ky_16 (Nat.le_of_ble_eq_true rfl) ?_
  show am_P xs 0 la_drawerAt 0 [some (.ref b), some (.int x)] [] m _
  refine w_iload_n (pc' := 1) rfl rfl rfl ?_
  refine w_if_lt (t := 27) (pc' := 4) rfl (by decide) rfl (fun h1 => ?_) (fun h1 => ?_)
  · refine w_null (pc' := 28) rfl rfl ?_
    refine w_aret rfl (by first | exact Or.inl ⟨_, rfl⟩ | exact Or.inr ⟨_, rfl⟩) rfl ?_
    exact ⟨rfl, rfl⟩
  · obtain ⟨j, hj, rfl⟩ := nI_of (x := x) (Int32.not_lt.mpr (Int32.not_lt.mp h1))
    refine w_iload_n (pc' := 5) rfl rfl rfl ?_
    have g0 := (nI_leI (a := T.1 153 0) (b := j) (by omega) (by omega)).mp (Int32.not_lt.mp (fun z => by have := q_is_nI ((nI_ltI hj (by omega)).mp z) (show T.1 153 0 < 2 ^ 31 by omega); rw [this] at hx; exact absurd hx (by decide)))
    refine w_aload_n (pc' := 6) rfl rfl rfl rfl ?_
    refine w_getI (pc' := 9) rfl rfl rfl (shL hb) rfl ?_
    have b1 : T.1 153 0 < 7 := hB 153 (0)
    rw [show m.1 b 5 = nI (T.1 153 0) from hR.1]
    refine w_ic_ge (t := 27) (pc' := 12) rfl (by decide) rfl (fun h9 => ?_) (fun h9 => ?_)
    · have g2 : (T.1 153 0) ≤ j := (nI_leI (a := (T.1 153 0)) (b := j) (by omega) (by omega)).mp h9
      refine w_null (pc' := 28) rfl rfl ?_
      refine w_aret rfl (by first | exact Or.inl ⟨_, rfl⟩ | exact Or.inr ⟨_, rfl⟩) rfl ?_
      exact ⟨rfl, rfl⟩
    · have g3 : ¬ (T.1 153 0) ≤ j := fun q => h9 ((nI_leI (a := (T.1 153 0)) (b := j) (by omega) (by omega)).mpr q)
      omega
set_option maxRecDepth 100000 in
set_option maxHeartbeats 4000000 in
theorem v_la_whereIs (xs : List Int32) {b : Nat} (hb : q_isL b) {T : q_T} {m : am_Mm} (hR : q_Rl b T m) (hB : q_Bd T) {p : Nat} (hp : p < T.1 153 0) : am_V xs 2 40 [.ref b, .int (nI p)] m (am_qi (nI (T.1 156 p)) (· = m)) := by
  have hb1 := q_isL_lt hb
  have hn0 : T.1 153 0 < 7 := hB 153 0
  refine am_V_of ky_40 (Nat.le_of_ble_eq_true rfl) ?_
  show am_P xs 1 la_whereIs 0 [some (.ref b), some (.int (nI p)), none] [] m _
  refine w_aload_n (pc' := 1) rfl rfl rfl rfl ?_
  refine w_iload_n (pc' := 2) rfl rfl rfl ?_
  refine w_cV1a (pc' := 5) (v_la_drawerS xs hb hR hB hp) (by decide) rfl rfl rfl (Nat.le_of_ble_eq_true rfl) (shL hb) rfl (fun m' hm' => ?_)
  rw [show m' = m from hm']
  clear hm' m'
  refine w_ast2 (pc' := 6) rfl rfl rfl rfl ?_
  refine w_aload_n (pc' := 7) rfl rfl rfl rfl ?_
  refine w_ifnonnullR (pc' := 14) rfl (by decide) (by omega) ?_
  refine w_aload_n (pc' := 15) rfl rfl rfl rfl ?_
  refine w_getI (pc' := 18) rfl rfl rfl (shD hb (p := p) (by omega)) rfl ?_
  have b1 : T.1 156 p < 16 := hB 156 (p)
  rw [show m.1 (b + 6 + 4 * p) 3 = nI (T.1 156 p) from (hR.2.2.2.2.2 p (by omega)).2.2.1]
  refine w_iret rfl rfl rfl ?_
  exact ⟨rfl, rfl⟩
/-- one that goes -/
def q_gs (T : q_T) (p : Nat) : Bool := decide (T.1 158 p = 0 ∧ T.1 157 p < 8)
set_option maxRecDepth 100000 in
set_option maxHeartbeats 4000000 in
theorem v_dr_goes (xs : List Int32) {b : Nat} (hb : q_isL b) {T : q_T} {m : am_Mm} (hR : q_Rl b T m) (hB : q_Bd T) {p : Nat} (hp : p < T.1 153 0) : am_V xs 1 43 [.ref (b + 6 + 4 * p)] m (am_qi (bB (q_gs T p)) (· = m)) := by
  have hb1 := q_isL_lt hb
  have hn0 : T.1 153 0 < 7 := hB 153 0
  refine am_V_of ky_43 (Nat.le_of_ble_eq_true rfl) ?_
  show am_P xs 0 dr_goes 0 [some (.ref (b + 6 + 4 * p))] [] m _
  refine w_aload_n (pc' := 1) rfl rfl rfl rfl ?_
  refine w_getB (pc' := 4) rfl rfl rfl (shD hb (p := p) (by omega)) rfl ?_
  have b1 : T.1 158 p < 2 := hB 158 (p)
  rw [show m.1 (b + 6 + 4 * p) 6 = nI (T.1 158 p) from (hR.2.2.2.2.2 p (by omega)).2.2.2.2.2.1, am_b_n (by omega)]
  refine w_if_ne (t := 20) (pc' := 7) rfl (by decide) rfl (fun h4 => ?_) (fun h4 => ?_)
  · have g2 : ¬ (T.1 158 p) = 0 := fun q => h4 ((nI_eq (a := (T.1 158 p)) (b := 0) (by omega) (by omega)).mpr q)
    refine w_iconst (pc' := 21) 0 rfl rfl ic_0 ?_
    refine w_iret rfl rfl (by first | rfl | exact am_nbB _) ?_
    rw [show q_gs T p = false from decide_eq_false (fun z => by omega)]
    exact ⟨rfl, rfl⟩
  · have g3 : (T.1 158 p) = 0 := (nI_eq (a := (T.1 158 p)) (b := 0) (by omega) (by omega)).mp h4
    refine w_aload_n (pc' := 8) rfl rfl rfl rfl ?_
    refine w_getI (pc' := 11) rfl rfl rfl (shD hb (p := p) (by omega)) rfl ?_
    have b4 : T.1 157 p < 9 := hB 157 (p)
    rw [show m.1 (b + 6 + 4 * p) 4 = nI (T.1 157 p) from (hR.2.2.2.2.2 p (by omega)).2.2.2.1]
    refine w_bipush (pc' := 13) 8 rfl rfl bp_8 ?_
    refine w_ic_ge (t := 20) (pc' := 16) rfl (by decide) rfl (fun h13 => ?_) (fun h13 => ?_)
    · have g5 : 8 ≤ (T.1 157 p) := (nI_leI (a := 8) (b := (T.1 157 p)) (by omega) (by omega)).mp h13
      refine w_iconst (pc' := 21) 0 rfl rfl ic_0 ?_
      refine w_iret rfl rfl (by first | rfl | exact am_nbB _) ?_
      rw [show q_gs T p = false from decide_eq_false (fun z => by omega)]
      exact ⟨rfl, rfl⟩
    · have g6 : ¬ 8 ≤ (T.1 157 p) := fun q => h13 ((nI_leI (a := 8) (b := (T.1 157 p)) (by omega) (by omega)).mpr q)
      refine w_iconst (pc' := 17) 1 rfl rfl ic_1 ?_
      refine w_goto (pc' := 21) rfl (by decide) ?_
      refine w_iret rfl rfl (by first | rfl | exact am_nbB _) ?_
      rw [show q_gs T p = true from decide_eq_true ⟨by omega, by omega⟩]
      exact ⟨rfl, rfl⟩
theorem nI_shl0 (k : Nat) (h : k < 32) : nI 0 <<< (nI k &&& 31) = 0 := b_ext (fun i hi => by
  rw [b_shl k h _ hi, show bt (nI 0) (i - k) = false from b_0 _, Bool.and_false]
  exact (b_0 i).symm)
theorem i_or0 (a : Int32) : a ||| 0 = a := b_ext (fun i _ => by rw [b_or, b_0, Bool.or_false])
set_option maxRecDepth 100000 in
set_option maxHeartbeats 4000000 in
theorem lp_doneBits (xs : List Int32) {b : Nat} (hb : q_isL b) {T : q_T} {m : am_Mm} (hR : q_Rl b T m) (hB : q_Bd T) : ∀ (r k : Nat), k + r = T.1 153 0 → ∀ (a : Int32), am_P xs 0 la_doneBits 4 [some (.ref b), some (.int a), some (.int (nI k))] [] m (am_qi (adq T r k a) (· = m)) := by
  intro r
  induction r with
  | zero =>
    intro k hk a
    have hb1 := q_isL_lt hb
    have hn0 : T.1 153 0 < 7 := hB 153 0
    refine w_iload_n (pc' := 5) rfl rfl rfl ?_
    refine w_aload_n (pc' := 6) rfl rfl rfl rfl ?_
    refine w_getI (pc' := 9) rfl rfl rfl (shL hb) rfl ?_
    have b1 : T.1 153 0 < 7 := hB 153 (0)
    rw [show m.1 b 5 = nI (T.1 153 0) from hR.1]
    refine w_ic_ge (t := 42) (pc' := 12) rfl (by decide) rfl (fun h9 => ?_) (fun h9 => ?_)
    · have g2 : (T.1 153 0) ≤ k := (nI_leI (a := (T.1 153 0)) (b := k) (by omega) (by omega)).mp h9
      refine w_iload_n (pc' := 43) rfl rfl rfl ?_
      refine w_iret rfl rfl rfl ?_
      exact ⟨rfl, rfl⟩
    · have g3 : ¬ (T.1 153 0) ≤ k := fun q => h9 ((nI_leI (a := (T.1 153 0)) (b := k) (by omega) (by omega)).mpr q)
      omega
  | succ r ih =>
    intro k hk a
    have hb1 := q_isL_lt hb
    have hn0 : T.1 153 0 < 7 := hB 153 0
    refine w_iload_n (pc' := 5) rfl rfl rfl ?_
    refine w_aload_n (pc' := 6) rfl rfl rfl rfl ?_
    refine w_getI (pc' := 9) rfl rfl rfl (shL hb) rfl ?_
    have b1 : T.1 153 0 < 7 := hB 153 (0)
    rw [show m.1 b 5 = nI (T.1 153 0) from hR.1]
    refine w_ic_ge (t := 42) (pc' := 12) rfl (by decide) rfl (fun h9 => ?_) (fun h9 => ?_)
    · have g2 : (T.1 153 0) ≤ k := (nI_leI (a := (T.1 153 0)) (b := k) (by omega) (by omega)).mp h9
      omega
    · have g3 : ¬ (T.1 153 0) ≤ k := fun q => h9 ((nI_leI (a := (T.1 153 0)) (b := k) (by omega) (by omega)).mpr q)
      refine w_iload_n (pc' := 13) rfl rfl rfl ?_
      refine w_bipush (pc' := 15) 6 rfl rfl bp_6 ?_
      refine w_ic_ge (t := 42) (pc' := 18) rfl (by decide) rfl (fun h15 => ?_) (fun h15 => ?_)
      · have g4 : 6 ≤ k := (nI_leI (a := 6) (b := k) (by omega) (by omega)).mp h15
        omega
      · have g5 : ¬ 6 ≤ k := fun q => h15 ((nI_leI (a := 6) (b := k) (by omega) (by omega)).mpr q)
        refine w_aload_n (pc' := 19) rfl rfl rfl rfl ?_
        refine w_getC (pc' := 22) rfl rfl rfl (shL hb) rfl ?_
        refine w_iload_n (pc' := 23) rfl rfl rfl ?_
        refine w_aald (j := k) (a := (b + 6 + 4 * k)) (pc' := 24) rfl rfl (shLd hb) rfl (drD (b := b) (p := k) (by omega)) (by omega) (am_sh_lt (shD hb (p := k) (by omega))) ?_
        refine w_getB (pc' := 27) rfl rfl rfl (shD hb (p := k) (by omega)) rfl ?_
        have b6 : T.1 158 k < 2 := hB 158 (k)
        rw [show m.1 (b + 6 + 4 * k) 6 = nI (T.1 158 k) from (hR.2.2.2.2.2 k (by omega)).2.2.2.2.2.1, am_b_n (by omega)]
        refine w_if_eq (t := 36) (pc' := 30) rfl (by decide) rfl (fun h27 => ?_) (fun h27 => ?_)
        · have g7 : (T.1 158 k) = 0 := (nI_eq (a := (T.1 158 k)) (b := 0) (by omega) (by omega)).mp h27
          refine w_iinc2 (pc' := 39) 1 rfl rfl ic_1 rfl ?_
          rw [nI_inc]
          refine w_goto (pc' := 4) rfl (by decide) ?_
          rw [show adq T (r + 1) k a = adq T r (k + 1) a from congrArg (adq T r (k + 1)) (by rw [show T.1 158 k = 0 by omega, show nI 0 <<< (nI k &&& 31) = 0 from nI_shl0 k (by omega)]; exact i_or0 _)]
          exact ih (k + 1) (by omega) a
        · have g8 : ¬ (T.1 158 k) = 0 := fun q => h27 ((nI_eq (a := (T.1 158 k)) (b := 0) (by omega) (by omega)).mpr q)
          refine w_iload_n (pc' := 31) rfl rfl rfl ?_
          refine w_iconst (pc' := 32) 1 rfl rfl ic_1 ?_
          refine w_iload_n (pc' := 33) rfl rfl rfl ?_
          refine w_ishl (pc' := 34) rfl rfl ?_
          refine w_ior (pc' := 35) rfl rfl ?_
          refine w_ist1 (pc' := 36) rfl rfl rfl ?_
          refine w_iinc2 (pc' := 39) 1 rfl rfl ic_1 rfl ?_
          rw [nI_inc]
          refine w_goto (pc' := 4) rfl (by decide) ?_
          rw [show adq T (r + 1) k a = adq T r (k + 1) (a ||| ((1 : Int32) <<< (nI k &&& 31))) from congrArg (fun z => adq T r (k + 1) (a ||| (nI z <<< (nI k &&& 31)))) (show T.1 158 k = 1 by omega)]
          exact ih (k + 1) (by omega) _
set_option maxRecDepth 100000 in
set_option maxHeartbeats 4000000 in
theorem v_la_doneBits (xs : List Int32) {b : Nat} (hb : q_isL b) {T : q_T} {m : am_Mm} (hR : q_Rl b T m) (hB : q_Bd T) : am_V xs 1 82 [.ref b] m (am_qi (f_ad T) (· = m)) := by
  refine am_V_of ky_82 (Nat.le_of_ble_eq_true rfl) ?_
  show am_P xs 0 la_doneBits 0 [some (.ref b), none, none] [] m _
  refine w_iconst (pc' := 1) 0 rfl rfl ic_0 ?_
  refine w_ist1 (pc' := 2) rfl rfl rfl ?_
  refine w_iconst (pc' := 3) 0 rfl rfl ic_0 ?_
  refine w_ist2 (pc' := 4) rfl rfl rfl ?_
  exact lp_doneBits xs hb hR hB (T.1 153 0) 0 (by omega) 0
set_option maxRecDepth 100000 in
set_option maxHeartbeats 4000000 in
theorem lp_drewOfAll (xs : List Int32) {b : Nat} (hb : q_isL b) {T : q_T} {m : am_Mm} (hR : q_Rl b T m) (hB : q_Bd T) : ∀ (r k : Nat), k + r = T.1 153 0 → ∀ (c : Nat), am_P xs 0 la_drewOfAll 4 [some (.ref b), some (.int (nI c)), some (.int (nI k))] [] m (am_qi (nI (c + odr T r k)) (· = m)) := by
  intro r
  induction r with
  | zero =>
    intro k hk c
    have hb1 := q_isL_lt hb
    have hn0 : T.1 153 0 < 7 := hB 153 0
    refine w_iload_n (pc' := 5) rfl rfl rfl ?_
    refine w_aload_n (pc' := 6) rfl rfl rfl rfl ?_
    refine w_getI (pc' := 9) rfl rfl rfl (shL hb) rfl ?_
    have b1 : T.1 153 0 < 7 := hB 153 (0)
    rw [show m.1 b 5 = nI (T.1 153 0) from hR.1]
    refine w_ic_ge (t := 36) (pc' := 12) rfl (by decide) rfl (fun h9 => ?_) (fun h9 => ?_)
    · have g2 : (T.1 153 0) ≤ k := (nI_leI (a := (T.1 153 0)) (b := k) (by omega) (by omega)).mp h9
      refine w_iload_n (pc' := 37) rfl rfl rfl ?_
      refine w_iret rfl rfl rfl ?_
      exact ⟨rfl, rfl⟩
    · have g3 : ¬ (T.1 153 0) ≤ k := fun q => h9 ((nI_leI (a := (T.1 153 0)) (b := k) (by omega) (by omega)).mpr q)
      omega
  | succ r ih =>
    intro k hk c
    have hb1 := q_isL_lt hb
    have hn0 : T.1 153 0 < 7 := hB 153 0
    refine w_iload_n (pc' := 5) rfl rfl rfl ?_
    refine w_aload_n (pc' := 6) rfl rfl rfl rfl ?_
    refine w_getI (pc' := 9) rfl rfl rfl (shL hb) rfl ?_
    have b1 : T.1 153 0 < 7 := hB 153 (0)
    rw [show m.1 b 5 = nI (T.1 153 0) from hR.1]
    refine w_ic_ge (t := 36) (pc' := 12) rfl (by decide) rfl (fun h9 => ?_) (fun h9 => ?_)
    · have g2 : (T.1 153 0) ≤ k := (nI_leI (a := (T.1 153 0)) (b := k) (by omega) (by omega)).mp h9
      omega
    · have g3 : ¬ (T.1 153 0) ≤ k := fun q => h9 ((nI_leI (a := (T.1 153 0)) (b := k) (by omega) (by omega)).mpr q)
      refine w_iload_n (pc' := 13) rfl rfl rfl ?_
      refine w_bipush (pc' := 15) 6 rfl rfl bp_6 ?_
      refine w_ic_ge (t := 36) (pc' := 18) rfl (by decide) rfl (fun h15 => ?_) (fun h15 => ?_)
      · have g4 : 6 ≤ k := (nI_leI (a := 6) (b := k) (by omega) (by omega)).mp h15
        omega
      · have g5 : ¬ 6 ≤ k := fun q => h15 ((nI_leI (a := 6) (b := k) (by omega) (by omega)).mpr q)
        refine w_iload_n (pc' := 19) rfl rfl rfl ?_
        refine w_aload_n (pc' := 20) rfl rfl rfl rfl ?_
        refine w_getC (pc' := 23) rfl rfl rfl (shL hb) rfl ?_
        refine w_iload_n (pc' := 24) rfl rfl rfl ?_
        refine w_aald (j := k) (a := (b + 6 + 4 * k)) (pc' := 25) rfl rfl (shLd hb) rfl (drD (b := b) (p := k) (by omega)) (by omega) (am_sh_lt (shD hb (p := k) (by omega))) ?_
        refine w_getI (pc' := 28) rfl rfl rfl (shD hb (p := k) (by omega)) rfl ?_
        rw [show m.1 (b + 6 + 4 * k) 5 = nI (T.1 159 k) from (hR.2.2.2.2.2 k (by omega)).2.2.2.2.1]
        refine w_iadd (pc' := 29) rfl rfl ?_
        rw [show nI (c) + nI ((T.1 159 k)) = nI (c + (T.1 159 k)) from nI_add _ _]
        refine w_ist1 (pc' := 30) rfl rfl rfl ?_
        refine w_iinc2 (pc' := 33) 1 rfl rfl ic_1 rfl ?_
        rw [nI_inc]
        refine w_goto (pc' := 4) rfl (by decide) ?_
        rw [show c + odr T (r + 1) k = c + T.1 159 k + odr T r (k + 1) by rw [odr]; omega]
        exact ih (k + 1) (by omega) _
set_option maxRecDepth 100000 in
set_option maxHeartbeats 4000000 in
theorem v_la_drewOfAll (xs : List Int32) {b : Nat} (hb : q_isL b) {T : q_T} {m : am_Mm} (hR : q_Rl b T m) (hB : q_Bd T) : am_V xs 1 105 [.ref b] m (am_qi (nI (f_od T)) (· = m)) := by
  refine am_V_of ky_105 (Nat.le_of_ble_eq_true rfl) ?_
  show am_P xs 0 la_drewOfAll 0 [some (.ref b), none, none] [] m _
  refine w_iconst (pc' := 1) 0 rfl rfl ic_0 ?_
  refine w_ist1 (pc' := 2) rfl rfl rfl ?_
  refine w_iconst (pc' := 3) 0 rfl rfl ic_0 ?_
  refine w_ist2 (pc' := 4) rfl rfl rfl ?_
  have e0 := lp_drewOfAll xs hb hR hB (T.1 153 0) 0 (by omega) 0
  rw [Nat.zero_add] at e0
  exact e0
def agq (T : q_T) : Nat → Nat → Bool
  | 0, _ => false
  | r + 1, k => q_gs T k || agq T r (k + 1)
def f_ag (T : q_T) : Bool := agq T (T.1 153 0) 0
set_option maxRecDepth 100000 in
set_option maxHeartbeats 4000000 in
theorem lp_anyGoes (xs : List Int32) {b : Nat} (hb : q_isL b) {T : q_T} {m : am_Mm} (hR : q_Rl b T m) (hB : q_Bd T) : ∀ (r k : Nat), k + r = T.1 153 0 → am_P xs 1 la_anyGoes 2 [some (.ref b), some (.int (nI k))] [] m (am_qi (bB (agq T r k)) (· = m)) := by
  intro r
  induction r with
  | zero =>
    intro k hk
    have hb1 := q_isL_lt hb
    have hn0 : T.1 153 0 < 7 := hB 153 0
    refine w_iload_n (pc' := 3) rfl rfl rfl ?_
    refine w_aload_n (pc' := 4) rfl rfl rfl rfl ?_
    refine w_getI (pc' := 7) rfl rfl rfl (shL hb) rfl ?_
    have b1 : T.1 153 0 < 7 := hB 153 (0)
    rw [show m.1 b 5 = nI (T.1 153 0) from hR.1]
    refine w_ic_ge (t := 36) (pc' := 10) rfl (by decide) rfl (fun h7 => ?_) (fun h7 => ?_)
    · have g2 : (T.1 153 0) ≤ k := (nI_leI (a := (T.1 153 0)) (b := k) (by omega) (by omega)).mp h7
      refine w_iconst (pc' := 37) 0 rfl rfl ic_0 ?_
      refine w_iret rfl rfl (by first | rfl | exact am_nbB _) ?_
      exact ⟨rfl, rfl⟩
    · have g3 : ¬ (T.1 153 0) ≤ k := fun q => h7 ((nI_leI (a := (T.1 153 0)) (b := k) (by omega) (by omega)).mpr q)
      omega
  | succ r ih =>
    intro k hk
    have hb1 := q_isL_lt hb
    have hn0 : T.1 153 0 < 7 := hB 153 0
    refine w_iload_n (pc' := 3) rfl rfl rfl ?_
    refine w_aload_n (pc' := 4) rfl rfl rfl rfl ?_
    refine w_getI (pc' := 7) rfl rfl rfl (shL hb) rfl ?_
    have b1 : T.1 153 0 < 7 := hB 153 (0)
    rw [show m.1 b 5 = nI (T.1 153 0) from hR.1]
    refine w_ic_ge (t := 36) (pc' := 10) rfl (by decide) rfl (fun h7 => ?_) (fun h7 => ?_)
    · have g2 : (T.1 153 0) ≤ k := (nI_leI (a := (T.1 153 0)) (b := k) (by omega) (by omega)).mp h7
      omega
    · have g3 : ¬ (T.1 153 0) ≤ k := fun q => h7 ((nI_leI (a := (T.1 153 0)) (b := k) (by omega) (by omega)).mpr q)
      refine w_iload_n (pc' := 11) rfl rfl rfl ?_
      refine w_bipush (pc' := 13) 6 rfl rfl bp_6 ?_
      refine w_ic_ge (t := 36) (pc' := 16) rfl (by decide) rfl (fun h13 => ?_) (fun h13 => ?_)
      · have g4 : 6 ≤ k := (nI_leI (a := 6) (b := k) (by omega) (by omega)).mp h13
        omega
      · have g5 : ¬ 6 ≤ k := fun q => h13 ((nI_leI (a := 6) (b := k) (by omega) (by omega)).mpr q)
        refine w_aload_n (pc' := 17) rfl rfl rfl rfl ?_
        refine w_getC (pc' := 20) rfl rfl rfl (shL hb) rfl ?_
        refine w_iload_n (pc' := 21) rfl rfl rfl ?_
        refine w_aald (j := k) (a := (b + 6 + 4 * k)) (pc' := 22) rfl rfl (shLd hb) rfl (drD (b := b) (p := k) (by omega)) (by omega) (am_sh_lt (shD hb (p := k) (by omega))) ?_
        refine w_cV0i (pc' := 25) (v_dr_goes xs hb hR hB (p := k) (by omega)) (by decide) rfl rfl rfl (Nat.le_of_ble_eq_true rfl) (shD hb (p := k) (by omega)) rfl (fun m' hm' => ?_)
        rw [show m' = m from hm']
        clear hm' m'
        refine w_if_eq (t := 30) (pc' := 28) rfl (by decide) rfl (fun h25 => ?_) (fun h25 => ?_)
        · have hb6 : q_gs T k = false := bB_0.mp h25
          refine w_iinc1 (pc' := 33) 1 rfl rfl ic_1 rfl ?_
          rw [nI_inc]
          refine w_goto (pc' := 2) rfl (by decide) ?_
          rw [show agq T (r + 1) k = agq T r (k + 1) by rw [agq, hb6]; rfl]
          exact ih (k + 1) (by omega)
        · have hb7 : q_gs T k = true := bB_n0.mp h25
          refine w_iconst (pc' := 29) 1 rfl rfl ic_1 ?_
          refine w_iret rfl rfl (by first | rfl | exact am_nbB _) ?_
          rw [show agq T (r + 1) k = true by rw [agq, hb7]; rfl]
          exact ⟨rfl, rfl⟩
set_option maxRecDepth 100000 in
set_option maxHeartbeats 4000000 in
theorem v_la_anyGoes (xs : List Int32) {b : Nat} (hb : q_isL b) {T : q_T} {m : am_Mm} (hR : q_Rl b T m) (hB : q_Bd T) : am_V xs 2 42 [.ref b] m (am_qi (bB (f_ag T)) (· = m)) := by
  refine am_V_of ky_42 (Nat.le_of_ble_eq_true rfl) ?_
  show am_P xs 1 la_anyGoes 0 [some (.ref b), none] [] m _
  refine w_iconst (pc' := 1) 0 rfl rfl ic_0 ?_
  refine w_ist1 (pc' := 2) rfl rfl rfl ?_
  exact lp_anyGoes xs hb hR hB (T.1 153 0) 0 (by omega)
