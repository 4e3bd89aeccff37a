theorem lg_ltS {a b c : Nat} (ha : a < 2 ^ 31) (hb : b < 2 ^ 31) (hc : c < 2 ^ 31) : lg_cmp ((nI a).toInt64 + (nI b).toInt64) (nI c).toInt64 < 0 ↔ a + b < c := by
  rw [nI_l ha, nI_l hb, nI_l hc, lN_add, lg_cmp_lt, Int64.lt_iff_toInt_lt]
  show (Int64.ofNat (a + b)).toInt < (Int64.ofNat c).toInt ↔ _
  rw [lg_ofNat_toInt (by omega), lg_ofNat_toInt (by omega)]
  omega
theorem lg_leS {a b c : Nat} (ha : a < 2 ^ 31) (hb : b < 2 ^ 31) (hc : c < 2 ^ 31) : lg_cmp ((nI a).toInt64 + (nI b).toInt64) (nI c).toInt64 ≤ 0 ↔ a + b ≤ c := by
  rw [nI_l ha, nI_l hb, nI_l hc, lN_add, lg_cmp_le, Int64.le_iff_toInt_le]
  show (Int64.ofNat (a + b)).toInt ≤ (Int64.ofNat c).toInt ↔ _
  rw [lg_ofNat_toInt (by omega), lg_ofNat_toInt (by omega)]
  omega
def jd (T : q_T) (t : Nat) (i : Int32) : Nat → Nat → Int32
  | 0, _ => -5
  | r + 1, k => if T.1 182 t = 0 ∨ i < 0 ∨ ¬ i.toNatClampNeg + k < T.1 183 t then nI (100 + k) else if T.2.2 t (i.toNatClampNeg + k) = (nI (T.1 162 k)).toInt64 then jd T t i r (k + 1) else nI k
def f_judge (T : q_T) (t i : Int32) : Int32 × q_T := if q_is t 6 = true then (if 1 < T.1 182 t.toNatClampNeg then (-12, T) else (jd T t.toNatClampNeg i 16 0, T)) else (-1, T)
set_option maxRecDepth 100000 in
set_option maxHeartbeats 4000000 in
theorem lp_judge (xs : List Int32) {T : q_T} {m m0 : am_Mm} (h : q_Rm T m) (hB : q_Bd T) (hF : q_FC m0 m) {j : Nat} (hj : j < 6) (i : Int32) : ∀ (r k : Nat), k + r = 16 → am_P xs 2 m_judge 35 [some (.ref 153), some (.int (nI j)), some (.int i), some (.int (nI k))] [] m (am_qi (jd T j i r k) (q_G T m0)) := by
  intro r
  induction r with
  | zero =>
    intro k hk
    refine w_iload_n (pc' := 36) rfl rfl rfl ?_
    refine w_bipush (pc' := 38) 16 rfl rfl bp_16 ?_
    refine w_ic_ge (t := 108) (pc' := 41) rfl (by decide) rfl (fun h38 => ?_) (fun h38 => ?_)
    · have g1 : 16 ≤ k := (nI_leI (a := 16) (b := k) (by omega) (by omega)).mp h38
      refine w_bipush (pc' := 110) (-5) rfl rfl bp_m5 ?_
      refine w_iret rfl rfl rfl ?_
      exact ⟨rfl, h, hF⟩
    · have g2 : ¬ 16 ≤ k := fun q => h38 ((nI_leI (a := 16) (b := k) (by omega) (by omega)).mpr q)
      omega
  | succ r ih =>
    intro k hk
    refine w_iload_n (pc' := 36) rfl rfl rfl ?_
    refine w_bipush (pc' := 38) 16 rfl rfl bp_16 ?_
    refine w_ic_ge (t := 108) (pc' := 41) rfl (by decide) rfl (fun h38 => ?_) (fun h38 => ?_)
    · have g1 : 16 ≤ k := (nI_leI (a := 16) (b := k) (by omega) (by omega)).mp h38
      omega
    · have g2 : ¬ 16 ≤ k := fun q => h38 ((nI_leI (a := 16) (b := k) (by omega) (by omega)).mpr q)
      refine w_aload_n (pc' := 42) rfl rfl rfl rfl ?_
      refine w_getC (pc' := 45) rfl rfl rfl sh_153 rfl ?_
      refine w_iload_n (pc' := 46) rfl rfl rfl ?_
      refine w_iald (j := (j)) (pc' := 47) rfl rfl sh_182 rfl (by omega) (by decide) ?_
      rw [show m.1 182 j = nI (T.1 182 (j)) - 1 from (rd_182 h _ :)]
      have b3 : (T.1 182 (j)) < 6 := hB 182 (j)
      refine w_iconst (pc' := 48) (-1) rfl rfl ic_m1 ?_
      refine w_ic_eq (t := 71) (pc' := 51) rfl (by decide) rfl (fun h48 => ?_) (fun h48 => ?_)
      · have g4 : (T.1 182 (j)) = 0 := (nI_pp (a := (T.1 182 (j))) (b := 0) (by omega) (by omega)).mp h48
        refine w_bipush (pc' := 73) 100 rfl rfl bp_100 ?_
        refine w_iload_n (pc' := 74) rfl rfl rfl ?_
        refine w_iadd (pc' := 75) rfl rfl ?_
        rw [show (100 : Int32) + nI (k) = nI (100 + k) from nI_add _ _]
        refine w_iret rfl rfl rfl ?_
        rw [show jd T j i (r + 1) k = nI (100 + k) by simp [jd, g2, Nat.lt_of_not_le g2, g4]]
        exact ⟨rfl, h, hF⟩
      · have g5 : ¬ (T.1 182 (j)) = 0 := fun q => h48 ((nI_pp (a := (T.1 182 (j))) (b := 0) (by omega) (by omega)).mpr q)
        refine w_iload_n (pc' := 52) rfl rfl rfl ?_
        refine w_if_lt (t := 71) (pc' := 55) rfl (by decide) rfl (fun h52 => ?_) (fun h52 => ?_)
        · have hi : i < 0 := h52
          refine w_bipush (pc' := 73) 100 rfl rfl bp_100 ?_
          refine w_iload_n (pc' := 74) rfl rfl rfl ?_
          refine w_iadd (pc' := 75) rfl rfl ?_
          rw [show (100 : Int32) + nI (k) = nI (100 + k) from nI_add _ _]
          refine w_iret rfl rfl rfl ?_
          rw [show jd T j i (r + 1) k = nI (100 + k) by simp [jd, g2, Nat.lt_of_not_le g2, g5, hi]]
          exact ⟨rfl, h, hF⟩
        · have hi : ¬ i < 0 := h52
          obtain ⟨ji, hji, rfl⟩ := nI_of hi
          refine w_iload_n (pc' := 56) rfl rfl rfl ?_
          refine w_i2l (pc' := 57) rfl rfl ?_
          refine w_iload_n (pc' := 58) rfl rfl rfl ?_
          refine w_i2l (pc' := 59) rfl rfl ?_
          refine w_ladd (pc' := 60) rfl rfl ?_
          refine w_aload_n (pc' := 61) rfl rfl rfl rfl ?_
          refine w_getC (pc' := 64) rfl rfl rfl sh_153 rfl ?_
          refine w_iload_n (pc' := 65) rfl rfl rfl ?_
          refine w_iald (j := (j)) (pc' := 66) rfl rfl sh_183 rfl (by omega) (by decide) ?_
          rw [show m.1 183 j = nI (T.1 183 (j)) from (rd_183 h _ :)]
          have b6 : (T.1 183 (j)) < 61 := hB 183 (j)
          refine w_i2l (pc' := 67) rfl rfl ?_
          refine w_lcmp (pc' := 68) rfl rfl ?_
          refine w_if_lt (t := 76) (pc' := 71) rfl (by decide) rfl (fun h68 => ?_) (fun h68 => ?_)
          · have gL : ji + k < T.1 183 j := (lg_ltS (a := ji) (b := k) (c := T.1 183 j) (by omega) (by omega) (by omega)).mp h68
            refine w_aload_n (pc' := 77) rfl rfl rfl rfl ?_
            refine w_getC (pc' := 80) rfl rfl rfl sh_153 rfl ?_
            refine w_bipush (pc' := 82) 60 rfl rfl bp_60 ?_
            refine w_iload_n (pc' := 83) rfl rfl rfl ?_
            refine w_imul (pc' := 84) rfl rfl ?_
            rw [show (60 : Int32) * nI (j) = nI (60 * j) from nI_mul _ _]
            refine w_iload_n (pc' := 85) rfl rfl rfl ?_
            refine w_iadd (pc' := 86) rfl rfl ?_
            rw [show nI (60 * j) + nI (ji) = nI ((60 * j) + ji) from nI_add _ _]
            refine w_iload_n (pc' := 87) rfl rfl rfl ?_
            refine w_iadd (pc' := 88) rfl rfl ?_
            rw [show nI ((60 * j) + ji) + nI (k) = nI (((60 * j) + ji) + k) from nI_add _ _]
            refine w_lald (j := (((60 * j) + ji) + k)) (pc' := 89) rfl rfl sh_184 rfl (by omega) (by decide) ?_
            rw [show m.2 184 (60 * j + ji + k) = T.2.2 j (ji + k) from (congrArg (m.2 184) (by omega)).trans (h.2.2 j (ji + k) (by omega) (by omega))]
            refine w_aload_n (pc' := 90) rfl rfl rfl rfl ?_
            refine w_getC (pc' := 93) rfl rfl rfl sh_153 rfl ?_
            refine w_iload_n (pc' := 94) rfl rfl rfl ?_
            refine w_iald (j := (k)) (pc' := 95) rfl rfl sh_162 rfl (by omega) (by decide) ?_
            rw [show m.1 162 k = nI (T.1 162 (k)) from (rd_162 h _ :)]
            have b7 : (T.1 162 (k)) < 8 := hB 162 (k)
            refine w_i2l (pc' := 96) rfl rfl ?_
            refine w_lcmp (pc' := 97) rfl rfl ?_
            refine w_if_eq (t := 102) (pc' := 100) rfl (by decide) rfl (fun h97 => ?_) (fun h97 => ?_)
            · have gE : T.2.2 j (ji + k) = (nI (T.1 162 k)).toInt64 := (lg_cmp_eq _ _).mp h97
              refine w_iinc3 (pc' := 105) 1 rfl rfl ic_1 rfl ?_
              rw [nI_inc]
              refine w_goto (pc' := 35) rfl (by decide) ?_
              rw [show jd T j (nI ji) (r + 1) k = jd T j (nI ji) r (k + 1) by simp [jd, g2, Nat.lt_of_not_le g2, g5, hi, nI_clamp (show ji < 2 ^ 31 by omega), gL, gE]]
              exact ih (k + 1) (by omega)
            · have gE : ¬ T.2.2 j (ji + k) = (nI (T.1 162 k)).toInt64 := fun q => h97 ((lg_cmp_eq _ _).mpr q)
              refine w_iload_n (pc' := 101) rfl rfl rfl ?_
              refine w_iret rfl rfl rfl ?_
              rw [show jd T j (nI ji) (r + 1) k = nI k by simp [jd, g2, Nat.lt_of_not_le g2, g5, hi, nI_clamp (show ji < 2 ^ 31 by omega), gL, gE]]
              exact ⟨rfl, h, hF⟩
          · have gL : ¬ ji + k < T.1 183 j := fun q => h68 ((lg_ltS (a := ji) (b := k) (c := T.1 183 j) (by omega) (by omega) (by omega)).mpr q)
            refine w_bipush (pc' := 73) 100 rfl rfl bp_100 ?_
            refine w_iload_n (pc' := 74) rfl rfl rfl ?_
            refine w_iadd (pc' := 75) rfl rfl ?_
            rw [show (100 : Int32) + nI (k) = nI (100 + k) from nI_add _ _]
            refine w_iret rfl rfl rfl ?_
            rw [show jd T j (nI ji) (r + 1) k = nI (100 + k) by simp [jd, g2, Nat.lt_of_not_le g2, g5, hi, nI_clamp (show ji < 2 ^ 31 by omega), gL]]
            exact ⟨rfl, h, hF⟩
set_option maxRecDepth 100000 in
set_option maxHeartbeats 4000000 in
theorem v_m_judge (xs : List Int32) {T : q_T} {m : am_Mm} (h : q_Rm T m) (hB : q_Bd T) (t : Int32) (i : Int32) : am_V xs 3 208 [.ref 153, .int t, .int i] m (am_qi (f_judge T t i).1 (q_G (f_judge T t i).2 m)) := by
  have hF : q_FC m m := q_FC.rf
  have hn : T.1 153 0 < 7 := hB 153 0
  refine am_V_of ky_208 (Nat.le_of_ble_eq_true rfl) ?_
  show am_P xs 2 m_judge 0 [some (.ref 153), some (.int t), some (.int i), none] [] m _
  refine w_iload_n (pc' := 1) rfl rfl rfl ?_
  refine w_iconst (pc' := 2) 0 rfl rfl ic_0 ?_
  refine w_iconst (pc' := 3) 5 rfl rfl ic_5 ?_
  refine w_cS3i (pc' := 6) (v_m_win xs _ _ _ (6) (by omega) (by first | decide | rfl)) (by decide) rfl rfl rfl (Or.inl rfl) (Nat.le_of_ble_eq_true rfl) (fun m' hm' => ?_)
  rw [show m' = m from hm']
  clear hm' m'
  refine w_if_ne (t := 11) (pc' := 9) rfl (by decide) rfl (fun h6 => ?_) (fun h6 => ?_)
  · obtain ⟨j1, hj1, rfl⟩ := q_is_of (bB_n0.mp h6) (by omega)
    refine w_aload_n (pc' := 12) rfl rfl rfl rfl ?_
    refine w_getC (pc' := 15) rfl rfl rfl sh_153 rfl ?_
    refine w_iload_n (pc' := 16) rfl rfl rfl ?_
    refine w_iald (j := (j1)) (pc' := 17) rfl rfl sh_182 rfl (by omega) (by decide) ?_
    rw [show m.1 182 j1 = nI (T.1 182 (j1)) - 1 from (rd_182 h _ :)]
    have b2 : (T.1 182 (j1)) < 6 := hB 182 (j1)
    refine w_iconst (pc' := 18) (-1) rfl rfl ic_m1 ?_
    refine w_ic_eq (t := 33) (pc' := 21) rfl (by decide) rfl (fun h18 => ?_) (fun h18 => ?_)
    · have g3 : (T.1 182 (j1)) = 0 := (nI_pp (a := (T.1 182 (j1))) (b := 0) (by omega) (by omega)).mp h18
      refine w_iconst (pc' := 34) 0 rfl rfl ic_0 ?_
      refine w_ist3 (pc' := 35) rfl rfl rfl ?_
      rw [show f_judge T (nI j1) i = (jd T j1 i 16 0, T) by simp [f_judge, q_is_nI (n := 6) hj1 (by omega), nI_clamp (show j1 < 2 ^ 31 by omega), show ¬ 1 < T.1 182 j1 by omega]]
      exact lp_judge xs h hB hF (by omega) i 16 0 (by omega)
    · have g4 : ¬ (T.1 182 (j1)) = 0 := fun q => h18 ((nI_pp (a := (T.1 182 (j1))) (b := 0) (by omega) (by omega)).mpr q)
      refine w_aload_n (pc' := 22) rfl rfl rfl rfl ?_
      refine w_getC (pc' := 25) rfl rfl rfl sh_153 rfl ?_
      refine w_iload_n (pc' := 26) rfl rfl rfl ?_
      refine w_iald (j := (j1)) (pc' := 27) rfl rfl sh_182 rfl (by omega) (by decide) ?_
      rw [show m.1 182 j1 = nI (T.1 182 (j1)) - 1 from (rd_182 h _ :)]
      have b5 : (T.1 182 (j1)) < 6 := hB 182 (j1)
      refine w_if_eq (t := 33) (pc' := 30) rfl (by decide) rfl (fun h27 => ?_) (fun h27 => ?_)
      · have g6 : (T.1 182 (j1)) = 1 := (nI_pp (a := (T.1 182 (j1))) (b := 1) (by omega) (by omega)).mp h27
        refine w_iconst (pc' := 34) 0 rfl rfl ic_0 ?_
        refine w_ist3 (pc' := 35) rfl rfl rfl ?_
        rw [show f_judge T (nI j1) i = (jd T j1 i 16 0, T) by simp [f_judge, q_is_nI (n := 6) hj1 (by omega), nI_clamp (show j1 < 2 ^ 31 by omega), show ¬ 1 < T.1 182 j1 by omega]]
        exact lp_judge xs h hB hF (by omega) i 16 0 (by omega)
      · have g7 : ¬ (T.1 182 (j1)) = 1 := fun q => h27 ((nI_pp (a := (T.1 182 (j1))) (b := 1) (by omega) (by omega)).mpr q)
        refine w_bipush (pc' := 32) (-12) rfl rfl bp_m12 ?_
        refine w_iret rfl rfl rfl ?_
        have hf : f_judge T (nI j1) i = (-12, T) := by simp [f_judge, q_is_nI (n := 6) hj1 (by omega), nI_clamp (show j1 < 2 ^ 31 by omega), show 1 < T.1 182 j1 by omega]
        rw [hf]
        exact ⟨rfl, h, hF⟩
  · have hN8 := bB_0.mp h6
    refine w_iconst (pc' := 10) (-1) rfl rfl ic_m1 ?_
    refine w_iret rfl rfl rfl ?_
    have hf : f_judge T t i = (-1, T) := by simp [f_judge, hN8]
    rw [hf]
    exact ⟨rfl, h, hF⟩
def q_Tc (T : q_T) (t i o j n : Nat) : q_T := (T.1, (T.2.1, fun t' k => if t' = o ∧ j ≤ k ∧ k < j + n then T.2.2 t (i + (k - j)) else T.2.2 t' k))
theorem q_Tc_0 (T : q_T) (t i o j : Nat) : q_Tc T t i o j 0 = T := by
  unfold q_Tc
  congr 2
  funext t' k
  exact if_neg (fun q => by omega)
/-- one more behind -/
theorem q_Tc_up (T : q_T) (t i o j k : Nat) : q_Ti (q_Tc T t i o j k) o (j + k) (T.2.2 t (i + k)) = q_Tc T t i o j (k + 1) := by
  unfold q_Ti q_Tc
  congr 2
  funext t' x
  show (if t' = o ∧ x = j + k then T.2.2 t (i + k) else if t' = o ∧ j ≤ x ∧ x < j + k then T.2.2 t (i + (x - j)) else T.2.2 t' x) = if t' = o ∧ j ≤ x ∧ x < j + (k + 1) then T.2.2 t (i + (x - j)) else T.2.2 t' x
  by_cases h1 : t' = o ∧ x = j + k
  · rw [if_pos h1, if_pos ⟨h1.1, by omega, by omega⟩, show i + (x - j) = i + k by omega]
  · rw [if_neg h1]
    by_cases h2 : t' = o ∧ j ≤ x ∧ x < j + k
    · rw [if_pos h2, if_pos ⟨h2.1, h2.2.1, by omega⟩]
    · rw [if_neg h2, if_neg (fun q => by omega)]
/-- one more ahead -/
theorem q_Tc_dn (T : q_T) (t i o j r n : Nat) : q_Ti (q_Tc T t (i + (r + 1)) o (j + (r + 1)) n) o (j + r) (T.2.2 t (i + r)) = q_Tc T t (i + r) o (j + r) (n + 1) := by
  unfold q_Ti q_Tc
  congr 2
  funext t' x
  show (if t' = o ∧ x = j + r then T.2.2 t (i + r) else if t' = o ∧ j + (r + 1) ≤ x ∧ x < j + (r + 1) + n then T.2.2 t (i + (r + 1) + (x - (j + (r + 1)))) else T.2.2 t' x) = if t' = o ∧ j + r ≤ x ∧ x < j + r + (n + 1) then T.2.2 t (i + r + (x - (j + r))) else T.2.2 t' x
  by_cases h1 : t' = o ∧ x = j + r
  · rw [if_pos h1, if_pos ⟨h1.1, by omega, by omega⟩, show i + r + (x - (j + r)) = i + r by omega]
  · rw [if_neg h1]
    by_cases h2 : t' = o ∧ j + (r + 1) ≤ x ∧ x < j + (r + 1) + n
    · rw [if_pos h2, if_pos ⟨h2.1, by omega, by omega⟩, show i + (r + 1) + (x - (j + (r + 1))) = i + r + (x - (j + r)) by omega]
    · rw [if_neg h2, if_neg (fun q => by omega)]
theorem q_Tc_at {T : q_T} {t i o j n x : Nat} (h : ¬ (t = o ∧ j ≤ x ∧ x < j + n)) : (q_Tc T t i o j n).2.2 t x = T.2.2 t x := if_neg h
def f_shift (T : q_T) (t i o j n : Int32) : Int32 × q_T := if q_is t 6 = true ∧ q_is o 6 = true then (if 0 < T.1 182 t.toNatClampNeg ∧ 0 < T.1 182 o.toNatClampNeg then (if T.1 182 t.toNatClampNeg = T.1 182 o.toNatClampNeg then (if n < 0 ∨ i < 0 ∨ j < 0 ∨ ¬ i.toNatClampNeg + n.toNatClampNeg ≤ T.1 183 t.toNatClampNeg ∨ ¬ j.toNatClampNeg + n.toNatClampNeg ≤ T.1 183 o.toNatClampNeg then (-13, T) else (n, q_Tc T t.toNatClampNeg i.toNatClampNeg o.toNatClampNeg j.toNatClampNeg n.toNatClampNeg)) else (-12, T)) else (-11, T)) else (-1, T)
theorem nI_dec (r : Nat) : nI r + Int32.ofInt (-1) = nI r - 1 := by
  rw [Int32.sub_eq_add_neg]
  exact congrArg (nI r + ·) (by decide)
set_option maxRecDepth 100000 in
set_option maxHeartbeats 4000000 in
theorem lp_shu (xs : List Int32) {T : q_T} {m0 : am_Mm} {t o i j n : Nat} (ht : t < 6) (ho : o < 6) (hi : i + n ≤ 60) (hj : j + n ≤ 60) (hd : ¬ (t = o ∧ i < j)) : ∀ (r k : Nat), k + r = n → ∀ (m : am_Mm), q_Rm (q_Tc T t i o j k) m → q_FC m0 m → am_P xs 2 m_shift 170 [some (.ref 153), some (.int (nI t)), some (.int (nI i)), some (.int (nI o)), some (.int (nI j)), some (.int (nI n)), some (.int (nI k))] [] m (am_qi (nI n) (q_G (q_Tc T t i o j n) m0)) := by
  intro r
  induction r with
  | zero =>
    intro k hk m h hF
    refine w_iload (pc' := 172) rfl rfl rfl ?_
    refine w_iload (pc' := 174) rfl rfl rfl ?_
    refine w_ic_ge (t := 212) (pc' := 177) rfl (by decide) rfl (fun h174 => ?_) (fun h174 => ?_)
    · have g1 : n ≤ k := (nI_leI (a := n) (b := k) (by omega) (by omega)).mp h174
      refine w_iload (pc' := 214) rfl rfl rfl ?_
      refine w_iret rfl rfl rfl ?_
      obtain rfl : k = n := by omega
      exact ⟨rfl, h, hF⟩
    · have g2 : ¬ n ≤ k := fun q => h174 ((nI_leI (a := n) (b := k) (by omega) (by omega)).mpr q)
      omega
  | succ r ih =>
    intro k hk m h hF
    refine w_iload (pc' := 172) rfl rfl rfl ?_
    refine w_iload (pc' := 174) rfl rfl rfl ?_
    refine w_ic_ge (t := 212) (pc' := 177) rfl (by decide) rfl (fun h174 => ?_) (fun h174 => ?_)
    · have g1 : n ≤ k := (nI_leI (a := n) (b := k) (by omega) (by omega)).mp h174
      omega
    · have g2 : ¬ n ≤ k := fun q => h174 ((nI_leI (a := n) (b := k) (by omega) (by omega)).mpr q)
      refine w_aload_n (pc' := 178) rfl rfl rfl rfl ?_
      refine w_getC (pc' := 181) rfl rfl rfl sh_153 rfl ?_
      refine w_bipush (pc' := 183) 60 rfl rfl bp_60 ?_
      refine w_iload_n (pc' := 184) rfl rfl rfl ?_
      refine w_imul (pc' := 185) rfl rfl ?_
      rw [show (60 : Int32) * nI (o) = nI (60 * o) from nI_mul _ _]
      refine w_iload (pc' := 187) rfl rfl rfl ?_
      refine w_iadd (pc' := 188) rfl rfl ?_
      rw [show nI (60 * o) + nI (j) = nI ((60 * o) + j) from nI_add _ _]
      refine w_iload (pc' := 190) rfl rfl rfl ?_
      refine w_iadd (pc' := 191) rfl rfl ?_
      rw [show nI ((60 * o) + j) + nI (k) = nI (((60 * o) + j) + k) from nI_add _ _]
      refine w_aload_n (pc' := 192) rfl rfl rfl rfl ?_
      refine w_getC (pc' := 195) rfl rfl rfl sh_153 rfl ?_
      refine w_bipush (pc' := 197) 60 rfl rfl bp_60 ?_
      refine w_iload_n (pc' := 198) rfl rfl rfl ?_
      refine w_imul (pc' := 199) rfl rfl ?_
      rw [show (60 : Int32) * nI (t) = nI (60 * t) from nI_mul _ _]
      refine w_iload_n (pc' := 200) rfl rfl rfl ?_
      refine w_iadd (pc' := 201) rfl rfl ?_
      rw [show nI (60 * t) + nI (i) = nI ((60 * t) + i) from nI_add _ _]
      refine w_iload (pc' := 203) rfl rfl rfl ?_
      refine w_iadd (pc' := 204) rfl rfl ?_
      rw [show nI ((60 * t) + i) + nI (k) = nI (((60 * t) + i) + k) from nI_add _ _]
      refine w_lald (j := (((60 * t) + i) + k)) (pc' := 205) rfl rfl sh_184 rfl (by omega) (by decide) ?_
      rw [show m.2 184 (60 * t + i + k) = T.2.2 t (i + k) from (congrArg (m.2 184) (by omega)).trans ((h.2.2 t (i + k) (by omega) (by omega)).trans (q_Tc_at (by omega)))]
      rw [show 60 * o + j + k = 60 * o + (j + k) by omega]
      refine w_last (j := (60 * o + (j + k))) (pc' := 206) rfl rfl sh_184 rfl (by omega) (by decide) ?_
      refine w_gen (h.uJ (t := o) (i := (j + k)) (by omega) (by omega) _) (hF.uJ (by decide)) (fun m1 h_1 hF_1 => ?_)
      refine w_iinc6 (pc' := 209) 1 rfl rfl ic_1 rfl ?_
      rw [nI_inc]
      refine w_goto (pc' := 170) rfl (by decide) ?_
      exact ih (k + 1) (by omega) m1 (by rw [← q_Tc_up]; exact h_1) hF_1
set_option maxRecDepth 100000 in
set_option maxHeartbeats 4000000 in
theorem lp_shd (xs : List Int32) {T : q_T} {m0 : am_Mm} {t o i j n : Nat} (ht : t < 6) (ho : o < 6) (hi : i + n ≤ 60) (hj : j + n ≤ 60) (hd : t = o ∧ i < j) : ∀ (r k : Nat), k + r = n → ∀ (m : am_Mm), q_Rm (q_Tc T t (i + r) o (j + r) k) m → q_FC m0 m → am_P xs 2 m_shift 124 [some (.ref 153), some (.int (nI t)), some (.int (nI i)), some (.int (nI o)), some (.int (nI j)), some (.int (nI n)), some (.int (nI r - 1))] [] m (am_qi (nI n) (q_G (q_Tc T t i o j n) m0)) := by
  intro r
  induction r with
  | zero =>
    intro k hk m h hF
    refine w_iload (pc' := 126) rfl rfl rfl ?_
    refine w_if_lt (t := 164) (pc' := 129) rfl (by decide) rfl (fun h126 => ?_) (fun h126 => ?_)
    · have g1 : ¬ 0 < 0 := fun q => Int32.not_lt.mpr ((nI_p1 (x := 0) (by omega)).mpr q) h126
      refine w_goto (pc' := 212) rfl (by decide) ?_
      refine w_iload (pc' := 214) rfl rfl rfl ?_
      refine w_iret rfl rfl rfl ?_
      obtain rfl : k = n := by omega
      exact ⟨rfl, h, hF⟩
    · have g2 : 0 < 0 := (nI_p1 (x := 0) (by omega)).mp (Int32.not_lt.mp h126)
      omega
  | succ r ih =>
    intro k hk m h hF
    rw [nI_pred]
    refine w_iload (pc' := 126) rfl rfl rfl ?_
    refine w_if_lt (t := 164) (pc' := 129) rfl (by decide) rfl (fun h126 => ?_) (fun h126 => ?_)
    · have g1 : r < 0 := (nI_ltI (a := r) (b := 0) (by omega) (by omega)).mp h126
      omega
    · have g2 : ¬ r < 0 := fun q => h126 ((nI_ltI (a := r) (b := 0) (by omega) (by omega)).mpr q)
      refine w_aload_n (pc' := 130) rfl rfl rfl rfl ?_
      refine w_getC (pc' := 133) rfl rfl rfl sh_153 rfl ?_
      refine w_bipush (pc' := 135) 60 rfl rfl bp_60 ?_
      refine w_iload_n (pc' := 136) rfl rfl rfl ?_
      refine w_imul (pc' := 137) rfl rfl ?_
      rw [show (60 : Int32) * nI (o) = nI (60 * o) from nI_mul _ _]
      refine w_iload (pc' := 139) rfl rfl rfl ?_
      refine w_iadd (pc' := 140) rfl rfl ?_
      rw [show nI (60 * o) + nI (j) = nI ((60 * o) + j) from nI_add _ _]
      refine w_iload (pc' := 142) rfl rfl rfl ?_
      refine w_iadd (pc' := 143) rfl rfl ?_
      rw [show nI ((60 * o) + j) + nI (r) = nI (((60 * o) + j) + r) from nI_add _ _]
      refine w_aload_n (pc' := 144) rfl rfl rfl rfl ?_
      refine w_getC (pc' := 147) rfl rfl rfl sh_153 rfl ?_
      refine w_bipush (pc' := 149) 60 rfl rfl bp_60 ?_
      refine w_iload_n (pc' := 150) rfl rfl rfl ?_
      refine w_imul (pc' := 151) rfl rfl ?_
      rw [show (60 : Int32) * nI (t) = nI (60 * t) from nI_mul _ _]
      refine w_iload_n (pc' := 152) rfl rfl rfl ?_
      refine w_iadd (pc' := 153) rfl rfl ?_
      rw [show nI (60 * t) + nI (i) = nI ((60 * t) + i) from nI_add _ _]
      refine w_iload (pc' := 155) rfl rfl rfl ?_
      refine w_iadd (pc' := 156) rfl rfl ?_
      rw [show nI ((60 * t) + i) + nI (r) = nI (((60 * t) + i) + r) from nI_add _ _]
      refine w_lald (j := (((60 * t) + i) + r)) (pc' := 157) rfl rfl sh_184 rfl (by omega) (by decide) ?_
      rw [show m.2 184 (60 * t + i + r) = T.2.2 t (i + r) from (congrArg (m.2 184) (by omega)).trans ((h.2.2 t (i + r) (by omega) (by omega)).trans (q_Tc_at (by omega)))]
      rw [show 60 * o + j + r = 60 * o + (j + r) by omega]
      refine w_last (j := (60 * o + (j + r))) (pc' := 158) rfl rfl sh_184 rfl (by omega) (by decide) ?_
      refine w_gen (h.uJ (t := o) (i := (j + r)) (by omega) (by omega) _) (hF.uJ (by decide)) (fun m1 h_1 hF_1 => ?_)
      refine w_iinc6 (pc' := 161) (-1) rfl rfl ic_m1 rfl ?_
      rw [nI_dec]
      refine w_goto (pc' := 124) rfl (by decide) ?_
      exact ih (k + 1) (by omega) m1 (by rw [← q_Tc_dn]; exact h_1) hF_1
set_option maxRecDepth 100000 in
set_option maxHeartbeats 4000000 in
theorem v_m_shift (xs : List Int32) {T : q_T} {m : am_Mm} (h : q_Rm T m) (hB : q_Bd T) (t : Int32) (i : Int32) (o : Int32) (j : Int32) (n : Int32) : am_V xs 3 225 [.ref 153, .int t, .int i, .int o, .int j, .int n] m (am_qi (f_shift T t i o j n).1 (q_G (f_shift T t i o j n).2 m)) := by
  have hF : q_FC m m := q_FC.rf
  have hn : T.1 153 0 < 7 := hB 153 0
  refine am_V_of ky_225 (Nat.le_of_ble_eq_true rfl) ?_
  show am_P xs 2 m_shift 0 [some (.ref 153), some (.int t), some (.int i), some (.int o), some (.int j), some (.int n), none] [] m _
  refine w_iload_n (pc' := 1) rfl rfl rfl ?_
  refine w_cS1i (pc' := 4) (v_m_isTape xs _ _) (by decide) rfl rfl rfl (Or.inl rfl) (Nat.le_of_ble_eq_true rfl) (fun m' hm' => ?_)
  rw [show m' = m from hm']
  clear hm' m'
  refine w_if_eq (t := 14) (pc' := 7) rfl (by decide) rfl (fun h4 => ?_) (fun h4 => ?_)
  · have hN1 := bB_0.mp h4
    refine w_iconst (pc' := 15) (-1) rfl rfl ic_m1 ?_
    refine w_iret rfl rfl rfl ?_
    have hf : f_shift T t i o j n = (-1, T) := by simp [f_shift, hN1]
    rw [hf]
    exact ⟨rfl, h, hF⟩
  · obtain ⟨j2, hj2, rfl⟩ := q_is_of (bB_n0.mp h4) (by omega)
    refine w_iload_n (pc' := 8) rfl rfl rfl ?_
    refine w_cS1i (pc' := 11) (v_m_isTape xs _ _) (by decide) rfl rfl rfl (Or.inl rfl) (Nat.le_of_ble_eq_true rfl) (fun m' hm' => ?_)
    rw [show m' = m from hm']
    clear hm' m'
    refine w_if_ne (t := 16) (pc' := 14) rfl (by decide) rfl (fun h11 => ?_) (fun h11 => ?_)
    · obtain ⟨j3, hj3, rfl⟩ := q_is_of (bB_n0.mp h11) (by omega)
      refine w_aload_n (pc' := 17) rfl rfl rfl rfl ?_
      refine w_getC (pc' := 20) rfl rfl rfl sh_153 rfl ?_
      refine w_iload_n (pc' := 21) rfl rfl rfl ?_
      refine w_iald (j := (j2)) (pc' := 22) rfl rfl sh_182 rfl (by omega) (by decide) ?_
      rw [show m.1 182 j2 = nI (T.1 182 (j2)) - 1 from (rd_182 h _ :)]
      have b4 : (T.1 182 (j2)) < 6 := hB 182 (j2)
      refine w_if_lt (t := 34) (pc' := 25) rfl (by decide) rfl (fun h22 => ?_) (fun h22 => ?_)
      · have g5 : ¬ 0 < (T.1 182 (j2)) := fun q => Int32.not_lt.mpr ((nI_p1 (x := (T.1 182 (j2))) (by omega)).mpr q) h22
        refine w_bipush (pc' := 36) (-11) rfl rfl bp_m11 ?_
        refine w_iret rfl rfl rfl ?_
        have hf : f_shift T (nI j2) i (nI j3) j n = (-11, T) := by simp [f_shift, q_is_nI (n := 6) hj2 (by omega), nI_clamp (show j2 < 2 ^ 31 by omega), q_is_nI (n := 6) hj3 (by omega), nI_clamp (show j3 < 2 ^ 31 by omega), g5]
        rw [hf]
        exact ⟨rfl, h, hF⟩
      · have g6 : 0 < (T.1 182 (j2)) := (nI_p1 (x := (T.1 182 (j2))) (by omega)).mp (Int32.not_lt.mp h22)
        refine w_aload_n (pc' := 26) rfl rfl rfl rfl ?_
        refine w_getC (pc' := 29) rfl rfl rfl sh_153 rfl ?_
        refine w_iload_n (pc' := 30) rfl rfl rfl ?_
        refine w_iald (j := (j3)) (pc' := 31) rfl rfl sh_182 rfl (by omega) (by decide) ?_
        rw [show m.1 182 j3 = nI (T.1 182 (j3)) - 1 from (rd_182 h _ :)]
        have b7 : (T.1 182 (j3)) < 6 := hB 182 (j3)
        refine w_if_ge (t := 37) (pc' := 34) rfl (by decide) rfl (fun h31 => ?_) (fun h31 => ?_)
        · have g8 : 0 < (T.1 182 (j3)) := (nI_p1 (x := (T.1 182 (j3))) (by omega)).mp h31
          refine w_aload_n (pc' := 38) rfl rfl rfl rfl ?_
          refine w_getC (pc' := 41) rfl rfl rfl sh_153 rfl ?_
          refine w_iload_n (pc' := 42) rfl rfl rfl ?_
          refine w_iald (j := (j2)) (pc' := 43) rfl rfl sh_182 rfl (by omega) (by decide) ?_
          rw [show m.1 182 j2 = nI (T.1 182 (j2)) - 1 from (rd_182 h _ :)]
          have b9 : (T.1 182 (j2)) < 6 := hB 182 (j2)
          refine w_aload_n (pc' := 44) rfl rfl rfl rfl ?_
          refine w_getC (pc' := 47) rfl rfl rfl sh_153 rfl ?_
          refine w_iload_n (pc' := 48) rfl rfl rfl ?_
          refine w_iald (j := (j3)) (pc' := 49) rfl rfl sh_182 rfl (by omega) (by decide) ?_
          rw [show m.1 182 j3 = nI (T.1 182 (j3)) - 1 from (rd_182 h _ :)]
          have b10 : (T.1 182 (j3)) < 6 := hB 182 (j3)
          refine w_ic_eq (t := 55) (pc' := 52) rfl (by decide) rfl (fun h49 => ?_) (fun h49 => ?_)
          · have g11 : (T.1 182 (j2)) = (T.1 182 (j3)) := (nI_pp (a := (T.1 182 (j2))) (b := (T.1 182 (j3))) (by omega) (by omega)).mp h49
            refine w_iload (pc' := 57) rfl rfl rfl ?_
            refine w_if_lt (t := 104) (pc' := 60) rfl (by decide) rfl (fun h57 => ?_) (fun h57 => ?_)
            · have hnn : n < 0 := h57
              refine w_bipush (pc' := 106) (-13) rfl rfl bp_m13 ?_
              refine w_iret rfl rfl rfl ?_
              have hf : f_shift T (nI j2) i (nI j3) j n = (-13, T) := by simp [f_shift, q_is_nI (n := 6) hj2 (by omega), nI_clamp (show j2 < 2 ^ 31 by omega), q_is_nI (n := 6) hj3 (by omega), nI_clamp (show j3 < 2 ^ 31 by omega), g6, g8, g11, hnn]
              rw [hf]
              exact ⟨rfl, h, hF⟩
            · have hnn : ¬ n < 0 := h57
              obtain ⟨n', hnb, rfl⟩ := nI_of hnn
              refine w_iload_n (pc' := 61) rfl rfl rfl ?_
              refine w_if_lt (t := 104) (pc' := 64) rfl (by decide) rfl (fun h61 => ?_) (fun h61 => ?_)
              · have hin : i < 0 := h61
                refine w_bipush (pc' := 106) (-13) rfl rfl bp_m13 ?_
                refine w_iret rfl rfl rfl ?_
                have hf : f_shift T (nI j2) i (nI j3) j (nI n') = (-13, T) := by simp [f_shift, q_is_nI (n := 6) hj2 (by omega), nI_clamp (show j2 < 2 ^ 31 by omega), q_is_nI (n := 6) hj3 (by omega), nI_clamp (show j3 < 2 ^ 31 by omega), g6, g8, g11, hnn, nI_clamp (show n' < 2 ^ 31 by omega), hin]
                rw [hf]
                exact ⟨rfl, h, hF⟩
              · have hin : ¬ i < 0 := h61
                obtain ⟨i', hib, rfl⟩ := nI_of hin
                refine w_iload (pc' := 66) rfl rfl rfl ?_
                refine w_if_lt (t := 104) (pc' := 69) rfl (by decide) rfl (fun h66 => ?_) (fun h66 => ?_)
                · have hjn : j < 0 := h66
                  refine w_bipush (pc' := 106) (-13) rfl rfl bp_m13 ?_
                  refine w_iret rfl rfl rfl ?_
                  have hf : f_shift T (nI j2) (nI i') (nI j3) j (nI n') = (-13, T) := by simp [f_shift, q_is_nI (n := 6) hj2 (by omega), nI_clamp (show j2 < 2 ^ 31 by omega), q_is_nI (n := 6) hj3 (by omega), nI_clamp (show j3 < 2 ^ 31 by omega), g6, g8, g11, hnn, nI_clamp (show n' < 2 ^ 31 by omega), hin, nI_clamp (show i' < 2 ^ 31 by omega), hjn]
                  rw [hf]
                  exact ⟨rfl, h, hF⟩
                · have hjn : ¬ j < 0 := h66
                  obtain ⟨j', hjb, rfl⟩ := nI_of hjn
                  refine w_iload_n (pc' := 70) rfl rfl rfl ?_
                  refine w_i2l (pc' := 71) rfl rfl ?_
                  refine w_iload (pc' := 73) rfl rfl rfl ?_
                  refine w_i2l (pc' := 74) rfl rfl ?_
                  refine w_ladd (pc' := 75) rfl rfl ?_
                  refine w_aload_n (pc' := 76) rfl rfl rfl rfl ?_
                  refine w_getC (pc' := 79) rfl rfl rfl sh_153 rfl ?_
                  refine w_iload_n (pc' := 80) rfl rfl rfl ?_
                  refine w_iald (j := (j2)) (pc' := 81) rfl rfl sh_183 rfl (by omega) (by decide) ?_
                  rw [show m.1 183 j2 = nI (T.1 183 (j2)) from (rd_183 h _ :)]
                  have b12 : (T.1 183 (j2)) < 61 := hB 183 (j2)
                  refine w_i2l (pc' := 82) rfl rfl ?_
                  refine w_lcmp (pc' := 83) rfl rfl ?_
                  refine w_if_gt (t := 104) (pc' := 86) rfl (by decide) rfl (fun h83 => ?_) (fun h83 => ?_)
                  · have gS : ¬ i' + n' ≤ T.1 183 j2 := fun q => absurd h83 (Int32.not_lt.mpr ((lg_leS (a := i') (b := n') (c := T.1 183 j2) (by omega) (by omega) (by omega)).mpr q))
                    refine w_bipush (pc' := 106) (-13) rfl rfl bp_m13 ?_
                    refine w_iret rfl rfl rfl ?_
                    have hf : f_shift T (nI j2) (nI i') (nI j3) (nI j') (nI n') = (-13, T) := by simp [f_shift, q_is_nI (n := 6) hj2 (by omega), nI_clamp (show j2 < 2 ^ 31 by omega), q_is_nI (n := 6) hj3 (by omega), nI_clamp (show j3 < 2 ^ 31 by omega), g6, g8, g11, hnn, nI_clamp (show n' < 2 ^ 31 by omega), hin, nI_clamp (show i' < 2 ^ 31 by omega), hjn, nI_clamp (show j' < 2 ^ 31 by omega), gS]
                    rw [hf]
                    exact ⟨rfl, h, hF⟩
                  · have gS : i' + n' ≤ T.1 183 j2 := (lg_leS (a := i') (b := n') (c := T.1 183 j2) (by omega) (by omega) (by omega)).mp (Int32.not_lt.mp h83)
                    refine w_iload (pc' := 88) rfl rfl rfl ?_
                    refine w_i2l (pc' := 89) rfl rfl ?_
                    refine w_iload (pc' := 91) rfl rfl rfl ?_
                    refine w_i2l (pc' := 92) rfl rfl ?_
                    refine w_ladd (pc' := 93) rfl rfl ?_
                    refine w_aload_n (pc' := 94) rfl rfl rfl rfl ?_
                    refine w_getC (pc' := 97) rfl rfl rfl sh_153 rfl ?_
                    refine w_iload_n (pc' := 98) rfl rfl rfl ?_
                    refine w_iald (j := (j3)) (pc' := 99) rfl rfl sh_183 rfl (by omega) (by decide) ?_
                    rw [show m.1 183 j3 = nI (T.1 183 (j3)) from (rd_183 h _ :)]
                    have b13 : (T.1 183 (j3)) < 61 := hB 183 (j3)
                    refine w_i2l (pc' := 100) rfl rfl ?_
                    refine w_lcmp (pc' := 101) rfl rfl ?_
                    refine w_if_le (t := 107) (pc' := 104) rfl (by decide) rfl (fun h101 => ?_) (fun h101 => ?_)
                    · have gU : j' + n' ≤ T.1 183 j3 := (lg_leS (a := j') (b := n') (c := T.1 183 j3) (by omega) (by omega) (by omega)).mp h101
                      refine w_iload_n (pc' := 108) rfl rfl rfl ?_
                      refine w_iload_n (pc' := 109) rfl rfl rfl ?_
                      refine w_ic_ne (t := 167) (pc' := 112) rfl (by decide) rfl (fun h109 => ?_) (fun h109 => ?_)
                      · have g14 : ¬ j2 = j3 := fun q => h109 ((nI_eq (a := j2) (b := j3) (by omega) (by omega)).mpr q)
                        refine w_iconst (pc' := 168) 0 rfl rfl ic_0 ?_
                        refine w_ist6 (pc' := 170) rfl rfl rfl ?_
                        rw [show f_shift T (nI j2) (nI i') (nI j3) (nI j') (nI n') = (nI n', q_Tc T j2 i' j3 j' n') by simp [f_shift, q_is_nI (n := 6) hj2 (by omega), nI_clamp (show j2 < 2 ^ 31 by omega), q_is_nI (n := 6) hj3 (by omega), nI_clamp (show j3 < 2 ^ 31 by omega), g6, g8, g11, hnn, nI_clamp (show n' < 2 ^ 31 by omega), hin, nI_clamp (show i' < 2 ^ 31 by omega), hjn, nI_clamp (show j' < 2 ^ 31 by omega), gS, gU, g14]]
                        exact lp_shu xs (by omega) (by omega) (by omega) (by omega) (by omega) n' 0 (by omega) m (by rw [q_Tc_0]; exact h) hF
                      · have g15 : j2 = j3 := (nI_eq (a := j2) (b := j3) (by omega) (by omega)).mp h109
                        refine w_iload_n (pc' := 113) rfl rfl rfl ?_
                        refine w_iload (pc' := 115) rfl rfl rfl ?_
                        refine w_ic_ge (t := 167) (pc' := 118) rfl (by decide) rfl (fun h115 => ?_) (fun h115 => ?_)
                        · have g16 : j' ≤ i' := (nI_leI (a := j') (b := i') (by omega) (by omega)).mp h115
                          refine w_iconst (pc' := 168) 0 rfl rfl ic_0 ?_
                          refine w_ist6 (pc' := 170) rfl rfl rfl ?_
                          rw [show f_shift T (nI j2) (nI i') (nI j3) (nI j') (nI n') = (nI n', q_Tc T j2 i' j3 j' n') by simp [f_shift, q_is_nI (n := 6) hj2 (by omega), nI_clamp (show j2 < 2 ^ 31 by omega), q_is_nI (n := 6) hj3 (by omega), nI_clamp (show j3 < 2 ^ 31 by omega), g6, g8, g11, hnn, nI_clamp (show n' < 2 ^ 31 by omega), hin, nI_clamp (show i' < 2 ^ 31 by omega), hjn, nI_clamp (show j' < 2 ^ 31 by omega), gS, gU, eq_true g15, g16, Nat.not_lt.mpr g16]]
                          exact lp_shu xs (by omega) (by omega) (by omega) (by omega) (by omega) n' 0 (by omega) m (by rw [q_Tc_0]; exact h) hF
                        · have g17 : ¬ j' ≤ i' := fun q => h115 ((nI_leI (a := j') (b := i') (by omega) (by omega)).mpr q)
                          refine w_iload (pc' := 120) rfl rfl rfl ?_
                          refine w_iconst (pc' := 121) 1 rfl rfl ic_1 ?_
                          refine w_isub (pc' := 122) rfl rfl ?_
                          refine w_ist6 (pc' := 124) rfl rfl rfl ?_
                          rw [show f_shift T (nI j2) (nI i') (nI j3) (nI j') (nI n') = (nI n', q_Tc T j2 i' j3 j' n') by simp [f_shift, q_is_nI (n := 6) hj2 (by omega), nI_clamp (show j2 < 2 ^ 31 by omega), q_is_nI (n := 6) hj3 (by omega), nI_clamp (show j3 < 2 ^ 31 by omega), g6, g8, g11, hnn, nI_clamp (show n' < 2 ^ 31 by omega), hin, nI_clamp (show i' < 2 ^ 31 by omega), hjn, nI_clamp (show j' < 2 ^ 31 by omega), gS, gU, eq_true g15, g17, Nat.lt_of_not_le g17]]
                          exact lp_shd xs (by omega) (by omega) (by omega) (by omega) (by omega) n' 0 (by omega) m (by rw [q_Tc_0]; exact h) hF
                    · have gU : ¬ j' + n' ≤ T.1 183 j3 := fun q => h101 ((lg_leS (a := j') (b := n') (c := T.1 183 j3) (by omega) (by omega) (by omega)).mpr q)
                      refine w_bipush (pc' := 106) (-13) rfl rfl bp_m13 ?_
                      refine w_iret rfl rfl rfl ?_
                      have hf : f_shift T (nI j2) (nI i') (nI j3) (nI j') (nI n') = (-13, T) := by simp [f_shift, q_is_nI (n := 6) hj2 (by omega), nI_clamp (show j2 < 2 ^ 31 by omega), q_is_nI (n := 6) hj3 (by omega), nI_clamp (show j3 < 2 ^ 31 by omega), g6, g8, g11, hnn, nI_clamp (show n' < 2 ^ 31 by omega), hin, nI_clamp (show i' < 2 ^ 31 by omega), hjn, nI_clamp (show j' < 2 ^ 31 by omega), gS, gU]
                      rw [hf]
                      exact ⟨rfl, h, hF⟩
          · have g18 : ¬ (T.1 182 (j2)) = (T.1 182 (j3)) := fun q => h49 ((nI_pp (a := (T.1 182 (j2))) (b := (T.1 182 (j3))) (by omega) (by omega)).mpr q)
            refine w_bipush (pc' := 54) (-12) rfl rfl bp_m12 ?_
            refine w_iret rfl rfl rfl ?_
            have hf : f_shift T (nI j2) i (nI j3) j n = (-12, T) := by simp [f_shift, q_is_nI (n := 6) hj2 (by omega), nI_clamp (show j2 < 2 ^ 31 by omega), q_is_nI (n := 6) hj3 (by omega), nI_clamp (show j3 < 2 ^ 31 by omega), g6, g8, g18]
            rw [hf]
            exact ⟨rfl, h, hF⟩
        · have g19 : ¬ 0 < (T.1 182 (j3)) := fun q => h31 ((nI_p1 (x := (T.1 182 (j3))) (by omega)).mpr q)
          refine w_bipush (pc' := 36) (-11) rfl rfl bp_m11 ?_
          refine w_iret rfl rfl rfl ?_
          have hf : f_shift T (nI j2) i (nI j3) j n = (-11, T) := by simp [f_shift, q_is_nI (n := 6) hj2 (by omega), nI_clamp (show j2 < 2 ^ 31 by omega), q_is_nI (n := 6) hj3 (by omega), nI_clamp (show j3 < 2 ^ 31 by omega), g6, g19]
          rw [hf]
          exact ⟨rfl, h, hF⟩
    · have hN20 := bB_0.mp h11
      refine w_iconst (pc' := 15) (-1) rfl rfl ic_m1 ?_
      refine w_iret rfl rfl rfl ?_
      have hf : f_shift T (nI j2) i o j n = (-1, T) := by simp [f_shift, q_is_nI (n := 6) hj2 (by omega), nI_clamp (show j2 < 2 ^ 31 by omega), hN20]
      rw [hf]
      exact ⟨rfl, h, hF⟩
