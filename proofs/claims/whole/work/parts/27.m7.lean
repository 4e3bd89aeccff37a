theorem lg_ltS {a b c : Nat} (ha : a < 2 ^ 31) (hb : b < 2 ^ 31) (hc : c < 2 ^ 31) : lg_cmp ((nI a).toInt64 + (nI b).toInt64) (nI c).toInt64 < 0 ↔ a + b < c := by
  rw [nI_l ha, nI_l hb, nI_l hc, lN_add, lg_cmp_lt, Int64.lt_iff_toInt_lt]
  show (Int64.ofNat (a + b)).toInt < (Int64.ofNat c).toInt ↔ _
  rw [lg_ofNat_toInt (by omega), lg_ofNat_toInt (by omega)]
  omega
theorem lg_leS {a b c : Nat} (ha : a < 2 ^ 31) (hb : b < 2 ^ 31) (hc : c < 2 ^ 31) : lg_cmp ((nI a).toInt64 + (nI b).toInt64) (nI c).toInt64 ≤ 0 ↔ a + b ≤ c := by
  rw [nI_l ha, nI_l hb, nI_l hc, lN_add, lg_cmp_le, Int64.le_iff_toInt_le]
  show (Int64.ofNat (a + b)).toInt ≤ (Int64.ofNat c).toInt ↔ _
  rw [lg_ofNat_toInt (by omega), lg_ofNat_toInt (by omega)]
  omega
def jd (T : q_T) (t : Nat) (i : Int32) : Nat → Nat → Int32
  | 0, _ => -5
  | r + 1, k => if T.1 182 t = 0 ∨ i < 0 ∨ ¬ i.toNatClampNeg + k < T.1 183 t then nI (100 + k) else if T.2.2 t (i.toNatClampNeg + k) = (nI (T.1 162 k)).toInt64 then jd T t i r (k + 1) else nI k
def f_judge (T : q_T) (t i : Int32) : Int32 × q_T := if q_is t 6 = true then (if 1 < T.1 182 t.toNatClampNeg then (-12, T) else (jd T t.toNatClampNeg i 16 0, T)) else (-1, T)
set_option maxRecDepth 100000 in
set_option maxHeartbeats 4000000 in
theorem lp_judge (xs : List Int32) {T : q_T} {m m0 : am_Mm} (h : q_Rm T m) (hB : q_Bd T) (hF : q_FC m0 m) {j : Nat} (hj : j < 6) (i : Int32) : ∀ (r k : Nat), k + r = 16 → am_P xs 2 m_judge 35 [some (.ref 153), some (.int (nI j)), some (.int i), some (.int (nI k))] [] m (am_qi (jd T j i r k) (q_G T m0)) := by
  intro r
  induction r with
  | zero =>
    intro k hk
    refine w_iload_n (pc' := 36) rfl rfl rfl ?_
    refine w_bipush (pc' := 38) 16 rfl rfl bp_16 ?_
    refine w_ic_ge (t := 108) (pc' := 41) rfl (by decide) rfl (fun h38 => ?_) (fun h38 => ?_)
    · have g1 : 16 ≤ k := (nI_leI (a := 16) (b := k) (by omega) (by omega)).mp h38
      refine w_bipush (pc' := 110) (-5) rfl rfl bp_m5 ?_
      refine w_iret rfl rfl rfl ?_
      exact ⟨rfl, h, hF⟩
    · have g2 : ¬ 16 ≤ k := fun q => h38 ((nI_leI (a := 16) (b := k) (by omega) (by omega)).mpr q)
      omega
  | succ r ih =>
    intro k hk
    refine w_iload_n (pc' := 36) rfl rfl rfl ?_
    refine w_bipush (pc' := 38) 16 rfl rfl bp_16 ?_
    refine w_ic_ge (t := 108) (pc' := 41) rfl (by decide) rfl (fun h38 => ?_) (fun h38 => ?_)
    · have g1 : 16 ≤ k := (nI_leI (a := 16) (b := k) (by omega) (by omega)).mp h38
      omega
    · have g2 : ¬ 16 ≤ k := fun q => h38 ((nI_leI (a := 16) (b := k) (by omega) (by omega)).mpr q)
      refine w_aload_n (pc' := 42) rfl rfl rfl rfl ?_
      refine w_getC (pc' := 45) rfl rfl rfl sh_153 rfl ?_
      refine w_iload_n (pc' := 46) rfl rfl rfl ?_
      refine w_iald (j := (j)) (pc' := 47) rfl rfl sh_182 rfl (by omega) (by decide) ?_
      rw [show m.1 182 j = nI (T.1 182 (j)) - 1 from (rd_182 h _ :)]
      have b3 : (T.1 182 (j)) < 6 := hB 182 (j)
      refine w_iconst (pc' := 48) (-1) rfl rfl ic_m1 ?_
      refine w_ic_eq (t := 71) (pc' := 51) rfl (by decide) rfl (fun h48 => ?_) (fun h48 => ?_)
      · have g4 : (T.1 182 (j)) = 0 := (nI_pp (a := (T.1 182 (j))) (b := 0) (by omega) (by omega)).mp h48
        refine w_bipush (pc' := 73) 100 rfl rfl bp_100 ?_
        refine w_iload_n (pc' := 74) rfl rfl rfl ?_
        refine w_iadd (pc' := 75) rfl rfl ?_
        rw [show (100 : Int32) + nI (k) = nI (100 + k) from nI_add _ _]
        refine w_iret rfl rfl rfl ?_
        rw [show jd T j i (r + 1) k = nI (100 + k) by simp [jd, g2, Nat.lt_of_not_le g2, g4]]
        exact ⟨rfl, h, hF⟩
      · have g5 : ¬ (T.1 182 (j)) = 0 := fun q => h48 ((nI_pp (a := (T.1 182 (j))) (b := 0) (by omega) (by omega)).mpr q)
        refine w_iload_n (pc' := 52) rfl rfl rfl ?_
        refine w_if_lt (t := 71) (pc' := 55) rfl (by decide) rfl (fun h52 => ?_) (fun h52 => ?_)
        · have hi : i < 0 := h52
          refine w_bipush (pc' := 73) 100 rfl rfl bp_100 ?_
          refine w_iload_n (pc' := 74) rfl rfl rfl ?_
          refine w_iadd (pc' := 75) rfl rfl ?_
          rw [show (100 : Int32) + nI (k) = nI (100 + k) from nI_add _ _]
          refine w_iret rfl rfl rfl ?_
          rw [show jd T j i (r + 1) k = nI (100 + k) by simp [jd, g2, Nat.lt_of_not_le g2, g5, hi]]
          exact ⟨rfl, h, hF⟩
        · have hi : ¬ i < 0 := h52
          obtain ⟨ji, hji, rfl⟩ := nI_of hi
          refine w_iload_n (pc' := 56) rfl rfl rfl ?_
          refine w_i2l (pc' := 57) rfl rfl ?_
          refine w_iload_n (pc' := 58) rfl rfl rfl ?_
          refine w_i2l (pc' := 59) rfl rfl ?_
          refine w_ladd (pc' := 60) rfl rfl ?_
          refine w_aload_n (pc' := 61) rfl rfl rfl rfl ?_
          refine w_getC (pc' := 64) rfl rfl rfl sh_153 rfl ?_
          refine w_iload_n (pc' := 65) rfl rfl rfl ?_
          refine w_iald (j := (j)) (pc' := 66) rfl rfl sh_183 rfl (by omega) (by decide) ?_
          rw [show m.1 183 j = nI (T.1 183 (j)) from (rd_183 h _ :)]
          have b6 : (T.1 183 (j)) < 61 := hB 183 (j)
          refine w_i2l (pc' := 67) rfl rfl ?_
          refine w_lcmp (pc' := 68) rfl rfl ?_
          refine w_if_lt (t := 76) (pc' := 71) rfl (by decide) rfl (fun h68 => ?_) (fun h68 => ?_)
          · have gL : ji + k < T.1 183 j := (lg_ltS (a := ji) (b := k) (c := T.1 183 j) (by omega) (by omega) (by omega)).mp h68
            refine w_aload_n (pc' := 77) rfl rfl rfl rfl ?_
            refine w_getC (pc' := 80) rfl rfl rfl sh_153 rfl ?_
            refine w_bipush (pc' := 82) 60 rfl rfl bp_60 ?_
            refine w_iload_n (pc' := 83) rfl rfl rfl ?_
            refine w_imul (pc' := 84) rfl rfl ?_
            rw [show (60 : Int32) * nI (j) = nI (60 * j) from nI_mul _ _]
            refine w_iload_n (pc' := 85) rfl rfl rfl ?_
            refine w_iadd (pc' := 86) rfl rfl ?_
            rw [show nI (60 * j) + nI (ji) = nI ((60 * j) + ji) from nI_add _ _]
            refine w_iload_n (pc' := 87) rfl rfl rfl ?_
            refine w_iadd (pc' := 88) rfl rfl ?_
            rw [show nI ((60 * j) + ji) + nI (k) = nI (((60 * j) + ji) + k) from nI_add _ _]
            refine w_lald (j := (((60 * j) + ji) + k)) (pc' := 89) rfl rfl sh_184 rfl (by omega) (by decide) ?_
            rw [show m.2 184 (60 * j + ji + k) = T.2.2 j (ji + k) from (congrArg (m.2 184) (by omega)).trans (h.2.2 j (ji + k) (by omega) (by omega))]
            refine w_aload_n (pc' := 90) rfl rfl rfl rfl ?_
            refine w_getC (pc' := 93) rfl rfl rfl sh_153 rfl ?_
            refine w_iload_n (pc' := 94) rfl rfl rfl ?_
            refine w_iald (j := (k)) (pc' := 95) rfl rfl sh_162 rfl (by omega) (by decide) ?_
            rw [show m.1 162 k = nI (T.1 162 (k)) from (rd_162 h _ :)]
            have b7 : (T.1 162 (k)) < 8 := hB 162 (k)
            refine w_i2l (pc' := 96) rfl rfl ?_
            refine w_lcmp (pc' := 97) rfl rfl ?_
            refine w_if_eq (t := 102) (pc' := 100) rfl (by decide) rfl (fun h97 => ?_) (fun h97 => ?_)
            · have gE : T.2.2 j (ji + k) = (nI (T.1 162 k)).toInt64 := (lg_cmp_eq _ _).mp h97
              refine w_iinc3 (pc' := 105) 1 rfl rfl ic_1 rfl ?_
              rw [nI_inc]
              refine w_goto (pc' := 35) rfl (by decide) ?_
              rw [show jd T j (nI ji) (r + 1) k = jd T j (nI ji) r (k + 1) by simp [jd, g2, Nat.lt_of_not_le g2, g5, hi, nI_clamp (show ji < 2 ^ 31 by omega), gL, gE]]
              exact ih (k + 1) (by omega)
            · have gE : ¬ T.2.2 j (ji + k) = (nI (T.1 162 k)).toInt64 := fun q => h97 ((lg_cmp_eq _ _).mpr q)
              refine w_iload_n (pc' := 101) rfl rfl rfl ?_
              refine w_iret rfl rfl rfl ?_
              rw [show jd T j (nI ji) (r + 1) k = nI k by simp [jd, g2, Nat.lt_of_not_le g2, g5, hi, nI_clamp (show ji < 2 ^ 31 by omega), gL, gE]]
              exact ⟨rfl, h, hF⟩
          · have gL : ¬ ji + k < T.1 183 j := fun q => h68 ((lg_ltS (a := ji) (b := k) (c := T.1 183 j) (by omega) (by omega) (by omega)).mpr q)
            refine w_bipush (pc' := 73) 100 rfl rfl bp_100 ?_
            refine w_iload_n (pc' := 74) rfl rfl rfl ?_
            refine w_iadd (pc' := 75) rfl rfl ?_
            rw [show (100 : Int32) + nI (k) = nI (100 + k) from nI_add _ _]
            refine w_iret rfl rfl rfl ?_
            rw [show jd T j (nI ji) (r + 1) k = nI (100 + k) by simp [jd, g2, Nat.lt_of_not_le g2, g5, hi, nI_clamp (show ji < 2 ^ 31 by omega), gL]]
            exact ⟨rfl, h, hF⟩
set_option maxRecDepth 100000 in
set_option maxHeartbeats 4000000 in
theorem v_m_judge (xs : List Int32) {T : q_T} {m : am_Mm} (h : q_Rm T m) (hB : q_Bd T) (t : Int32) (i : Int32) : am_V xs 3 208 [.ref 153, .int t, .int i] m (am_qi (f_judge T t i).1 (q_G (f_judge T t i).2 m)) := by
  have hF : q_FC m m := q_FC.rf
  have hn : T.1 153 0 < 7 := hB 153 0
  refine am_V_of ky_208 (Nat.le_of_ble_eq_true rfl) ?_
  show am_P xs 2 m_judge 0 [some (.ref 153), some (.int t), some (.int i), none] [] m _
  refine w_iload_n (pc' := 1) rfl rfl rfl ?_
  refine w_iconst (pc' := 2) 0 rfl rfl ic_0 ?_
  refine w_iconst (pc' := 3) 5 rfl rfl ic_5 ?_
  refine w_cS3i (pc' := 6) (v_m_win xs _ _ _ (6) (by omega) (by first | decide | rfl)) (by decide) rfl rfl rfl (Or.inl rfl) (Nat.le_of_ble_eq_true rfl) (fun m' hm' => ?_)
  rw [show m' = m from hm']
  clear hm' m'
  refine w_if_ne (t := 11) (pc' := 9) rfl (by decide) rfl (fun h6 => ?_) (fun h6 => ?_)
  · obtain ⟨j1, hj1, rfl⟩ := q_is_of (bB_n0.mp h6) (by omega)
    refine w_aload_n (pc' := 12) rfl rfl rfl rfl ?_
    refine w_getC (pc' := 15) rfl rfl rfl sh_153 rfl ?_
    refine w_iload_n (pc' := 16) rfl rfl rfl ?_
    refine w_iald (j := (j1)) (pc' := 17) rfl rfl sh_182 rfl (by omega) (by decide) ?_
    rw [show m.1 182 j1 = nI (T.1 182 (j1)) - 1 from (rd_182 h _ :)]
    have b2 : (T.1 182 (j1)) < 6 := hB 182 (j1)
    refine w_iconst (pc' := 18) (-1) rfl rfl ic_m1 ?_
    refine w_ic_eq (t := 33) (pc' := 21) rfl (by decide) rfl (fun h18 => ?_) (fun h18 => ?_)
    · have g3 : (T.1 182 (j1)) = 0 := (nI_pp (a := (T.1 182 (j1))) (b := 0) (by omega) (by omega)).mp h18
      refine w_iconst (pc' := 34) 0 rfl rfl ic_0 ?_
      refine w_ist3 (pc' := 35) rfl rfl rfl ?_
      rw [show f_judge T (nI j1) i = (jd T j1 i 16 0, T) by simp [f_judge, q_is_nI (n := 6) hj1 (by omega), nI_clamp (show j1 < 2 ^ 31 by omega), show ¬ 1 < T.1 182 j1 by omega]]
      exact lp_judge xs h hB hF (by omega) i 16 0 (by omega)
    · have g4 : ¬ (T.1 182 (j1)) = 0 := fun q => h18 ((nI_pp (a := (T.1 182 (j1))) (b := 0) (by omega) (by omega)).mpr q)
      refine w_aload_n (pc' := 22) rfl rfl rfl rfl ?_
      refine w_getC (pc' := 25) rfl rfl rfl sh_153 rfl ?_
      refine w_iload_n (pc' := 26) rfl rfl rfl ?_
      refine w_iald (j := (j1)) (pc' := 27) rfl rfl sh_182 rfl (by omega) (by decide) ?_
      rw [show m.1 182 j1 = nI (T.1 182 (j1)) - 1 from (rd_182 h _ :)]
      have b5 : (T.1 182 (j1)) < 6 := hB 182 (j1)
      refine w_if_eq (t := 33) (pc' := 30) rfl (by decide) rfl (fun h27 => ?_) (fun h27 => ?_)
      · have g6 : (T.1 182 (j1)) = 1 := (nI_pp (a := (T.1 182 (j1))) (b := 1) (by omega) (by omega)).mp h27
        refine w_iconst (pc' := 34) 0 rfl rfl ic_0 ?_
        refine w_ist3 (pc' := 35) rfl rfl rfl ?_
        rw [show f_judge T (nI j1) i = (jd T j1 i 16 0, T) by simp [f_judge, q_is_nI (n := 6) hj1 (by omega), nI_clamp (show j1 < 2 ^ 31 by omega), show ¬ 1 < T.1 182 j1 by omega]]
        exact lp_judge xs h hB hF (by omega) i 16 0 (by omega)
      · have g7 : ¬ (T.1 182 (j1)) = 1 := fun q => h27 ((nI_pp (a := (T.1 182 (j1))) (b := 1) (by omega) (by omega)).mpr q)
        refine w_bipush (pc' := 32) (-12) rfl rfl bp_m12 ?_
        refine w_iret rfl rfl rfl ?_
        have hf : f_judge T (nI j1) i = (-12, T) := by simp [f_judge, q_is_nI (n := 6) hj1 (by omega), nI_clamp (show j1 < 2 ^ 31 by omega), show 1 < T.1 182 j1 by omega]
        rw [hf]
        exact ⟨rfl, h, hF⟩
  · have hN8 := bB_0.mp h6
    refine w_iconst (pc' := 10) (-1) rfl rfl ic_m1 ?_
    refine w_iret rfl rfl rfl ?_
    have hf : f_judge T t i = (-1, T) := by simp [f_judge, hN8]
    rw [hf]
    exact ⟨rfl, h, hF⟩
