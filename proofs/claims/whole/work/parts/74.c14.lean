theorem bc_lt7 : ∀ s, s < 64 → f_bc (nI s) < 7 := by decide +kernel
theorem nI_ne5 {k : Nat} (hk : k < 2 ^ 31) : ¬ nI k = -5 := fun q => nI_pos hk (by rw [q]; decide)
theorem q_is_neg {x : Int32} {n : Nat} (h : x < 0) (hn : n < 2 ^ 31) : q_is x n = false := Bool.eq_false_iff.mpr (fun z => by
  obtain ⟨i, hi, rfl⟩ := q_is_of z hn
  exact absurd h (nI_pos (by omega)))
theorem q_is_big {j n : Nat} (h : n ≤ j) (hj : j < 2 ^ 31) : q_is (nI j) n = false := Bool.eq_false_iff.mpr (fun z => by
  obtain ⟨i, hi, e⟩ := q_is_of z (by omega)
  have := (nI_eq hj (by omega)).mp e
  omega)
theorem q_is_2f {u : Int32} (h0 : ¬ u = 0) (h1 : ¬ u = 1) : q_is u 2 = false := Bool.eq_false_iff.mpr (fun z => by
  obtain ⟨i, hi, rfl⟩ := q_is_of z (by omega)
  rcases (show i = 0 ∨ i = 1 by omega) with rfl | rfl
  · exact h0 rfl
  · exact h1 rfl)
set_option maxRecDepth 100000 in
set_option maxHeartbeats 4000000 in
theorem lp_kcrew (xs : List Int32) {T : q_T} {m0 : am_Mm} (hC : q_Rc T m0) (hI : q_I T) {n : Nat} (hn : n < 100) : ∀ (r k : Nat), k + r = 2 ^ T.1 153 0 → ∀ (f w : Int32) (m : am_Mm), w = (if f = -5 then 7 else f_bc f) → q_Fl 61 m0 m → ∀ (l6 : Option Value), am_P xs 9 k_crew 40 [some (.ref 0), some (.int (nI n)), some (.int (f_db n T)), some (.int f), some (.int w), some (.int (nI k)), l6] [] m (am_qi (cro T n r k f) (fun m' => q_Fl 61 m0 m')) := by
  intro r
  induction r with
  | zero =>
    intro k hk f w m hw hF l6
    have hF0 := hF
    have hY := hI.1.1
    have hB := hY.1
    have hl6 := hI.1.2.1
    have hn0 : T.1 153 0 < 7 := hB 153 0
    have hp6 : 2 ^ T.1 153 0 < 2 ^ 7 := Nat.pow_lt_pow_right (by decide) hn0
    have hp7 : 2 ^ T.1 153 0 ≤ 2 ^ 6 := Nat.pow_le_pow_right (by decide) (by omega)
    refine w_iload (pc' := 42) rfl rfl rfl ?_
    refine w_iconst (pc' := 43) 1 rfl rfl ic_1 ?_
    refine w_aload_n (pc' := 44) rfl rfl rfl rfl ?_
    refine w_getC (pc' := 47) rfl rfl rfl sh_0 rfl ?_
    refine w_getI (pc' := 50) rfl rfl rfl (shL q_L1) rfl ?_
    rw [show m.1 1 5 = nI (T.1 153 0) from (congrFun (hF.lt (by omega)) 5).trans hC.1.1]
    refine w_ishl (pc' := 51) rfl rfl ?_
    rw [show (1 : Int32) <<< (nI (T.1 153 0) &&& 31) = nI (2 ^ T.1 153 0) from nI_bit _ (by omega)]
    refine w_ic_ge (t := 123) (pc' := 54) rfl (by decide) rfl (fun h51 => ?_) (fun h51 => ?_)
    · have g1 : (2 ^ T.1 153 0) ≤ k := (nI_leI (a := (2 ^ T.1 153 0)) (b := k) (by omega) (by omega)).mp h51
      refine w_iload_n (pc' := 124) rfl rfl rfl ?_
      refine w_iret rfl rfl rfl ?_
      exact ⟨rfl, hF⟩
    · have g2 : ¬ (2 ^ T.1 153 0) ≤ k := fun q => h51 ((nI_leI (a := (2 ^ T.1 153 0)) (b := k) (by omega) (by omega)).mpr q)
      omega
  | succ r ih =>
    intro k hk f w m hw hF l6
    have hF0 := hF
    have hY := hI.1.1
    have hB := hY.1
    have hl6 := hI.1.2.1
    have hn0 : T.1 153 0 < 7 := hB 153 0
    have hp6 : 2 ^ T.1 153 0 < 2 ^ 7 := Nat.pow_lt_pow_right (by decide) hn0
    have hp7 : 2 ^ T.1 153 0 ≤ 2 ^ 6 := Nat.pow_le_pow_right (by decide) (by omega)
    refine w_iload (pc' := 42) rfl rfl rfl ?_
    refine w_iconst (pc' := 43) 1 rfl rfl ic_1 ?_
    refine w_aload_n (pc' := 44) rfl rfl rfl rfl ?_
    refine w_getC (pc' := 47) rfl rfl rfl sh_0 rfl ?_
    refine w_getI (pc' := 50) rfl rfl rfl (shL q_L1) rfl ?_
    rw [show m.1 1 5 = nI (T.1 153 0) from (congrFun (hF.lt (by omega)) 5).trans hC.1.1]
    refine w_ishl (pc' := 51) rfl rfl ?_
    rw [show (1 : Int32) <<< (nI (T.1 153 0) &&& 31) = nI (2 ^ T.1 153 0) from nI_bit _ (by omega)]
    refine w_ic_ge (t := 123) (pc' := 54) rfl (by decide) rfl (fun h51 => ?_) (fun h51 => ?_)
    · have g1 : (2 ^ T.1 153 0) ≤ k := (nI_leI (a := (2 ^ T.1 153 0)) (b := k) (by omega) (by omega)).mp h51
      omega
    · have g2 : ¬ (2 ^ T.1 153 0) ≤ k := fun q => h51 ((nI_leI (a := (2 ^ T.1 153 0)) (b := k) (by omega) (by omega)).mpr q)
      refine w_iload (pc' := 56) rfl rfl rfl ?_
      refine w_cS1i (pc' := 59) (v_bitCount xs m _) (by decide) rfl rfl rfl (Or.inl rfl) (Nat.le_of_ble_eq_true rfl) (fun m' hm' => ?_)
      rw [show m' = m from hm']
      clear hm' m'
      refine w_ist6 (pc' := 61) rfl rfl rfl ?_
      refine w_iload (pc' := 63) rfl rfl rfl ?_
      refine w_iload (pc' := 65) rfl rfl rfl ?_
      refine w_ic_ge (t := 117) (pc' := 68) rfl (by decide) rfl (fun h65 => ?_) (fun h65 => ?_)
      · have hge : ¬ f_bc (nI k) < w := Int32.not_lt.mpr h65
        refine w_iinc5 (pc' := 120) 1 rfl rfl ic_1 rfl ?_
        rw [nI_inc]
        refine w_goto (pc' := 40) rfl (by decide) ?_
        rw [show cro T n (r + 1) k f = cro T n r (k + 1) f from congrArg (cro T n r (k + 1)) (if_neg (fun z => hge (by rw [hw]; split; (exact bc_lt7 k (by omega)); (rename_i e; exact z.elim (fun y => absurd y e) id))))]
        exact ih (k + 1) (by omega) f w m hw hF _
      · have hlt : f_bc (nI k) < w := Int32.not_le.mp h65
        refine w_aload_n (pc' := 69) rfl rfl rfl rfl ?_
        refine w_getC (pc' := 72) rfl rfl rfl sh_0 rfl ?_
        refine w_aload_n (pc' := 73) rfl rfl rfl rfl ?_
        refine w_getC (pc' := 76) rfl rfl rfl sh_0 rfl ?_
        refine w_cV1n (pc' := 79) (v_la_copyFrom xs q_L1 q_L61 (Or.inl (by omega)) (hC.1.fl hF (Or.inl (by omega)) (by omega)) hB) (by decide) rfl rfl rfl (Nat.le_of_ble_eq_true rfl) (shL q_L61) rfl (fun m1 hm' => ?_)
        obtain ⟨hR_1, hF_1⟩ := hm'
        have hF_1 := hF.tr hF_1
        refine w_aload_n (pc' := 80) rfl rfl rfl rfl ?_
        refine w_getC (pc' := 83) rfl rfl rfl sh_0 rfl ?_
        refine w_iload (pc' := 85) rfl rfl rfl ?_
        refine w_cV1n (pc' := 88) (v_la_othersDone xs q_L61 hR_1 hB (s := k)) (by decide) rfl rfl rfl (Nat.le_of_ble_eq_true rfl) (shL q_L61) rfl (fun m2 hm' => ?_)
        obtain ⟨hR_2, hF_2⟩ := hm'
        have hF_2 := hF_1.tr hF_2
        refine w_aload_n (pc' := 89) rfl rfl rfl rfl ?_
        refine w_getC (pc' := 92) rfl rfl rfl sh_0 rfl ?_
        refine w_iload_n (pc' := 93) rfl rfl rfl ?_
        refine w_cV1n (pc' := 96) (v_la_hoursGo xs q_L61 (n := n) (h0 := 0) hR_2 (q_md_Y hY (fun x => q_cs_lt hB x)) (hC.2.1.fl2 hF_2 rfl (by omega) hl6) hl6 (by omega)) (by decide) rfl rfl rfl (Nat.le_of_ble_eq_true rfl) (shL q_L61) rfl (fun m3 hm' => ?_)
        obtain ⟨hR_3, hF_3⟩ := hm'
        have hF_3 := hF_2.tr hF_3
        have hG_3 := f_gn_inv (n) 0 (f_cs T k) (q_md_Y hY (fun x => q_cs_lt hB x)) (by omega)
        refine w_aload_n (pc' := 97) rfl rfl rfl rfl ?_
        refine w_getC (pc' := 100) rfl rfl rfl sh_0 rfl ?_
        refine w_getI (pc' := 103) rfl rfl rfl (shL q_L61) rfl ?_
        have b3 : (f_gn (n) (f_cs T k)).1 153 10 < 65536 := hG_3.1.1 153 (10)
        rw [show m3.1 61 1 = nI ((f_gn (n) (f_cs T k)).1 153 10) from hR_3.2.1]
        refine w_cS1i (pc' := 106) (v_bitCount xs m3 _) (by decide) rfl rfl rfl (Or.inl rfl) (Nat.le_of_ble_eq_true rfl) (fun m' hm' => ?_)
        rw [show m' = m3 from hm']
        clear hm' m'
        refine w_iload_n (pc' := 107) rfl rfl rfl ?_
        refine w_ic_lt (t := 117) (pc' := 110) rfl (by decide) rfl (fun h107 => ?_) (fun h107 => ?_)
        · have hle : f_db n (f_cs T k) < f_db n T := h107
          refine w_iinc5 (pc' := 120) 1 rfl rfl ic_1 rfl ?_
          rw [nI_inc]
          refine w_goto (pc' := 40) rfl (by decide) ?_
          rw [show cro T n (r + 1) k f = cro T n r (k + 1) f from congrArg (cro T n r (k + 1)) ((if_pos (by rw [hw] at hlt; split at hlt; (rename_i e; exact Or.inl e); (exact Or.inr hlt))).trans (if_neg (Int32.not_le.mpr hle)))]
          exact ih (k + 1) (by omega) f w m3 hw hF_3 _
        · have hle : ¬ f_db n (f_cs T k) < f_db n T := h107
          refine w_iload (pc' := 112) rfl rfl rfl ?_
          refine w_ist4 (pc' := 114) rfl rfl rfl ?_
          refine w_iload (pc' := 116) rfl rfl rfl ?_
          refine w_ist3 (pc' := 117) rfl rfl rfl ?_
          refine w_iinc5 (pc' := 120) 1 rfl rfl ic_1 rfl ?_
          rw [nI_inc]
          refine w_goto (pc' := 40) rfl (by decide) ?_
          rw [show cro T n (r + 1) k f = cro T n r (k + 1) (nI k) from congrArg (cro T n r (k + 1)) ((if_pos (by rw [hw] at hlt; split at hlt; (rename_i e; exact Or.inl e); (exact Or.inr hlt))).trans (if_pos (Int32.not_lt.mp hle)))]
          exact ih (k + 1) (by omega) (nI k) _ m3 (if_neg (nI_ne5 (by omega))).symm hF_3 _
set_option maxRecDepth 100000 in
set_option maxHeartbeats 4000000 in
theorem v_kcrew (xs : List Int32) {T : q_T} {m : am_Mm} (hC : q_Rc T m) (hI : q_I T) {n : Nat} (hn : n < 100) : am_V xs 10 90 [.ref 0, .int (nI n)] m (am_qi (f_crew T n) (fun m' => q_Fl 61 m m')) := by
  have hY := hI.1.1
  have hB := hY.1
  have hl6 := hI.1.2.1
  have hn0 : T.1 153 0 < 7 := hB 153 0
  have hF : q_Fl 61 m m := q_Fl.rf
  refine am_V_of ky_90 (Nat.le_of_ble_eq_true rfl) ?_
  show am_P xs 9 k_crew 0 [some (.ref 0), some (.int (nI n)), none, none, none, none, none] [] m _
  refine w_aload_n (pc' := 1) rfl rfl rfl rfl ?_
  refine w_getC (pc' := 4) rfl rfl rfl sh_0 rfl ?_
  refine w_aload_n (pc' := 5) rfl rfl rfl rfl ?_
  refine w_getC (pc' := 8) rfl rfl rfl sh_0 rfl ?_
  refine w_cV1n (pc' := 11) (v_la_copyFrom xs q_L1 q_L61 (Or.inl (by omega)) (hC.1.fl hF (Or.inl (by omega)) (by omega)) hB) (by decide) rfl rfl rfl (Nat.le_of_ble_eq_true rfl) (shL q_L61) rfl (fun m1 hm' => ?_)
  obtain ⟨hR_1, hF_1⟩ := hm'
  have hF_1 := hF.tr hF_1
  refine w_aload_n (pc' := 12) rfl rfl rfl rfl ?_
  refine w_getC (pc' := 15) rfl rfl rfl sh_0 rfl ?_
  refine w_iload_n (pc' := 16) rfl rfl rfl ?_
  refine w_cV1n (pc' := 19) (v_la_hoursGo xs q_L61 (n := n) (h0 := 0) hR_1 hY (hC.2.1.fl2 hF_1 rfl (by omega) hl6) hl6 (by omega)) (by decide) rfl rfl rfl (Nat.le_of_ble_eq_true rfl) (shL q_L61) rfl (fun m2 hm' => ?_)
  obtain ⟨hR_2, hF_2⟩ := hm'
  have hF_2 := hF_1.tr hF_2
  have hG_2 := f_gn_inv (n) 0 T hY (by omega)
  refine w_aload_n (pc' := 20) rfl rfl rfl rfl ?_
  refine w_getC (pc' := 23) rfl rfl rfl sh_0 rfl ?_
  refine w_getI (pc' := 26) rfl rfl rfl (shL q_L61) rfl ?_
  have b1 : (f_gn (n) T).1 153 10 < 65536 := hG_2.1.1 153 (10)
  rw [show m2.1 61 1 = nI ((f_gn (n) T).1 153 10) from hR_2.2.1]
  refine w_cS1i (pc' := 29) (v_bitCount xs m2 _) (by decide) rfl rfl rfl (Or.inl rfl) (Nat.le_of_ble_eq_true rfl) (fun m' hm' => ?_)
  rw [show m' = m2 from hm']
  clear hm' m'
  refine w_ist2 (pc' := 30) rfl rfl rfl ?_
  refine w_bipush (pc' := 32) (-5) rfl rfl bp_m5 ?_
  refine w_ist3 (pc' := 33) rfl rfl rfl ?_
  refine w_bipush (pc' := 35) 7 rfl rfl bp_7 ?_
  refine w_ist4 (pc' := 37) rfl rfl rfl ?_
  refine w_iconst (pc' := 38) 0 rfl rfl ic_0 ?_
  refine w_ist5 (pc' := 40) rfl rfl rfl ?_
  exact lp_kcrew xs hC hI hn (2 ^ T.1 153 0) 0 (by omega) (-5) 7 m2 rfl hF_2 none
theorem bto_bt (T : q_T) (c x : Nat) : ∀ (r k : Nat) (a : Int32), k + r ≤ 31 → ∀ i, i < 32 → bt (bto T c x r k a) i = (bt a i || (decide (k ≤ i ∧ i < k + r) && f_sn (q_Tu T c x i))) := by
  intro r
  induction r with
  | zero =>
    intro k a _ i _
    rw [bto, decide_eq_false (show ¬ (k ≤ i ∧ i < k + 0) by omega), Bool.false_and, Bool.or_false]
  | succ r ih =>
    intro k a hk i hi
    rw [bto, ih (k + 1) _ (by omega) i hi]
    have e1 : bt (if f_sn (q_Tu T c x k) = true then a ||| ((1 : Int32) <<< (nI k &&& 31)) else a) i = (bt a i || (decide (i = k) && f_sn (q_Tu T c x i))) := by
      by_cases e : i = k
      · subst e
        rw [decide_eq_true rfl, Bool.true_and]
        split
        · rename_i h
          rw [b_or, b_shl i (by omega) 1 hi, h, Nat.sub_self, decide_eq_true (Nat.le_refl i), bt_1 0 (by omega)]
          rfl
        · rename_i h
          rw [Bool.eq_false_iff.mpr h, Bool.or_false]
      · rw [decide_eq_false e, Bool.false_and, Bool.or_false]
        split
        · rw [b_or, b_shl k (by omega) 1 hi]
          by_cases f : k ≤ i
          · rw [bt_1 (i - k) (by omega), decide_eq_false (show ¬ i - k = 0 by omega), Bool.and_false, Bool.or_false]
          · rw [decide_eq_false f, Bool.false_and, Bool.or_false]
        · rfl
    rw [e1, Bool.or_assoc]
    congr 1
    by_cases e : i = k
    · subst e
      rw [decide_eq_true rfl, decide_eq_false (show ¬ (i + 1 ≤ i ∧ i < i + 1 + r) by omega), decide_eq_true (show i ≤ i ∧ i < i + (r + 1) by omega), Bool.false_and, Bool.or_false]
    · rw [decide_eq_false e, Bool.false_and, Bool.false_or]
      congr 1
      rw [decide_eq_decide]
      omega
/-- a number of ten bits -/
def q_n10 (g : Nat → Bool) : Nat → Nat
  | 0 => 0
  | k + 1 => q_n10 g k + (if g k = true then 2 ^ k else 0)
def q_c10 (g : Nat → Bool) : Nat → Nat
  | 0 => 0
  | k + 1 => q_c10 g k + (if g k = true then 1 else 0)
theorem q_n10_lt (g : Nat → Bool) : ∀ k, q_n10 g k < 2 ^ k := by
  intro k
  induction k with
  | zero => exact Nat.one_pos
  | succ k ih =>
    rw [q_n10, Nat.pow_succ]
    split <;> omega
theorem q_n10_bt (g : Nat → Bool) : ∀ k i, (q_n10 g k).testBit i = (decide (i < k) && g i) := by
  intro k
  induction k with
  | zero => exact fun i => by rw [q_n10, Nat.zero_testBit, decide_eq_false (by omega), Bool.false_and]
  | succ k ih =>
    intro i
    have h := q_n10_lt g k
    rw [q_n10]
    split
    · rename_i hg
      rw [Nat.add_comm]
      by_cases e : i = k
      · subst e
        rw [Nat.testBit_two_pow_add_eq, ih, decide_eq_false (by omega), decide_eq_true (by omega), hg]
        rfl
      · by_cases f : i < k
        · rw [Nat.testBit_two_pow_add_gt f, ih, decide_eq_true f, decide_eq_true (show i < k + 1 by omega)]
        · rw [decide_eq_false (show ¬ i < k + 1 by omega), Bool.false_and]
          exact Nat.testBit_lt_two_pow (Nat.lt_of_lt_of_le (show 2 ^ k + q_n10 g k < 2 ^ (k + 1) by rw [Nat.pow_succ]; omega) (Nat.pow_le_pow_right (by decide) (by omega)))
    · rename_i hg
      rw [Nat.add_zero, ih]
      by_cases e : i = k
      · subst e
        rw [Bool.eq_false_iff.mpr hg, Bool.and_false, Bool.and_false]
      · congr 1
        rw [decide_eq_decide]
        omega
theorem bc_10 : ∀ N, N < 1024 → f_bc (nI N) = nI (q_c10 (fun i => N.testBit i) 10) := by decide +kernel
theorem q_c10_eq {g g' : Nat → Bool} : ∀ k, (∀ i, i < k → g i = g' i) → q_c10 g k = q_c10 g' k := by
  intro k
  induction k with
  | zero => exact fun _ => rfl
  | succ k ih =>
    intro h
    rw [q_c10, q_c10, ih (fun i hi => h i (by omega)), h k (by omega)]
theorem bt_nI {n i : Nat} (hi : i < 32) : bt (nI n) i = n.testBit i := by
  show (BitVec.ofNat 32 n).getLsbD i = _
  rw [BitVec.getLsbD_ofNat, decide_eq_true hi, Bool.true_and]
theorem bto_10 (T : q_T) (p : Nat) : f_bc (bto T 155 p 10 0 0) = nI (q_c10 (fun i => f_sn (q_Tu T 155 p i)) 10) := by
  have e : bto T 155 p 10 0 0 = nI (q_n10 (fun i => f_sn (q_Tu T 155 p i)) 10) := b_ext (fun i hi => by
    rw [bto_bt T 155 p 10 0 0 (by omega) i hi, b_0, Bool.false_or, bt_nI hi, q_n10_bt]
    congr 1
    rw [decide_eq_decide]
    omega)
  rw [e, bc_10 _ (q_n10_lt _ 10)]
  congr 1
  exact q_c10_eq 10 (fun i hi => by rw [q_n10_bt, decide_eq_true hi, Bool.true_and])
theorem cno_c (T : q_T) (p : Nat) : ∀ (r many : Nat) (low : Int32), (cno T p r many low).1 = many + q_c10 (fun i => f_sn (q_Tu T 155 p i)) r := by
  intro r
  induction r with
  | zero => exact fun _ _ => rfl
  | succ r ih =>
    intro many low
    rw [cno, q_c10]
    split
    · rename_i h
      rw [ih]
      omega
    · rename_i h
      rw [ih]
      omega
/-- the least, if there is one -/
def q_lo (g : Nat → Bool) : Nat → Option Nat
  | 0 => none
  | r + 1 => match q_lo g r with
    | some i => some i
    | none => if g r = true then some r else none
theorem q_lo_no {g : Nat → Bool} : ∀ r, (∀ i, i < r → g i = false) → q_lo g r = none := by
  intro r
  induction r with
  | zero => exact fun _ => rfl
  | succ r ih =>
    intro h
    rw [q_lo, ih (fun i hi => h i (by omega)), h r (by omega)]
    rfl
theorem q_lo_at {g : Nat → Bool} {k : Nat} (h0 : ∀ i, i < k → g i = false) (h1 : g k = true) : ∀ n, q_lo g (k + 1 + n) = some k := by
  intro n
  induction n with
  | zero =>
    rw [Nat.add_zero, q_lo, q_lo_no k h0]
    exact if_pos h1
  | succ n ih =>
    rw [← Nat.add_assoc, q_lo, ih]
theorem cno_l (T : q_T) (p : Nat) : ∀ (r many : Nat) (low : Int32), (cno T p r many low).2 = match q_lo (fun i => f_sn (q_Tu T 155 p i)) r with | some i => nI i | none => low := by
  intro r
  induction r with
  | zero => exact fun _ _ => rfl
  | succ r ih =>
    intro many low
    rw [cno, q_lo]
    split
    · rename_i h
      rw [ih]
      cases q_lo (fun i => f_sn (q_Tu T 155 p i)) r with
      | some i => rfl
      | none =>
        first | (dsimp only; done) | (dsimp only; rw [if_pos h])
    · rename_i h
      rw [ih]
      cases q_lo (fun i => f_sn (q_Tu T 155 p i)) r with
      | some i => rfl
      | none =>
        first | (dsimp only; done) | (dsimp only; rw [if_neg h])
theorem bit_one {x : Int32} {k : Nat} (hk : k < 31) : (x >>> (nI k &&& 31)) &&& 1 = 1 ↔ bt x k = true := by
  rw [bit_and1 x hk]
  cases bt x k
  · exact ⟨fun h => absurd h (by decide), fun h => absurd h (by decide)⟩
  · exact ⟨fun _ => rfl, fun _ => rfl⟩
set_option maxRecDepth 100000 in
set_option maxHeartbeats 4000000 in
theorem lp_leastOf (xs : List Int32) {m : am_Mm} {x : Int32} {g : Nat → Bool} (hg : ∀ i, i < 10 → bt x i = g i) : ∀ (r k : Nat), k + r = 10 → (∀ i, i < k → g i = false) → am_P xs 0 k_leastOf 2 [some (.int x), some (.int (nI k))] [] m (am_qi (match q_lo g 10 with | some i => nI i | none => -5) (· = m)) := by
  intro r
  induction r with
  | zero =>
    intro k hk h0
    refine w_iload_n (pc' := 3) rfl rfl rfl ?_
    refine w_bipush (pc' := 5) 9 rfl rfl bp_9 ?_
    refine w_ic_gt (t := 25) (pc' := 8) rfl (by decide) rfl (fun h5 => ?_) (fun h5 => ?_)
    · have g1 : 9 < k := (nI_ltI (a := 9) (b := k) (by omega) (by omega)).mp h5
      refine w_bipush (pc' := 27) (-5) rfl rfl bp_m5 ?_
      refine w_iret rfl rfl rfl ?_
      rw [q_lo_no 10 (fun i hi => h0 i (by omega))]
      exact ⟨rfl, rfl⟩
    · have g2 : ¬ 9 < k := fun q => h5 ((nI_ltI (a := 9) (b := k) (by omega) (by omega)).mpr q)
      omega
  | succ r ih =>
    intro k hk h0
    refine w_iload_n (pc' := 3) rfl rfl rfl ?_
    refine w_bipush (pc' := 5) 9 rfl rfl bp_9 ?_
    refine w_ic_gt (t := 25) (pc' := 8) rfl (by decide) rfl (fun h5 => ?_) (fun h5 => ?_)
    · have g1 : 9 < k := (nI_ltI (a := 9) (b := k) (by omega) (by omega)).mp h5
      omega
    · have g2 : ¬ 9 < k := fun q => h5 ((nI_ltI (a := 9) (b := k) (by omega) (by omega)).mpr q)
      refine w_iload_n (pc' := 9) rfl rfl rfl ?_
      refine w_iload_n (pc' := 10) rfl rfl rfl ?_
      refine w_ishr (pc' := 11) rfl rfl ?_
      refine w_iconst (pc' := 12) 1 rfl rfl ic_1 ?_
      refine w_iand (pc' := 13) rfl rfl ?_
      refine w_iconst (pc' := 14) 1 rfl rfl ic_1 ?_
      refine w_ic_ne (t := 19) (pc' := 17) rfl (by decide) rfl (fun h14 => ?_) (fun h14 => ?_)
      · have hbt : bt x k = false := Bool.eq_false_iff.mpr (fun z => h14 ((bit_one (by omega)).mpr z))
        refine w_iinc1 (pc' := 22) 1 rfl rfl ic_1 rfl ?_
        rw [nI_inc]
        refine w_goto (pc' := 2) rfl (by decide) ?_
        exact ih (k + 1) (by omega) (fun i hi => by
          by_cases e : i = k
          · subst e
            exact (hg i (by omega)).symm.trans hbt
          · exact h0 i (by omega))
      · have hbt : bt x k = true := (bit_one (by omega)).mp h14
        refine w_iload_n (pc' := 18) rfl rfl rfl ?_
        refine w_iret rfl rfl rfl ?_
        have e9 := q_lo_at h0 ((hg k (by omega)).symm.trans hbt) r
        rw [show k + 1 + r = 10 by omega] at e9
        rw [e9]
        exact ⟨rfl, rfl⟩
set_option maxRecDepth 100000 in
set_option maxHeartbeats 4000000 in
theorem v_leastOf (xs : List Int32) {m : am_Mm} {x : Int32} {g : Nat → Bool} (hg : ∀ i, i < 10 → bt x i = g i) : am_V xs 1 100 [.int x] m (am_qi (match q_lo g 10 with | some i => nI i | none => -5) (· = m)) := by
  refine am_V_of ky_100 (Nat.le_of_ble_eq_true rfl) ?_
  show am_P xs 0 k_leastOf 0 [some (.int x), none] [] m _
  refine w_iconst (pc' := 1) 0 rfl rfl ic_0 ?_
  refine w_ist1 (pc' := 2) rfl rfl rfl ?_
  exact lp_leastOf xs hg 10 0 (by omega) (fun i hi => absurd hi (by omega))
theorem nI_10 {u : Int32} {j : Nat} (h : u - 10 = nI j) : u = nI (j + 10) := by
  rw [← nI_add, ← h]
  exact (Int32.sub_add_cancel u 10).symm
def q_Q (T : q_T) (m m' : am_Mm) : Prop := q_Rc T m' ∧ q_FM m m'
theorem q_Rc.Q {T : q_T} {m m' : am_Mm} (h : q_Rc T m) (hI : q_I T) (hF : q_Fq m m') : q_Q T m m' := ⟨h.q hF hI.1.1.1 (fun z => (hI.2 z).1.1) hI.1.2.1, hF.FM⟩
theorem nI_one : nI 1 = 1 := rfl
set_option maxRecDepth 100000 in
set_option maxHeartbeats 4000000 in
theorem v_k_can (xs : List Int32) {T : q_T} {m : am_Mm} (hC : q_Rc T m) (hI : q_I T) (d : Int32) (u : Int32) : am_V xs 12 97 [.ref 0, .int d, .int u] m (am_qi (f_can T d u).1 (q_Q (f_can T d u).2 m)) := by
  have hY := hI.1.1
  have hB := hY.1
  have hl6 := hI.1.2.1
  have hn0 : T.1 153 0 < 7 := hB 153 0
  have hF : q_Fl 61 m m := q_Fl.rf
  have hR1 := hC.1
  refine am_V_of ky_97 (Nat.le_of_ble_eq_true rfl) ?_
  show am_P xs 11 k_can 0 [some (.ref 0), some (.int d), some (.int u), none] [] m _
  rcases hqb : q_is d (T.1 153 0) with _ | _
  · have hqd : q_is d (T.1 153 0) = false := hqb
    refine w_aload_n (pc' := 1) rfl rfl rfl rfl ?_
    refine w_getC (pc' := 4) rfl rfl rfl sh_0 rfl ?_
    refine w_iload_n (pc' := 5) rfl rfl rfl ?_
    refine w_cV1a (pc' := 8) (v_la_drawerN xs q_L1 hR1 hB hqd) (by decide) rfl rfl rfl (Nat.le_of_ble_eq_true rfl) (shL q_L1) rfl (fun m' hm' => ?_)
    rw [show m' = m from hm']
    clear hm' m'
    refine w_ifnullN (pc' := 20) rfl (by decide) ?_
    refine w_iconst (pc' := 21) (-1) rfl rfl ic_m1 ?_
    refine w_iret rfl rfl rfl ?_
    have hf : f_can T d u = (-1, T) := by simp [f_can, hqd]
    rw [hf]
    exact ⟨rfl, hC.Q hI (q_Fq.rf)⟩
  · obtain ⟨jd, hjd, rfl⟩ := q_is_of hqb (by omega)
    refine w_aload_n (pc' := 1) rfl rfl rfl rfl ?_
    refine w_getC (pc' := 4) rfl rfl rfl sh_0 rfl ?_
    refine w_iload_n (pc' := 5) rfl rfl rfl ?_
    refine w_cV1a (pc' := 8) (v_la_drawerS xs q_L1 hR1 hB (p := jd) (by omega)) (by decide) rfl rfl rfl (Nat.le_of_ble_eq_true rfl) (shL q_L1) rfl (fun m' hm' => ?_)
    rw [show m' = m from hm']
    clear hm' m'
    refine w_ifnullR (pc' := 11) rfl rfl (by omega) ?_
    refine w_iload_n (pc' := 12) rfl rfl rfl ?_
    refine w_if_eq (t := 22) (pc' := 15) rfl (by decide) rfl (fun h12 => ?_) (fun h12 => ?_)
    · obtain rfl : u = nI 0 := h12
      refine w_aload_n (pc' := 23) rfl rfl rfl rfl ?_
      refine w_iload_n (pc' := 24) rfl rfl rfl ?_
      refine w_cV1i (pc' := 27) (v_kpossible xs hC hI (p := jd) (by omega)) (by decide) rfl rfl rfl (Nat.le_of_ble_eq_true rfl) sh_0 rfl (fun m1 hm' => ?_)
      have hF_1 := hm'
      refine w_ist3 (pc' := 28) rfl rfl rfl ?_
      refine w_iload_n (pc' := 29) rfl rfl rfl ?_
      refine w_if_ne (t := 37) (pc' := 32) rfl (by decide) rfl (fun h29 => ?_) (fun h29 => ?_)
      · exact absurd h29 (by decide)
      · have g2 : 0 = 0 := (nI_eq (a := 0) (b := 0) (by omega) (by omega)).mp h29
        refine w_iload_n (pc' := 33) rfl rfl rfl ?_
        refine w_cS1i (pc' := 36) (v_bitCount xs m1 _) (by decide) rfl rfl rfl (Or.inl rfl) (Nat.le_of_ble_eq_true rfl) (fun m' hm' => ?_)
        rw [show m' = m1 from hm']
        clear hm' m'
        refine w_iret rfl rfl rfl ?_
        have hf : f_can T (nI jd) (nI 0) = (f_bc (bto T 155 jd 10 0 0), T) := by unfold f_can; rw [if_pos ⟨q_is_nI hjd (by omega), q_is_nI (by omega) (by omega)⟩, nI_clamp (by omega), nI_clamp (by omega), if_pos rfl, cno_c, Nat.zero_add, bto_10]
        rw [hf]
        exact ⟨rfl, hC.Q hI (hF_1.Fq)⟩
    · have hnu0 : ¬ u = 0 := h12
      refine w_iload_n (pc' := 16) rfl rfl rfl ?_
      refine w_iconst (pc' := 17) 1 rfl rfl ic_1 ?_
      refine w_ic_eq (t := 22) (pc' := 20) rfl (by decide) rfl (fun h17 => ?_) (fun h17 => ?_)
      · obtain rfl : u = nI 1 := h17
        refine w_aload_n (pc' := 23) rfl rfl rfl rfl ?_
        refine w_iload_n (pc' := 24) rfl rfl rfl ?_
        refine w_cV1i (pc' := 27) (v_kpossible xs hC hI (p := jd) (by omega)) (by decide) rfl rfl rfl (Nat.le_of_ble_eq_true rfl) sh_0 rfl (fun m2 hm' => ?_)
        have hF_2 := hm'
        refine w_ist3 (pc' := 28) rfl rfl rfl ?_
        refine w_iload_n (pc' := 29) rfl rfl rfl ?_
        refine w_if_ne (t := 37) (pc' := 32) rfl (by decide) rfl (fun h29 => ?_) (fun h29 => ?_)
        · have g3 : ¬ 1 = 0 := fun q => h29 ((nI_eq (a := 1) (b := 0) (by omega) (by omega)).mpr q)
          refine w_iload_n (pc' := 38) rfl rfl rfl ?_
          refine w_cS1i (pc' := 41) (v_leastOf xs (g := fun i => f_sn (q_Tu T 155 jd i)) (fun i hi => by rw [bto_bt T 155 _ 10 0 0 (by omega) i (by omega), b_0, Bool.false_or, decide_eq_true (by omega), Bool.true_and])) (by decide) rfl rfl rfl (Or.inl rfl) (Nat.le_of_ble_eq_true rfl) (fun m' hm' => ?_)
          rw [show m' = m2 from hm']
          clear hm' m'
          refine w_iret rfl rfl rfl ?_
          have hf : f_can T (nI jd) (nI 1) = ((match q_lo (fun i => f_sn (q_Tu T 155 jd i)) 10 with | some i => nI i | none => -5), T) := by unfold f_can; rw [if_pos ⟨q_is_nI hjd (by omega), q_is_nI (by omega) (by omega)⟩, nI_clamp (by omega), nI_clamp (by omega), if_neg (by decide), cno_l]
          rw [hf]
          exact ⟨rfl, hC.Q hI (hF_2.Fq)⟩
        · exact absurd h29 (by decide)
      · have hnu1 : ¬ u = 1 := h17
        refine w_iconst (pc' := 21) (-1) rfl rfl ic_m1 ?_
        refine w_iret rfl rfl rfl ?_
        have hf : f_can T (nI jd) u = (-1, T) := by simp [f_can, q_is_nI (n := T.1 153 0) hjd (by omega), nI_clamp (show jd < 2 ^ 31 by omega), hnu0, hnu1, q_is_2f hnu0 hnu1]
        rw [hf]
        exact ⟨rfl, hC.Q hI (q_Fq.rf)⟩
