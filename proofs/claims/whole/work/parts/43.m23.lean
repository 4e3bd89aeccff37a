theorem lN_divI {a c : Nat} (ha : a < 2 ^ 31) (h0 : 0 < c) (hc : c < 2 ^ 31) : lN a / lN c = lN (a / c) := Int64.toInt_inj.mp (by
  have h1 : a / c ≤ a := Nat.div_le_self a c
  rw [lg_ldiv_nonneg (by rw [lN_toInt ha]; omega) (by rw [lN_toInt hc]; omega), lN_toInt ha, lN_toInt hc, lN_toInt (n := a / c) (by omega)]
  rfl)
theorem lN_remI {a c : Nat} (ha : a < 2 ^ 31) (h0 : 0 < c) (hc : c < 2 ^ 31) : lN a - lN a / lN c * lN c = lN (a % c) := by
  have h1 : a / c * c ≤ a := Nat.div_mul_le_self a c
  have h2 := Nat.div_add_mod a c
  rw [Nat.mul_comm] at h2
  rw [lN_divI ha h0 hc, lN_mul, lN_sub h1]
  congr 1
  generalize a / c * c = z at *
  omega
theorem gcd_step (x y : Nat) : Nat.gcd y (x % y) = Nat.gcd x y := by
  rw [Nat.gcd_comm x y, Nat.gcd_rec y x, Nat.gcd_comm]
def f_part (a b u : Nat) : Int64 := if u = 0 then lN (a / Nat.gcd a b) else lN (b / Nat.gcd a b)
set_option maxRecDepth 100000 in
set_option maxHeartbeats 4000000 in
theorem v_jm_abs (xs : List Int32) (m : am_Mm) {a : Nat} (ha : a < 2 ^ 31) : am_V xs 1 201 [.long (lN a)] m (am_qj (lN a) (· = m)) := by
  refine am_V_of ky_201 (Nat.le_of_ble_eq_true rfl) ?_
  show am_P xs 0 jm_abs 0 [some (.long (lN a)), none] [] m _
  refine w_lload_n (pc' := 1) rfl rfl rfl ?_
  refine w_lconst (pc' := 2) 0 rfl rfl rfl ?_
  refine w_lcmp (pc' := 3) rfl rfl ?_
  refine w_if_ge (t := 11) (pc' := 6) rfl (by decide) rfl (fun h3 => ?_) (fun h3 => ?_)
  · refine w_lload_n (pc' := 12) rfl rfl rfl ?_
    refine w_lret rfl rfl ?_
    exact ⟨rfl, rfl⟩
  · exact absurd ((lg_cmp_ge _ _).mpr ((lN_le (a := 0) (b := a) (by omega) ha).mpr (by omega))) h3
set_option maxRecDepth 100000 in
set_option maxHeartbeats 4000000 in
theorem lp_part (xs : List Int32) {m : am_Mm} {a b u : Nat} (ha : a < 2 ^ 31) (hb : b < 2 ^ 31) (hq : u < 2) : ∀ (N : Nat) (y x : Nat), y < N → x < 2 ^ 31 → y < 2 ^ 31 → (0 < x ∨ 0 < y) → Nat.gcd x y = Nat.gcd a b → ∀ (l9 l10 : Option Value), am_P xs 1 m_part 9 [some (.long (lN a)), none, some (.long (lN b)), none, some (.int (nI u)), some (.long (lN x)), none, some (.long (lN y)), none, l9, l10] [] m (am_qj (f_part a b u) (· = m)) := by
  intro N
  induction N with
  | zero => intro y x hN; omega
  | succ N ih =>
    intro y x hN hx hy hxy hg l9 l10
    refine w_lload (pc' := 11) rfl rfl rfl ?_
    refine w_lconst (pc' := 12) 0 rfl rfl rfl ?_
    refine w_lcmp (pc' := 13) rfl rfl ?_
    refine w_if_eq (t := 34) (pc' := 16) rfl (by decide) rfl (fun h13 => ?_) (fun h13 => ?_)
    · have y0 : y = 0 := (lN_eq (a := y) (b := 0) hy (by omega)).mp ((lg_cmp_eq _ _).mp h13)
      refine w_iload (pc' := 36) rfl rfl rfl ?_
      refine w_if_ne (t := 43) (pc' := 39) rfl (by decide) rfl (fun h36 => ?_) (fun h36 => ?_)
      · have g1 : ¬ u = 0 := fun q => h36 ((nI_eq (a := u) (b := 0) (by omega) (by omega)).mpr q)
        refine w_lload_n (pc' := 44) rfl rfl rfl ?_
        refine w_lload (pc' := 46) rfl rfl rfl ?_
        refine w_ldiv (pc' := 47) rfl rfl (fun z => absurd ((lN_eq (a := x) (b := 0) hx (by omega)).mp z) (by omega)) ?_
        rw [lN_divI hb (by omega) hx]
        refine w_lret rfl rfl ?_
        rw [show f_part a b u = lN (b / x) by unfold f_part; rw [if_neg (by omega), ← hg, y0, Nat.gcd_zero_right]]
        exact ⟨rfl, rfl⟩
      · have g2 : u = 0 := (nI_eq (a := u) (b := 0) (by omega) (by omega)).mp h36
        refine w_lload_n (pc' := 40) rfl rfl rfl ?_
        refine w_goto (pc' := 44) rfl (by decide) ?_
        refine w_lload (pc' := 46) rfl rfl rfl ?_
        refine w_ldiv (pc' := 47) rfl rfl (fun z => absurd ((lN_eq (a := x) (b := 0) hx (by omega)).mp z) (by omega)) ?_
        rw [lN_divI ha (by omega) hx]
        refine w_lret rfl rfl ?_
        rw [show f_part a b u = lN (a / x) by unfold f_part; rw [if_pos (by omega), ← hg, y0, Nat.gcd_zero_right]]
        exact ⟨rfl, rfl⟩
    · have y0 : ¬ y = 0 := fun z => h13 ((lg_cmp_eq _ _).mpr ((lN_eq (a := y) (b := 0) hy (by omega)).mpr z))
      refine w_lload (pc' := 18) rfl rfl rfl ?_
      refine w_lload (pc' := 20) rfl rfl rfl ?_
      refine w_lrem (pc' := 21) rfl rfl (fun z => y0 ((lN_eq (a := y) (b := 0) hy (by omega)).mp z)) ?_
      rw [lN_remI hx (by omega) hy]
      refine w_lst9 (pc' := 23) rfl rfl rfl ?_
      refine w_lload (pc' := 25) rfl rfl rfl ?_
      refine w_lst5 (pc' := 27) rfl rfl rfl ?_
      refine w_lload (pc' := 29) rfl rfl rfl ?_
      refine w_lst7 (pc' := 31) rfl rfl rfl ?_
      refine w_goto (pc' := 9) rfl (by decide) ?_
      have hr := Nat.mod_lt x (show y > 0 by omega)
      exact ih (x % y) y (by omega) hy (by omega) (Or.inl (by omega)) ((gcd_step x y).trans hg) _ _
set_option maxRecDepth 100000 in
set_option maxHeartbeats 4000000 in
theorem v_m_part (xs : List Int32) (m : am_Mm) {a b u : Nat} (ha : a < 2 ^ 31) (hb : b < 2 ^ 31) (hq : u < 2) (hb0 : 0 < b) : am_V xs 2 200 [.long (lN a), .long (lN b), .int (nI u)] m (am_qj (f_part a b u) (· = m)) := by
  refine am_V_of ky_200 (Nat.le_of_ble_eq_true rfl) ?_
  show am_P xs 1 m_part 0 [some (.long (lN a)), none, some (.long (lN b)), none, some (.int (nI u)), none, none, none, none, none, none] [] m _
  refine w_lload_n (pc' := 1) rfl rfl rfl ?_
  refine w_cS1j (pc' := 4) (v_jm_abs xs m (a := a) ha) (by decide) rfl rfl rfl (Or.inl rfl) (Nat.le_of_ble_eq_true rfl) (fun m' hm' => ?_)
  rw [show m' = m from hm']
  clear hm' m'
  refine w_lst5 (pc' := 6) rfl rfl rfl ?_
  refine w_lload_n (pc' := 7) rfl rfl rfl ?_
  refine w_lst7 (pc' := 9) rfl rfl rfl ?_
  exact lp_part xs ha hb hq (b + 1) b a (by omega) ha hb (Or.inr hb0) rfl none none
theorem f_gn_0 {T : q_T} (hY : q_Y 0 T) {n : Nat} (hn : n < 100) {c k : Nat} (h1 : c < 156 ∨ 160 < c) (h2 : ¬ (c = 153 ∧ (k = 10 ∨ k = 11))) : (f_gn n T).1 c k = T.1 c k := (f_gn_inv n 0 T hY (by omega)).2.1.2.1 c k h1 h2
def odo (T : q_T) (p n : Nat) : Nat → Nat → Nat → Nat
  | 0, _, c => c
  | r + 1, k, c => odo T p n r (k + 1) (c + (f_gn n (q_Tu T 156 p k)).1 158 p)
def f_odds (T : q_T) (d n u : Int32) : Int64 × q_T := if q_is d (T.1 153 0) = true ∧ (q_is n 21 = true ∧ q_is u 2 = true) then (f_part (odo T d.toNatClampNeg n.toNatClampNeg 16 0 0) 16 u.toNatClampNeg, T) else (-9223372036854775808, T)
set_option maxRecDepth 100000 in
set_option maxHeartbeats 4000000 in
theorem lp_odds (xs : List Int32) {T : q_T} {m0 : am_Mm} (hY : q_Y 0 T) {p n u : Nat} (hp : p < 6) (hn : n < 100) (hu : u < 2) : ∀ (r k : Nat), k + r = 16 → ∀ (y c : Nat), y < 16 → c ≤ k → ∀ (m : am_Mm), q_Rm (q_Tu T 156 p y) m → q_FC m0 m → am_P xs 9 m_odds 45 [some (.ref 153), some (.int (nI p)), some (.int (nI n)), some (.int (nI u)), some (.int (nI (T.1 156 p))), some (.int (nI c)), some (.int (nI k))] [] m (am_qj (f_part (odo T p n r k c) 16 u) (q_G T m0)) := by
  intro r
  induction r with
  | zero =>
    intro k hk y c hy hc m h hF
    have b6 : T.1 156 p < 16 := hY.1 156 p
    refine w_iload (pc' := 47) rfl rfl rfl ?_
    refine w_bipush (pc' := 49) 16 rfl rfl bp_16 ?_
    refine w_ic_ge (t := 98) (pc' := 52) rfl (by decide) rfl (fun h49 => ?_) (fun h49 => ?_)
    · have g1 : 16 ≤ k := (nI_leI (a := 16) (b := k) (by omega) (by omega)).mp h49
      refine w_aload_n (pc' := 99) rfl rfl rfl rfl ?_
      refine w_getC (pc' := 102) rfl rfl rfl sh_153 rfl ?_
      refine w_iload_n (pc' := 103) rfl rfl rfl ?_
      refine w_iload (pc' := 105) rfl rfl rfl ?_
      refine w_iast (j := (p)) (pc' := 106) rfl rfl sh_156 rfl (by omega) (by decide) ?_
      refine w_gen (h.u (c := 156) (k := p) (x := (T.1 156 p)) rfl (y := _) (show _ = q_enc _ _ _ from rfl)) (hF.u (by decide)) (fun m1 h_1 hF_1 => ?_)
      refine w_iload (pc' := 108) rfl rfl rfl ?_
      refine w_i2l (pc' := 109) rfl rfl ?_
      rw [nI_l (n := c) (by omega)]
      refine w_ldc2_w (pc' := 112) rfl rfl rfl rfl ?_
      refine w_iload_n (pc' := 113) rfl rfl rfl ?_
      refine w_cS3j (pc' := 116) (v_m_part xs m1 (a := c) (b := 16) (u := u) (by omega) (by omega) (by omega) (by omega)) (by decide) rfl rfl rfl (Or.inl rfl) (Nat.le_of_ble_eq_true rfl) (fun m' hm' => ?_)
      rw [show m' = m1 from hm']
      clear hm' m'
      refine w_lret rfl rfl ?_
      refine ⟨rfl, ?_, hF_1⟩
      have e0 := h_1
      rw [q_TT, q_T1 rfl] at e0
      exact e0
    · have g2 : ¬ 16 ≤ k := fun q => h49 ((nI_leI (a := 16) (b := k) (by omega) (by omega)).mpr q)
      omega
  | succ r ih =>
    intro k hk y c hy hc m h hF
    have b6 : T.1 156 p < 16 := hY.1 156 p
    refine w_iload (pc' := 47) rfl rfl rfl ?_
    refine w_bipush (pc' := 49) 16 rfl rfl bp_16 ?_
    refine w_ic_ge (t := 98) (pc' := 52) rfl (by decide) rfl (fun h49 => ?_) (fun h49 => ?_)
    · have g1 : 16 ≤ k := (nI_leI (a := 16) (b := k) (by omega) (by omega)).mp h49
      omega
    · have g2 : ¬ 16 ≤ k := fun q => h49 ((nI_leI (a := 16) (b := k) (by omega) (by omega)).mpr q)
      refine w_aload_n (pc' := 53) rfl rfl rfl rfl ?_
      refine w_getC (pc' := 56) rfl rfl rfl sh_153 rfl ?_
      refine w_iload_n (pc' := 57) rfl rfl rfl ?_
      refine w_iload (pc' := 59) rfl rfl rfl ?_
      refine w_iast (j := (p)) (pc' := 60) rfl rfl sh_156 rfl (by omega) (by decide) ?_
      refine w_gen (h.u (c := 156) (k := p) (x := k) rfl (y := _) (show _ = q_enc _ _ _ from rfl)) (hF.u (by decide)) (fun m1 h_1 hF_1 => ?_)
      refine w_aload_n (pc' := 61) rfl rfl rfl rfl ?_
      refine w_aload_n (pc' := 62) rfl rfl rfl rfl ?_
      refine w_getC (pc' := 65) rfl rfl rfl sh_153 rfl ?_
      refine w_cV1n (pc' := 68) (v_m_keep xs (c := 180) (by decide) sh_180) (by decide) rfl rfl rfl (Nat.le_of_ble_eq_true rfl) sh_153 rfl (fun m2 hm' => ?_)
      have K_2 : m2 = am_kp m1 180 q_D := hm'
      have h_2 : q_Rm (q_Tu T 156 p k) m2 := by rw [K_2]; exact q_Rm_kp (by rw [← q_TT (x := y)]; exact h_1)
      have hF_2 : q_FB m2 m2 := q_FB.rf
      refine w_aload_n (pc' := 69) rfl rfl rfl rfl ?_
      refine w_iload_n (pc' := 70) rfl rfl rfl ?_
      refine w_cV1n (pc' := 73) (v_m_goesOn xs h_2 (n := n) (h0 := 0) (hY.u (c := 156) (k := p) (x := k) (show _ < 16 by omega) (by decide) (by decide)) (by omega)) (by decide) rfl rfl rfl (Nat.le_of_ble_eq_true rfl) sh_153 rfl (fun m3 hm' => ?_)
      obtain ⟨h_3, hG_3⟩ := hm'
      have hF_3 := hF_2.tr hG_3
      have hI_3 := f_gn_inv (n) (0) (q_Tu T 156 p k) (hY.u (c := 156) (k := p) (x := k) (show _ < 16 by omega) (by decide) (by decide)) (by omega)
      refine w_iload (pc' := 75) rfl rfl rfl ?_
      refine w_aload_n (pc' := 76) rfl rfl rfl rfl ?_
      refine w_getC (pc' := 79) rfl rfl rfl sh_153 rfl ?_
      refine w_iload_n (pc' := 80) rfl rfl rfl ?_
      refine w_iald (j := (p)) (pc' := 81) rfl rfl sh_158 rfl (by omega) (by decide) ?_
      rw [show m3.1 158 p = nI ((f_gn n (q_Tu T 156 p k)).1 158 p) from rd_158 h_3 p]
      have hd2 : (f_gn n (q_Tu T 156 p k)).1 158 p < 2 := hI_3.1.1 158 p
      refine w_iadd (pc' := 82) rfl rfl ?_
      rw [show nI (c) + nI (((f_gn n (q_Tu T 156 p k)).1 158 p)) = nI (c + ((f_gn n (q_Tu T 156 p k)).1 158 p)) from nI_add _ _]
      refine w_ist5 (pc' := 84) rfl rfl rfl ?_
      refine w_aload_n (pc' := 85) rfl rfl rfl rfl ?_
      refine w_aload_n (pc' := 86) rfl rfl rfl rfl ?_
      refine w_getC (pc' := 89) rfl rfl rfl sh_153 rfl ?_
      refine w_cV1n (pc' := 92) (v_m_again xs (c := 180) (Or.inr rfl) sh_180) (by decide) rfl rfl rfl (Nat.le_of_ble_eq_true rfl) sh_153 rfl (fun m4 hm' => ?_)
      have R_4 : q_Rm (q_Tu T 156 p k) m4 ∧ q_FC m1 m4 := by rw [show m4 = am_ag m3 180 q_D from hm']; exact q_again (by rw [← q_TT (x := y)]; exact h_1) K_2 h_3 hF_3 (hI_3.2.1.Ag)
      have h_4 := R_4.1
      have hF_4 := hF_1.tr R_4.2
      refine w_iinc6 (pc' := 95) 1 rfl rfl ic_1 rfl ?_
      rw [nI_inc]
      refine w_goto (pc' := 45) rfl (by decide) ?_
      exact ih (k + 1) (by omega) k _ (by omega) (by omega) _ h_4 hF_4
set_option maxRecDepth 100000 in
set_option maxHeartbeats 4000000 in
theorem v_m_odds (xs : List Int32) {T : q_T} {m : am_Mm} (h : q_Rm T m) (hY : q_Y 0 T) (d : Int32) (n : Int32) (u : Int32) : am_V xs 10 199 [.ref 153, .int d, .int n, .int u] m (am_qj (f_odds T d n u).1 (q_G (f_odds T d n u).2 m)) := by
  have hB := hY.1
  have hF : q_FC m m := q_FC.rf
  have hn : T.1 153 0 < 7 := hB 153 0
  refine am_V_of ky_199 (Nat.le_of_ble_eq_true rfl) ?_
  show am_P xs 9 m_odds 0 [some (.ref 153), some (.int d), some (.int n), some (.int u), none, none, none] [] m _
  refine w_aload_n (pc' := 1) rfl rfl rfl rfl ?_
  refine w_iload_n (pc' := 2) rfl rfl rfl ?_
  refine w_cV1i (pc' := 5) (v_m_one xs h (by omega) _) (by decide) rfl rfl rfl (Nat.le_of_ble_eq_true rfl) sh_153 rfl (fun m' hm' => ?_)
  rw [show m' = m from hm']
  clear hm' m'
  refine w_if_eq (t := 27) (pc' := 8) rfl (by decide) rfl (fun h5 => ?_) (fun h5 => ?_)
  · have hN1 := bB_0.mp h5
    refine w_ldc2_w (pc' := 30) rfl rfl rfl rfl ?_
    refine w_lret rfl rfl ?_
    have hf : f_odds T d n u = (-9223372036854775808, T) := by simp [f_odds, hN1]
    rw [hf]
    exact ⟨rfl, h, hF⟩
  · obtain ⟨j2, hj2, rfl⟩ := q_is_of (bB_n0.mp h5) (by omega)
    refine w_iload_n (pc' := 9) rfl rfl rfl ?_
    refine w_iconst (pc' := 10) 0 rfl rfl ic_0 ?_
    refine w_bipush (pc' := 12) 20 rfl rfl bp_20 ?_
    refine w_cS3i (pc' := 15) (v_m_win xs _ _ _ (21) (by omega) (by first | decide | rfl)) (by decide) rfl rfl rfl (Or.inl rfl) (Nat.le_of_ble_eq_true rfl) (fun m' hm' => ?_)
    rw [show m' = m from hm']
    clear hm' m'
    refine w_if_eq (t := 27) (pc' := 18) rfl (by decide) rfl (fun h15 => ?_) (fun h15 => ?_)
    · have hN3 := bB_0.mp h15
      refine w_ldc2_w (pc' := 30) rfl rfl rfl rfl ?_
      refine w_lret rfl rfl ?_
      have hf : f_odds T (nI j2) n u = (-9223372036854775808, T) := by simp [f_odds, q_is_nI (n := T.1 153 0) hj2 (by omega), nI_clamp (show j2 < 2 ^ 31 by omega), hN3]
      rw [hf]
      exact ⟨rfl, h, hF⟩
    · obtain ⟨j4, hj4, rfl⟩ := q_is_of (bB_n0.mp h15) (by omega)
      refine w_iload_n (pc' := 19) rfl rfl rfl ?_
      refine w_iconst (pc' := 20) 0 rfl rfl ic_0 ?_
      refine w_iconst (pc' := 21) 1 rfl rfl ic_1 ?_
      refine w_cS3i (pc' := 24) (v_m_win xs _ _ _ (2) (by omega) (by first | decide | rfl)) (by decide) rfl rfl rfl (Or.inl rfl) (Nat.le_of_ble_eq_true rfl) (fun m' hm' => ?_)
      rw [show m' = m from hm']
      clear hm' m'
      refine w_if_ne (t := 31) (pc' := 27) rfl (by decide) rfl (fun h24 => ?_) (fun h24 => ?_)
      · obtain ⟨j5, hj5, rfl⟩ := q_is_of (bB_n0.mp h24) (by omega)
        refine w_aload_n (pc' := 32) rfl rfl rfl rfl ?_
        refine w_getC (pc' := 35) rfl rfl rfl sh_153 rfl ?_
        refine w_iload_n (pc' := 36) rfl rfl rfl ?_
        refine w_iald (j := (j2)) (pc' := 37) rfl rfl sh_156 rfl (by omega) (by decide) ?_
        rw [show m.1 156 j2 = nI (T.1 156 (j2)) from (rd_156 h _ :)]
        have b6 : (T.1 156 (j2)) < 16 := hB 156 (j2)
        refine w_ist4 (pc' := 39) rfl rfl rfl ?_
        refine w_iconst (pc' := 40) 0 rfl rfl ic_0 ?_
        refine w_ist5 (pc' := 42) rfl rfl rfl ?_
        refine w_iconst (pc' := 43) 0 rfl rfl ic_0 ?_
        refine w_ist6 (pc' := 45) rfl rfl rfl ?_
        have hf : f_odds T (nI j2) (nI j4) (nI j5) = (f_part (odo T j2 j4 16 0 0) 16 j5, T) := by simp [f_odds, q_is_nI (n := T.1 153 0) hj2 (by omega), nI_clamp (show j2 < 2 ^ 31 by omega), q_is_nI (n := 21) hj4 (by omega), nI_clamp (show j4 < 2 ^ 31 by omega), q_is_nI (n := 2) hj5 (by omega), nI_clamp (show j5 < 2 ^ 31 by omega)]
        rw [hf]
        exact lp_odds xs hY (by omega) (by omega) (by omega) 16 0 (by omega) (T.1 156 j2) 0 (hB 156 j2) (by omega) m (by rw [q_T1 rfl]; exact h) q_FC.rf
      · have hN7 := bB_0.mp h24
        refine w_ldc2_w (pc' := 30) rfl rfl rfl rfl ?_
        refine w_lret rfl rfl ?_
        have hf : f_odds T (nI j2) (nI j4) u = (-9223372036854775808, T) := by simp [f_odds, q_is_nI (n := T.1 153 0) hj2 (by omega), nI_clamp (show j2 < 2 ^ 31 by omega), q_is_nI (n := 21) hj4 (by omega), nI_clamp (show j4 < 2 ^ 31 by omega), hN7]
        rw [hf]
        exact ⟨rfl, h, hF⟩
theorem odr_le {T : q_T} (hd : ∀ i, T.1 159 i ≤ 11000) : ∀ (r k : Nat), odr T r k ≤ r * 11000 := by
  intro r
  induction r with
  | zero => exact fun _ => Nat.zero_le _
  | succ r ih =>
    intro k
    have h1 := ih (k + 1)
    have h2 := hd k
    show T.1 159 k + odr T r (k + 1) ≤ _
    omega
def f_mean (T : q_T) (n u : Int32) : Int64 × q_T := if q_is n 61 = true ∧ (q_is u 2 = true ∧ ¬ T.1 153 0 = 0) then (f_part (f_od (f_gn n.toNatClampNeg T)) (T.1 153 0) u.toNatClampNeg, T) else (-9223372036854775808, T)
set_option maxRecDepth 100000 in
set_option maxHeartbeats 4000000 in
theorem v_m_mean (xs : List Int32) {T : q_T} {m : am_Mm} (h : q_Rm T m) (hY : q_Y 0 T) (n : Int32) (u : Int32) : am_V xs 10 202 [.ref 153, .int n, .int u] m (am_qj (f_mean T n u).1 (q_G (f_mean T n u).2 m)) := by
  have hB := hY.1
  have hF : q_FC m m := q_FC.rf
  have hn : T.1 153 0 < 7 := hB 153 0
  refine am_V_of ky_202 (Nat.le_of_ble_eq_true rfl) ?_
  show am_P xs 9 m_mean 0 [some (.ref 153), some (.int n), some (.int u), none] [] m _
  refine w_iload_n (pc' := 1) rfl rfl rfl ?_
  refine w_iconst (pc' := 2) 0 rfl rfl ic_0 ?_
  refine w_bipush (pc' := 4) 60 rfl rfl bp_60 ?_
  refine w_cS3i (pc' := 7) (v_m_win xs _ _ _ (61) (by omega) (by first | decide | rfl)) (by decide) rfl rfl rfl (Or.inl rfl) (Nat.le_of_ble_eq_true rfl) (fun m' hm' => ?_)
  rw [show m' = m from hm']
  clear hm' m'
  refine w_if_eq (t := 26) (pc' := 10) rfl (by decide) rfl (fun h7 => ?_) (fun h7 => ?_)
  · have hN1 := bB_0.mp h7
    refine w_ldc2_w (pc' := 29) rfl rfl rfl rfl ?_
    refine w_lret rfl rfl ?_
    have hf : f_mean T n u = (-9223372036854775808, T) := by simp [f_mean, hN1]
    rw [hf]
    exact ⟨rfl, h, hF⟩
  · obtain ⟨j2, hj2, rfl⟩ := q_is_of (bB_n0.mp h7) (by omega)
    refine w_iload_n (pc' := 11) rfl rfl rfl ?_
    refine w_iconst (pc' := 12) 0 rfl rfl ic_0 ?_
    refine w_iconst (pc' := 13) 1 rfl rfl ic_1 ?_
    refine w_cS3i (pc' := 16) (v_m_win xs _ _ _ (2) (by omega) (by first | decide | rfl)) (by decide) rfl rfl rfl (Or.inl rfl) (Nat.le_of_ble_eq_true rfl) (fun m' hm' => ?_)
    rw [show m' = m from hm']
    clear hm' m'
    refine w_if_eq (t := 26) (pc' := 19) rfl (by decide) rfl (fun h16 => ?_) (fun h16 => ?_)
    · have hN3 := bB_0.mp h16
      refine w_ldc2_w (pc' := 29) rfl rfl rfl rfl ?_
      refine w_lret rfl rfl ?_
      have hf : f_mean T (nI j2) u = (-9223372036854775808, T) := by simp [f_mean, q_is_nI (n := 61) hj2 (by omega), nI_clamp (show j2 < 2 ^ 31 by omega), hN3]
      rw [hf]
      exact ⟨rfl, h, hF⟩
    · obtain ⟨j4, hj4, rfl⟩ := q_is_of (bB_n0.mp h16) (by omega)
      refine w_aload_n (pc' := 20) rfl rfl rfl rfl ?_
      refine w_getI (pc' := 23) rfl rfl rfl sh_153 rfl ?_
      rw [show m.1 153 0 = nI (T.1 153 (0)) from (rf_0 h :)]
      have b5 : (T.1 153 (0)) < 7 := hB 153 (0)
      refine w_if_ne (t := 30) (pc' := 26) rfl (by decide) rfl (fun h23 => ?_) (fun h23 => ?_)
      · have g6 : ¬ (T.1 153 (0)) = 0 := fun q => h23 ((nI_eq (a := (T.1 153 (0))) (b := 0) (by omega) (by omega)).mpr q)
        refine w_aload_n (pc' := 31) rfl rfl rfl rfl ?_
        refine w_aload_n (pc' := 32) rfl rfl rfl rfl ?_
        refine w_getC (pc' := 35) rfl rfl rfl sh_153 rfl ?_
        refine w_cV1n (pc' := 38) (v_m_keep xs (c := 180) (by decide) sh_180) (by decide) rfl rfl rfl (Nat.le_of_ble_eq_true rfl) sh_153 rfl (fun m1 hm' => ?_)
        have K_1 : m1 = am_kp m 180 q_D := hm'
        have h_1 : q_Rm T m1 := by rw [K_1]; exact q_Rm_kp h
        have hF_1 : q_FB m1 m1 := q_FB.rf
        refine w_aload_n (pc' := 39) rfl rfl rfl rfl ?_
        refine w_iload_n (pc' := 40) rfl rfl rfl ?_
        refine w_cV1n (pc' := 43) (v_m_goesOn xs h_1 (n := j2) (h0 := 0) hY (by omega)) (by decide) rfl rfl rfl (Nat.le_of_ble_eq_true rfl) sh_153 rfl (fun m2 hm' => ?_)
        obtain ⟨h_2, hG_2⟩ := hm'
        have hF_2 := hF_1.tr hG_2
        have hI_2 := f_gn_inv (j2) (0) T hY (by omega)
        refine w_aload_n (pc' := 44) rfl rfl rfl rfl ?_
        refine w_cV0i (pc' := 47) (v_m_allDrew xs h_2 hI_2.1.1) (by decide) rfl rfl rfl (Nat.le_of_ble_eq_true rfl) sh_153 rfl (fun m' hm' => ?_)
        rw [show m' = m2 from hm']
        clear hm' m'
        have hod := odr_le (T := (f_gn (j2) T)) (fun i => by have := hI_2.1.2.2.2.2 i; omega) ((f_gn (j2) T).1 153 0) 0
        have hn7 : (f_gn (j2) T).1 153 0 < 7 := hI_2.1.1 153 0
        refine w_ist3 (pc' := 48) rfl rfl rfl ?_
        refine w_aload_n (pc' := 49) rfl rfl rfl rfl ?_
        refine w_aload_n (pc' := 50) rfl rfl rfl rfl ?_
        refine w_getC (pc' := 53) rfl rfl rfl sh_153 rfl ?_
        refine w_cV1n (pc' := 56) (v_m_again xs (c := 180) (Or.inr rfl) sh_180) (by decide) rfl rfl rfl (Nat.le_of_ble_eq_true rfl) sh_153 rfl (fun m3 hm' => ?_)
        have R_3 : q_Rm T m3 ∧ q_FC m m3 := by rw [show m3 = am_ag m2 180 q_D from hm']; exact q_again h K_1 h_2 hF_2 (hI_2.2.1.Ag)
        have h_3 := R_3.1
        have hF_3 := hF.tr R_3.2
        refine w_iload_n (pc' := 57) rfl rfl rfl ?_
        refine w_i2l (pc' := 58) rfl rfl ?_
        have hodd : f_od (f_gn (j2) T) < 2 ^ 31 := by unfold f_od; omega
        rw [nI_l hodd]
        refine w_aload_n (pc' := 59) rfl rfl rfl rfl ?_
        refine w_getI (pc' := 62) rfl rfl rfl sh_153 rfl ?_
        rw [show m3.1 153 0 = nI (T.1 153 (0)) from (rf_0 h_3 :)]
        have b7 : (T.1 153 (0)) < 7 := hB 153 (0)
        refine w_i2l (pc' := 63) rfl rfl ?_
        rw [nI_l (n := T.1 153 0) (by omega)]
        refine w_iload_n (pc' := 64) rfl rfl rfl ?_
        refine w_cS3j (pc' := 67) (v_m_part xs m3 (a := f_od (f_gn (j2) T)) (b := T.1 153 0) (u := j4) (by omega) (by omega) (by omega) (by omega)) (by decide) rfl rfl rfl (Or.inl rfl) (Nat.le_of_ble_eq_true rfl) (fun m' hm' => ?_)
        rw [show m' = m3 from hm']
        clear hm' m'
        refine w_lret rfl rfl ?_
        have hf : f_mean T (nI j2) (nI j4) = (f_part (f_od (f_gn (j2) T)) (T.1 153 0) j4, T) := by simp [f_mean, q_is_nI (n := 61) hj2 (by omega), nI_clamp (show j2 < 2 ^ 31 by omega), q_is_nI (n := 2) hj4 (by omega), nI_clamp (show j4 < 2 ^ 31 by omega), g6]
        rw [hf]
        exact ⟨rfl, h_3, hF_3⟩
      · have g8 : (T.1 153 (0)) = 0 := (nI_eq (a := (T.1 153 (0))) (b := 0) (by omega) (by omega)).mp h23
        refine w_ldc2_w (pc' := 29) rfl rfl rfl rfl ?_
        refine w_lret rfl rfl ?_
        have hf : f_mean T (nI j2) (nI j4) = (-9223372036854775808, T) := by simp [f_mean, q_is_nI (n := 61) hj2 (by omega), nI_clamp (show j2 < 2 ^ 31 by omega), q_is_nI (n := 2) hj4 (by omega), nI_clamp (show j4 < 2 ^ 31 by omega), eq_true g8]
        rw [hf]
        exact ⟨rfl, h, hF⟩
