def ocx (T : q_T) (p : Nat) : Nat → Nat → Nat
  | 0, _ => 0
  | r + 1, k => (if k ≠ p ∧ T.1 156 k = T.1 156 p then 1 else 0) + ocx T p r (k + 1)
theorem ocx_oc (T : q_T) (p : Nat) : ∀ r k, oc T p r k = ocx T p r k + (if k ≤ p ∧ p < k + r then 1 else 0) := by
  intro r
  induction r with
  | zero => exact fun k => (if_neg (by omega)).symm.trans (Nat.zero_add _).symm
  | succ r ih =>
    intro k
    rw [oc, ocx, ih (k + 1)]
    have hc : k = p → T.1 156 k = T.1 156 p := fun z => by rw [z]
    repeat' split
    all_goals omega
theorem nI_and3n (n : Nat) : nI n &&& 3 = nI (n % 4) := by
  show nI n &&& nI 3 = _
  rw [nx_and, show (3 : Nat) = 2 ^ 2 - 1 from rfl, Nat.and_two_pow_sub_one_eq_mod]
set_option maxRecDepth 100000 in
set_option maxHeartbeats 4000000 in
theorem lp_othersW (xs : List Int32) {b : Nat} (hb : q_isL b) {T : q_T} {m : am_Mm} (hR : q_Rl b T m) (hB : q_Bd T) {p : Nat} (hp : p < T.1 153 0) : ∀ (r k : Nat), k + r = T.1 153 0 → ∀ (c : Nat), am_P xs 0 la_othersWith 4 [some (.ref b), some (.ref (b + 6 + 4 * p)), some (.int (nI c)), some (.int (nI k))] [] m (am_qi (nI (c + ocx T p r k)) (· = m)) := by
  intro r
  induction r with
  | zero =>
    intro k hk c
    have hb1 := q_isL_lt hb
    have hn0 : T.1 153 0 < 7 := hB 153 0
    refine w_iload_n (pc' := 5) rfl rfl rfl ?_
    refine w_aload_n (pc' := 6) rfl rfl rfl rfl ?_
    refine w_getI (pc' := 9) rfl rfl rfl (shL hb) rfl ?_
    have b1 : T.1 153 0 < 7 := hB 153 (0)
    rw [show m.1 b 5 = nI (T.1 153 0) from hR.1]
    refine w_ic_ge (t := 51) (pc' := 12) rfl (by decide) rfl (fun h9 => ?_) (fun h9 => ?_)
    · have g2 : (T.1 153 0) ≤ k := (nI_leI (a := (T.1 153 0)) (b := k) (by omega) (by omega)).mp h9
      refine w_iload_n (pc' := 52) rfl rfl rfl ?_
      refine w_iret rfl rfl rfl ?_
      exact ⟨rfl, rfl⟩
    · have g3 : ¬ (T.1 153 0) ≤ k := fun q => h9 ((nI_leI (a := (T.1 153 0)) (b := k) (by omega) (by omega)).mpr q)
      omega
  | succ r ih =>
    intro k hk c
    have hb1 := q_isL_lt hb
    have hn0 : T.1 153 0 < 7 := hB 153 0
    refine w_iload_n (pc' := 5) rfl rfl rfl ?_
    refine w_aload_n (pc' := 6) rfl rfl rfl rfl ?_
    refine w_getI (pc' := 9) rfl rfl rfl (shL hb) rfl ?_
    have b1 : T.1 153 0 < 7 := hB 153 (0)
    rw [show m.1 b 5 = nI (T.1 153 0) from hR.1]
    refine w_ic_ge (t := 51) (pc' := 12) rfl (by decide) rfl (fun h9 => ?_) (fun h9 => ?_)
    · have g2 : (T.1 153 0) ≤ k := (nI_leI (a := (T.1 153 0)) (b := k) (by omega) (by omega)).mp h9
      omega
    · have g3 : ¬ (T.1 153 0) ≤ k := fun q => h9 ((nI_leI (a := (T.1 153 0)) (b := k) (by omega) (by omega)).mpr q)
      refine w_iload_n (pc' := 13) rfl rfl rfl ?_
      refine w_bipush (pc' := 15) 6 rfl rfl bp_6 ?_
      refine w_ic_ge (t := 51) (pc' := 18) rfl (by decide) rfl (fun h15 => ?_) (fun h15 => ?_)
      · have g4 : 6 ≤ k := (nI_leI (a := 6) (b := k) (by omega) (by omega)).mp h15
        omega
      · have g5 : ¬ 6 ≤ k := fun q => h15 ((nI_leI (a := 6) (b := k) (by omega) (by omega)).mpr q)
        refine w_iload_n (pc' := 19) rfl rfl rfl ?_
        refine w_aload_n (pc' := 20) rfl rfl rfl rfl ?_
        refine w_getC (pc' := 23) rfl rfl rfl (shD hb (p := p) (by omega)) rfl ?_
        refine w_ic_eq (t := 45) (pc' := 26) rfl (by decide) rfl (fun h23 => ?_) (fun h23 => ?_)
        · have g6 : k = p := (nI_eq (a := k) (b := p) (by omega) (by omega)).mp h23
          refine w_iinc3 (pc' := 48) 1 rfl rfl ic_1 rfl ?_
          rw [nI_inc]
          refine w_goto (pc' := 4) rfl (by decide) ?_
          rw [show c + ocx T p (r + 1) k = c + ocx T p r (k + 1) by rw [ocx, if_neg (fun z => z.1 (by omega))]; omega]
          exact ih (k + 1) (by omega) _
        · have g7 : ¬ k = p := fun q => h23 ((nI_eq (a := k) (b := p) (by omega) (by omega)).mpr q)
          refine w_aload_n (pc' := 27) rfl rfl rfl rfl ?_
          refine w_getC (pc' := 30) rfl rfl rfl (shL hb) rfl ?_
          refine w_iload_n (pc' := 31) rfl rfl rfl ?_
          refine w_aald (j := k) (a := (b + 6 + 4 * k)) (pc' := 32) rfl rfl (shLd hb) rfl (drD (b := b) (p := k) (by omega)) (by omega) (am_sh_lt (shD hb (p := k) (by omega))) ?_
          refine w_getI (pc' := 35) rfl rfl rfl (shD hb (p := k) (by omega)) rfl ?_
          have b8 : T.1 156 k < 16 := hB 156 (k)
          rw [show m.1 (b + 6 + 4 * k) 3 = nI (T.1 156 k) from (hR.2.2.2.2.2 k (by omega)).2.2.1]
          refine w_aload_n (pc' := 36) rfl rfl rfl rfl ?_
          refine w_getI (pc' := 39) rfl rfl rfl (shD hb (p := p) (by omega)) rfl ?_
          have b9 : T.1 156 p < 16 := hB 156 (p)
          rw [show m.1 (b + 6 + 4 * p) 3 = nI (T.1 156 p) from (hR.2.2.2.2.2 p (by omega)).2.2.1]
          refine w_ic_ne (t := 45) (pc' := 42) rfl (by decide) rfl (fun h39 => ?_) (fun h39 => ?_)
          · have g10 : ¬ (T.1 156 k) = (T.1 156 p) := fun q => h39 ((nI_eq (a := (T.1 156 k)) (b := (T.1 156 p)) (by omega) (by omega)).mpr q)
            refine w_iinc3 (pc' := 48) 1 rfl rfl ic_1 rfl ?_
            rw [nI_inc]
            refine w_goto (pc' := 4) rfl (by decide) ?_
            rw [show c + ocx T p (r + 1) k = c + ocx T p r (k + 1) by rw [ocx, if_neg (fun z => absurd z.2 (by omega))]; omega]
            exact ih (k + 1) (by omega) _
          · have g11 : (T.1 156 k) = (T.1 156 p) := (nI_eq (a := (T.1 156 k)) (b := (T.1 156 p)) (by omega) (by omega)).mp h39
            refine w_iinc2 (pc' := 45) 1 rfl rfl ic_1 rfl ?_
            rw [nI_inc]
            refine w_iinc3 (pc' := 48) 1 rfl rfl ic_1 rfl ?_
            rw [nI_inc]
            refine w_goto (pc' := 4) rfl (by decide) ?_
            rw [show c + ocx T p (r + 1) k = (c + 1) + ocx T p r (k + 1) by rw [ocx, if_pos ⟨by omega, by omega⟩]; omega]
            exact ih (k + 1) (by omega) _
set_option maxRecDepth 100000 in
set_option maxHeartbeats 4000000 in
theorem v_la_othersWith (xs : List Int32) {b : Nat} (hb : q_isL b) {T : q_T} {m : am_Mm} (hR : q_Rl b T m) (hB : q_Bd T) {p : Nat} (hp : p < T.1 153 0) : am_V xs 1 22 [.ref b, .ref (b + 6 + 4 * p)] m (am_qi (nI (f_oc T p) - 1) (· = m)) := by
  have hb1 := q_isL_lt hb
  have hn0 : T.1 153 0 < 7 := hB 153 0
  refine am_V_of ky_22 (Nat.le_of_ble_eq_true rfl) ?_
  show am_P xs 0 la_othersWith 0 [some (.ref b), some (.ref (b + 6 + 4 * p)), none, none] [] m _
  refine w_iconst (pc' := 1) 0 rfl rfl ic_0 ?_
  refine w_ist2 (pc' := 2) rfl rfl rfl ?_
  refine w_iconst (pc' := 3) 0 rfl rfl ic_0 ?_
  refine w_ist3 (pc' := 4) rfl rfl rfl ?_
  have e0 := lp_othersW xs hb hR hB hp (T.1 153 0) 0 (by omega) 0
  rw [Nat.zero_add] at e0
  have e1 : f_oc T p = ocx T p (T.1 153 0) 0 + 1 := (ocx_oc T p _ _).trans (by rw [if_pos (by omega)])
  rw [e1, nI_pred]
  exact e0
set_option maxRecDepth 100000 in
set_option maxHeartbeats 4000000 in
theorem v_la_feelOf (xs : List Int32) {b : Nat} (hb : q_isL b) {T : q_T} {m : am_Mm} (hR : q_Rl b T m) (hB : q_Bd T) (hO : q_Bo T) (hV : q_Bv T) (hRo : q_Ro T m) (hl6 : T.2.1.length ≤ 6) (hh : T.1 153 11 < 20000) {p : Nat} (hp : p < T.1 153 0) : am_V xs 4 17 [.ref b, .ref (b + 6 + 4 * p)] m (am_qi (f_feel T p) (fun m' => q_Rl b T m' ∧ q_F4 b m m')) := by
  have hb1 := q_isL_lt hb
  have hn0 : T.1 153 0 < 7 := hB 153 0
  refine am_V_of ky_17 (Nat.le_of_ble_eq_true rfl) ?_
  show am_P xs 3 la_feelOf 0 [some (.ref b), some (.ref (b + 6 + 4 * p)), none, none] [] m _
  rcases (show T.1 153 19 = 0 ∨ ∃ j, T.1 153 19 = j + 1 from by
    by_cases z : T.1 153 19 = 0
    · exact Or.inl z
    · exact Or.inr ⟨T.1 153 19 - 1, by omega⟩) with h0 | ⟨j, h19⟩
  · skip
    refine w_aload_n (pc' := 1) rfl rfl rfl rfl ?_
    refine w_getM (pc' := 4) rfl rfl rfl (shL hb) rfl ?_
    rw [show m.1 b 3 = -1 from hR.2.2.2.1.trans (if_pos h0), show am_dec (-1) = .null from rfl]
    refine w_ifnonnullN (pc' := 7) rfl rfl ?_
    refine w_iconst (pc' := 8) 0 rfl rfl ic_0 ?_
    refine w_goto (pc' := 23) rfl (by decide) ?_
    refine w_ist2 (pc' := 24) rfl rfl rfl ?_
    refine w_aload_n (pc' := 25) rfl rfl rfl rfl ?_
    refine w_getI (pc' := 28) rfl rfl rfl (shD hb (p := p) (by omega)) rfl ?_
    have b1 : T.1 155 p < 10 := hB 155 (p)
    rw [show m.1 (b + 6 + 4 * p) 2 = nI (T.1 155 p) from (hR.2.2.2.2.2 p (by omega)).2.1]
    refine w_aload_n (pc' := 29) rfl rfl rfl rfl ?_
    refine w_getI (pc' := 32) rfl rfl rfl (shL hb) rfl ?_
    rw [show m.1 b 2 = nI (T.1 153 11) from hR.2.2.1]
    refine w_bipush (pc' := 34) 10 rfl rfl bp_10 ?_
    refine w_irem (pc' := 35) rfl rfl (by decide) ?_
    rw [show nI ((T.1 153 11)) - nI ((T.1 153 11)) / (10 : Int32) * (10 : Int32) = nI ((T.1 153 11) % 10) from nI_remI (a := (T.1 153 11)) (c := 10) (by omega) (by omega) (by omega)]
    refine w_iadd (pc' := 36) rfl rfl ?_
    rw [show nI ((T.1 155 p)) + nI (((T.1 153 11) % 10)) = nI ((T.1 155 p) + ((T.1 153 11) % 10)) from nI_add _ _]
    refine w_iload_n (pc' := 37) rfl rfl rfl ?_
    refine w_iadd (pc' := 38) rfl rfl ?_
    rw [show nI ((T.1 155 p) + ((T.1 153 11) % 10)) + (0 : Int32) = nI (((T.1 155 p) + ((T.1 153 11) % 10)) + 0) from nI_add _ _]
    rw [show nI (((T.1 155 p) + ((T.1 153 11) % 10)) + 0) = f_sum T p from (by unfold f_sum q_of; rw [if_pos h0]; rfl)]
    refine w_ist3 (pc' := 39) rfl rfl rfl ?_
    refine w_aload_n (pc' := 40) rfl rfl rfl rfl ?_
    refine w_getI (pc' := 43) rfl rfl rfl (shD hb (p := p) (by omega)) rfl ?_
    have b2 : T.1 154 p < 7 := hB 154 (p)
    rw [show m.1 (b + 6 + 4 * p) 1 = nI (T.1 154 p) from (hR.2.2.2.2.2 p (by omega)).1]
    refine w_tsw (t := 161) rfl rfl (fun hD3 => ?_) (fun z3 hl3 hh3 hz3 => ?_)
    · have eD3_1 : ¬ (T.1 154 p) = 1 := fun q => by rw [nI_toInt (by omega)] at hD3; omega
      have eD3_2 : ¬ (T.1 154 p) = 2 := fun q => by rw [nI_toInt (by omega)] at hD3; omega
      have eD3_3 : ¬ (T.1 154 p) = 3 := fun q => by rw [nI_toInt (by omega)] at hD3; omega
      have eD3_4 : ¬ (T.1 154 p) = 4 := fun q => by rw [nI_toInt (by omega)] at hD3; omega
      have eD3_5 : ¬ (T.1 154 p) = 5 := fun q => by rw [nI_toInt (by omega)] at hD3; omega
      have eD3_6 : ¬ (T.1 154 p) = 6 := fun q => by rw [nI_toInt (by omega)] at hD3; omega
      refine w_iload_n (pc' := 162) rfl rfl rfl ?_
      refine w_iret rfl rfl rfl ?_
      exact ⟨by simp [f_feel, eD3_1, eD3_2, eD3_3, eD3_4, eD3_5, eD3_6], hR, q_F4.rf⟩
    · rcases (show z3 = 1 ∨ z3 = 2 ∨ z3 = 3 ∨ z3 = 4 ∨ z3 = 5 ∨ z3 = 6 by omega) with rfl | rfl | rfl | rfl | rfl | rfl
      · refine ⟨37, 80, rfl, rfl, ?_⟩
        have e3 : (T.1 154 p) = 1 := by rw [nI_toInt (by omega)] at hz3; omega
        refine w_iload_n (pc' := 81) rfl rfl rfl ?_
        refine w_aload_n (pc' := 82) rfl rfl rfl rfl ?_
        refine w_getI (pc' := 85) rfl rfl rfl (shD hb (p := p) (by omega)) rfl ?_
        have b4 : T.1 155 p < 10 := hB 155 (p)
        rw [show m.1 (b + 6 + 4 * p) 2 = nI (T.1 155 p) from (hR.2.2.2.2.2 p (by omega)).2.1]
        refine w_iadd (pc' := 86) rfl rfl ?_
        refine w_iret rfl rfl rfl ?_
        exact ⟨by simp [f_feel, e3], hR, q_F4.rf⟩
      · refine ⟨44, 87, rfl, rfl, ?_⟩
        have e3 : (T.1 154 p) = 2 := by rw [nI_toInt (by omega)] at hz3; omega
        refine w_iload_n (pc' := 88) rfl rfl rfl ?_
        refine w_iconst (pc' := 89) 2 rfl rfl ic_2 ?_
        refine w_idiv (pc' := 90) rfl rfl (by decide) ?_
        refine w_iret rfl rfl rfl ?_
        exact ⟨by simp [f_feel, e3], hR, q_F4.rf⟩
      · refine ⟨48, 91, rfl, rfl, ?_⟩
        have e3 : (T.1 154 p) = 3 := by rw [nI_toInt (by omega)] at hz3; omega
        refine w_iload_n (pc' := 92) rfl rfl rfl ?_
        refine w_aload_n (pc' := 93) rfl rfl rfl rfl ?_
        refine w_aload_n (pc' := 94) rfl rfl rfl rfl ?_
        refine w_cV1i (pc' := 97) (v_la_othersWith xs hb hR hB hp) (by decide) rfl rfl rfl (Nat.le_of_ble_eq_true rfl) (shL hb) rfl (fun m' hm' => ?_)
        rw [show m' = m from hm']
        clear hm' m'
        refine w_iadd (pc' := 98) rfl rfl ?_
        refine w_iret rfl rfl rfl ?_
        exact ⟨by simp [f_feel, e3], hR, q_F4.rf⟩
      · refine ⟨56, 99, rfl, rfl, ?_⟩
        have e3 : (T.1 154 p) = 4 := by rw [nI_toInt (by omega)] at hz3; omega
        refine w_aload_n (pc' := 100) rfl rfl rfl rfl ?_
        refine w_getI (pc' := 103) rfl rfl rfl (shD hb (p := p) (by omega)) rfl ?_
        have b5 : T.1 157 p < 9 := hB 157 (p)
        rw [show m.1 (b + 6 + 4 * p) 4 = nI (T.1 157 p) from (hR.2.2.2.2.2 p (by omega)).2.2.2.1]
        refine w_if_ne (t := 119) (pc' := 106) rfl (by decide) rfl (fun h103 => ?_) (fun h103 => ?_)
        · have g6 : ¬ (T.1 157 p) = 0 := fun q => h103 ((nI_eq (a := (T.1 157 p)) (b := 0) (by omega) (by omega)).mpr q)
          refine w_iload_n (pc' := 120) rfl rfl rfl ?_
          refine w_aload_n (pc' := 121) rfl rfl rfl rfl ?_
          refine w_getI (pc' := 124) rfl rfl rfl (shD hb (p := p) (by omega)) rfl ?_
          have b7 : T.1 155 p < 10 := hB 155 (p)
          rw [show m.1 (b + 6 + 4 * p) 2 = nI (T.1 155 p) from (hR.2.2.2.2.2 p (by omega)).2.1]
          refine w_iadd (pc' := 125) rfl rfl ?_
          refine w_iret rfl rfl rfl ?_
          exact ⟨by simp [f_feel, e3, g6], hR, q_F4.rf⟩
        · have g8 : (T.1 157 p) = 0 := (nI_eq (a := (T.1 157 p)) (b := 0) (by omega) (by omega)).mp h103
          refine w_iconst (pc' := 107) 2 rfl rfl ic_2 ?_
          refine w_iload_n (pc' := 108) rfl rfl rfl ?_
          refine w_aload_n (pc' := 109) rfl rfl rfl rfl ?_
          refine w_getI (pc' := 112) rfl rfl rfl (shD hb (p := p) (by omega)) rfl ?_
          have b9 : T.1 155 p < 10 := hB 155 (p)
          rw [show m.1 (b + 6 + 4 * p) 2 = nI (T.1 155 p) from (hR.2.2.2.2.2 p (by omega)).2.1]
          refine w_iadd (pc' := 113) rfl rfl ?_
          refine w_imul (pc' := 114) rfl rfl ?_
          refine w_iconst (pc' := 115) 1 rfl rfl ic_1 ?_
          refine w_iadd (pc' := 116) rfl rfl ?_
          refine w_goto (pc' := 125) rfl (by decide) ?_
          refine w_iret rfl rfl rfl ?_
          exact ⟨by simp [f_feel, e3, eq_true g8], hR, q_F4.rf⟩
      · refine ⟨83, 126, rfl, rfl, ?_⟩
        have e3 : (T.1 154 p) = 5 := by rw [nI_toInt (by omega)] at hz3; omega
        refine w_iload_n (pc' := 127) rfl rfl rfl ?_
        refine w_iconst (pc' := 128) 2 rfl rfl ic_2 ?_
        refine w_idiv (pc' := 129) rfl rfl (by decide) ?_
        refine w_aload_n (pc' := 130) rfl rfl rfl rfl ?_
        refine w_aload_n (pc' := 131) rfl rfl rfl rfl ?_
        refine w_getI (pc' := 134) rfl rfl rfl (shD hb (p := p) (by omega)) rfl ?_
        have b10 : T.1 156 p < 16 := hB 156 (p)
        rw [show m.1 (b + 6 + 4 * p) 3 = nI (T.1 156 p) from (hR.2.2.2.2.2 p (by omega)).2.2.1]
        refine w_cV1i (pc' := 137) (v_la_markAt xs hb hR (i := (T.1 156 p)) (by omega)) (by decide) rfl rfl rfl (Nat.le_of_ble_eq_true rfl) (shL hb) rfl (fun m' hm' => ?_)
        rw [show m' = m from hm']
        clear hm' m'
        have bm134 : T.1 162 (T.1 156 p) < 8 := hB 162 _
        refine w_iadd (pc' := 138) rfl rfl ?_
        refine w_iret rfl rfl rfl ?_
        exact ⟨by simp [f_feel, e3], hR, q_F4.rf⟩
      · refine ⟨96, 139, rfl, rfl, ?_⟩
        have e3 : (T.1 154 p) = 6 := by rw [nI_toInt (by omega)] at hz3; omega
        refine w_iload_n (pc' := 140) rfl rfl rfl ?_
        refine w_aload_n (pc' := 141) rfl rfl rfl rfl ?_
        refine w_aload_n (pc' := 142) rfl rfl rfl rfl ?_
        refine w_cV1i (pc' := 145) (v_la_othersWith xs hb hR hB hp) (by decide) rfl rfl rfl (Nat.le_of_ble_eq_true rfl) (shL hb) rfl (fun m' hm' => ?_)
        rw [show m' = m from hm']
        clear hm' m'
        refine w_iadd (pc' := 146) rfl rfl ?_
        refine w_aload_n (pc' := 147) rfl rfl rfl rfl ?_
        refine w_getC (pc' := 150) rfl rfl rfl (shD hb (p := p) (by omega)) rfl ?_
        refine w_aload_n (pc' := 151) rfl rfl rfl rfl ?_
        refine w_getI (pc' := 154) rfl rfl rfl (shL hb) rfl ?_
        rw [show m.1 b 2 = nI (T.1 153 11) from hR.2.2.1]
        refine w_iconst (pc' := 155) 4 rfl rfl ic_4 ?_
        refine w_cS2i (pc' := 158) (v_jm_floorMod xs m (nI (T.1 153 11))) (by decide) rfl rfl rfl (Or.inl rfl) (Nat.le_of_ble_eq_true rfl) (fun m' hm' => ?_)
        rw [show m' = m from hm']
        clear hm' m'
        rw [nI_and3n]
        refine w_iald (j := ((T.1 153 11 % 4))) (pc' := 159) rfl rfl (shDr hb (p := p) (by omega)) rfl (by omega) (by decide) ?_
        rw [show m.1 (b + 6 + 4 * p + 3) (T.1 153 11 % 4) = nI (T.1 161 (4 * p + (T.1 153 11 % 4))) from ((hR.2.2.2.2.2 p (by omega)).2.2.2.2.2.2.2 (T.1 153 11 % 4) (by omega))]
        have b11 : T.1 161 (4 * p + (T.1 153 11 % 4)) < 10 := hB 161 (4 * p + (T.1 153 11 % 4))
        refine w_iadd (pc' := 160) rfl rfl ?_
        refine w_iret rfl rfl rfl ?_
        exact ⟨by simp [f_feel, e3], hR, q_F4.rf⟩
  · have hj7 : j < T.2.1.length := by have := hO.1; omega
    obtain ⟨o, ho⟩ : ∃ o, T.2.1[j]? = some o := ⟨T.2.1[j], List.getElem?_eq_getElem hj7⟩
    have hqo : q_of T = o := by
      unfold q_of
      rw [if_neg (by omega), h19, Nat.add_sub_cancel, ho]
      rfl
    obtain ⟨o1, o2, o3, o4⟩ := hRo j o ho
    refine w_aload_n (pc' := 1) rfl rfl rfl rfl ?_
    refine w_getM (pc' := 4) rfl rfl rfl (shL hb) rfl ?_
    rw [show m.1 b 3 = nI (123 + 3 * j) from hR.2.2.2.1.trans ((if_neg (by omega)).trans (congrArg nI (by omega))), am_dec_n (by omega)]
    refine w_ifnonnullR (pc' := 11) rfl (by decide) (by omega) ?_
    refine w_aload_n (pc' := 12) rfl rfl rfl rfl ?_
    refine w_getM (pc' := 15) rfl rfl rfl (shL hb) rfl ?_
    rw [show m.1 b 3 = nI (123 + 3 * j) from hR.2.2.2.1.trans ((if_neg (by omega)).trans (congrArg nI (by omega))), am_dec_n (by omega)]
    refine w_aload_n (pc' := 16) rfl rfl rfl rfl ?_
    refine w_aload_n (pc' := 17) rfl rfl rfl rfl ?_
    refine w_cV1a (pc' := 20) (v_la_answersOf xs hb hR hB hh hp) (by decide) rfl rfl rfl (Nat.le_of_ble_eq_true rfl) (shL hb) rfl (fun m1 hm' => ?_)
    obtain ⟨hR_1, hF_1, hA_1⟩ := hm'
    obtain ⟨o2, o3, o4⟩ := (hRo.eq (m' := m1) (fun c c1 c2 => hF_1.1 c (by omega)) rfl hl6 j o ho).2
    refine w_cV1i (pc' := 23) (v_of_turnsBy xs hb (by omega) hA_1 (fun l => f_let_lt hB hh (by omega) l) o2 o3 o4 (vls_sts o (hO.2 o (List.mem_of_getElem? ho)) (hV o (List.mem_of_getElem? ho)))) (by decide) rfl rfl rfl (Nat.le_of_ble_eq_true rfl) (shO (j := j) (by omega)) rfl (fun m' hm' => ?_)
    rw [show m' = m1 from hm']
    clear hm' m'
    refine w_ist2 (pc' := 24) rfl rfl rfl ?_
    refine w_aload_n (pc' := 25) rfl rfl rfl rfl ?_
    refine w_getI (pc' := 28) rfl rfl rfl (shD hb (p := p) (by omega)) rfl ?_
    have b12 : T.1 155 p < 10 := hB 155 (p)
    rw [show m1.1 (b + 6 + 4 * p) 2 = nI (T.1 155 p) from (hR_1.2.2.2.2.2 p (by omega)).2.1]
    refine w_aload_n (pc' := 29) rfl rfl rfl rfl ?_
    refine w_getI (pc' := 32) rfl rfl rfl (shL hb) rfl ?_
    rw [show m1.1 b 2 = nI (T.1 153 11) from hR_1.2.2.1]
    refine w_bipush (pc' := 34) 10 rfl rfl bp_10 ?_
    refine w_irem (pc' := 35) rfl rfl (by decide) ?_
    rw [show nI ((T.1 153 11)) - nI ((T.1 153 11)) / (10 : Int32) * (10 : Int32) = nI ((T.1 153 11) % 10) from nI_remI (a := (T.1 153 11)) (c := 10) (by omega) (by omega) (by omega)]
    refine w_iadd (pc' := 36) rfl rfl ?_
    rw [show nI ((T.1 155 p)) + nI (((T.1 153 11) % 10)) = nI ((T.1 155 p) + ((T.1 153 11) % 10)) from nI_add _ _]
    refine w_iload_n (pc' := 37) rfl rfl rfl ?_
    refine w_iadd (pc' := 38) rfl rfl ?_
    rw [show nI ((T.1 155 p) + ((T.1 153 11) % 10)) + (tb (f_let T p) (q_sts o) 0 0 (fun _ => false)) = f_sum T p from by rw [tb_sts T p o 0 _ (fun cl hc => (hO.2 o (List.mem_of_getElem? ho) cl hc).1) (hV o (List.mem_of_getElem? ho)), ← sumo_add, Int32.add_zero]; unfold f_sum; rw [hqo]]
    refine w_ist3 (pc' := 39) rfl rfl rfl ?_
    refine w_aload_n (pc' := 40) rfl rfl rfl rfl ?_
    refine w_getI (pc' := 43) rfl rfl rfl (shD hb (p := p) (by omega)) rfl ?_
    have b13 : T.1 154 p < 7 := hB 154 (p)
    rw [show m1.1 (b + 6 + 4 * p) 1 = nI (T.1 154 p) from (hR_1.2.2.2.2.2 p (by omega)).1]
    refine w_tsw (t := 161) rfl rfl (fun hD14 => ?_) (fun z14 hl14 hh14 hz14 => ?_)
    · have eD14_1 : ¬ (T.1 154 p) = 1 := fun q => by rw [nI_toInt (by omega)] at hD14; omega
      have eD14_2 : ¬ (T.1 154 p) = 2 := fun q => by rw [nI_toInt (by omega)] at hD14; omega
      have eD14_3 : ¬ (T.1 154 p) = 3 := fun q => by rw [nI_toInt (by omega)] at hD14; omega
      have eD14_4 : ¬ (T.1 154 p) = 4 := fun q => by rw [nI_toInt (by omega)] at hD14; omega
      have eD14_5 : ¬ (T.1 154 p) = 5 := fun q => by rw [nI_toInt (by omega)] at hD14; omega
      have eD14_6 : ¬ (T.1 154 p) = 6 := fun q => by rw [nI_toInt (by omega)] at hD14; omega
      refine w_iload_n (pc' := 162) rfl rfl rfl ?_
      refine w_iret rfl rfl rfl ?_
      exact ⟨by simp [f_feel, eD14_1, eD14_2, eD14_3, eD14_4, eD14_5, eD14_6], hR_1, hF_1⟩
    · rcases (show z14 = 1 ∨ z14 = 2 ∨ z14 = 3 ∨ z14 = 4 ∨ z14 = 5 ∨ z14 = 6 by omega) with rfl | rfl | rfl | rfl | rfl | rfl
      · refine ⟨37, 80, rfl, rfl, ?_⟩
        have e14 : (T.1 154 p) = 1 := by rw [nI_toInt (by omega)] at hz14; omega
        refine w_iload_n (pc' := 81) rfl rfl rfl ?_
        refine w_aload_n (pc' := 82) rfl rfl rfl rfl ?_
        refine w_getI (pc' := 85) rfl rfl rfl (shD hb (p := p) (by omega)) rfl ?_
        have b15 : T.1 155 p < 10 := hB 155 (p)
        rw [show m1.1 (b + 6 + 4 * p) 2 = nI (T.1 155 p) from (hR_1.2.2.2.2.2 p (by omega)).2.1]
        refine w_iadd (pc' := 86) rfl rfl ?_
        refine w_iret rfl rfl rfl ?_
        exact ⟨by simp [f_feel, e14], hR_1, hF_1⟩
      · refine ⟨44, 87, rfl, rfl, ?_⟩
        have e14 : (T.1 154 p) = 2 := by rw [nI_toInt (by omega)] at hz14; omega
        refine w_iload_n (pc' := 88) rfl rfl rfl ?_
        refine w_iconst (pc' := 89) 2 rfl rfl ic_2 ?_
        refine w_idiv (pc' := 90) rfl rfl (by decide) ?_
        refine w_iret rfl rfl rfl ?_
        exact ⟨by simp [f_feel, e14], hR_1, hF_1⟩
      · refine ⟨48, 91, rfl, rfl, ?_⟩
        have e14 : (T.1 154 p) = 3 := by rw [nI_toInt (by omega)] at hz14; omega
        refine w_iload_n (pc' := 92) rfl rfl rfl ?_
        refine w_aload_n (pc' := 93) rfl rfl rfl rfl ?_
        refine w_aload_n (pc' := 94) rfl rfl rfl rfl ?_
        refine w_cV1i (pc' := 97) (v_la_othersWith xs hb hR_1 hB hp) (by decide) rfl rfl rfl (Nat.le_of_ble_eq_true rfl) (shL hb) rfl (fun m' hm' => ?_)
        rw [show m' = m1 from hm']
        clear hm' m'
        refine w_iadd (pc' := 98) rfl rfl ?_
        refine w_iret rfl rfl rfl ?_
        exact ⟨by simp [f_feel, e14], hR_1, hF_1⟩
      · refine ⟨56, 99, rfl, rfl, ?_⟩
        have e14 : (T.1 154 p) = 4 := by rw [nI_toInt (by omega)] at hz14; omega
        refine w_aload_n (pc' := 100) rfl rfl rfl rfl ?_
        refine w_getI (pc' := 103) rfl rfl rfl (shD hb (p := p) (by omega)) rfl ?_
        have b16 : T.1 157 p < 9 := hB 157 (p)
        rw [show m1.1 (b + 6 + 4 * p) 4 = nI (T.1 157 p) from (hR_1.2.2.2.2.2 p (by omega)).2.2.2.1]
        refine w_if_ne (t := 119) (pc' := 106) rfl (by decide) rfl (fun h103 => ?_) (fun h103 => ?_)
        · have g17 : ¬ (T.1 157 p) = 0 := fun q => h103 ((nI_eq (a := (T.1 157 p)) (b := 0) (by omega) (by omega)).mpr q)
          refine w_iload_n (pc' := 120) rfl rfl rfl ?_
          refine w_aload_n (pc' := 121) rfl rfl rfl rfl ?_
          refine w_getI (pc' := 124) rfl rfl rfl (shD hb (p := p) (by omega)) rfl ?_
          have b18 : T.1 155 p < 10 := hB 155 (p)
          rw [show m1.1 (b + 6 + 4 * p) 2 = nI (T.1 155 p) from (hR_1.2.2.2.2.2 p (by omega)).2.1]
          refine w_iadd (pc' := 125) rfl rfl ?_
          refine w_iret rfl rfl rfl ?_
          exact ⟨by simp [f_feel, e14, g17], hR_1, hF_1⟩
        · have g19 : (T.1 157 p) = 0 := (nI_eq (a := (T.1 157 p)) (b := 0) (by omega) (by omega)).mp h103
          refine w_iconst (pc' := 107) 2 rfl rfl ic_2 ?_
          refine w_iload_n (pc' := 108) rfl rfl rfl ?_
          refine w_aload_n (pc' := 109) rfl rfl rfl rfl ?_
          refine w_getI (pc' := 112) rfl rfl rfl (shD hb (p := p) (by omega)) rfl ?_
          have b20 : T.1 155 p < 10 := hB 155 (p)
          rw [show m1.1 (b + 6 + 4 * p) 2 = nI (T.1 155 p) from (hR_1.2.2.2.2.2 p (by omega)).2.1]
          refine w_iadd (pc' := 113) rfl rfl ?_
          refine w_imul (pc' := 114) rfl rfl ?_
          refine w_iconst (pc' := 115) 1 rfl rfl ic_1 ?_
          refine w_iadd (pc' := 116) rfl rfl ?_
          refine w_goto (pc' := 125) rfl (by decide) ?_
          refine w_iret rfl rfl rfl ?_
          exact ⟨by simp [f_feel, e14, eq_true g19], hR_1, hF_1⟩
      · refine ⟨83, 126, rfl, rfl, ?_⟩
        have e14 : (T.1 154 p) = 5 := by rw [nI_toInt (by omega)] at hz14; omega
        refine w_iload_n (pc' := 127) rfl rfl rfl ?_
        refine w_iconst (pc' := 128) 2 rfl rfl ic_2 ?_
        refine w_idiv (pc' := 129) rfl rfl (by decide) ?_
        refine w_aload_n (pc' := 130) rfl rfl rfl rfl ?_
        refine w_aload_n (pc' := 131) rfl rfl rfl rfl ?_
        refine w_getI (pc' := 134) rfl rfl rfl (shD hb (p := p) (by omega)) rfl ?_
        have b21 : T.1 156 p < 16 := hB 156 (p)
        rw [show m1.1 (b + 6 + 4 * p) 3 = nI (T.1 156 p) from (hR_1.2.2.2.2.2 p (by omega)).2.2.1]
        refine w_cV1i (pc' := 137) (v_la_markAt xs hb hR_1 (i := (T.1 156 p)) (by omega)) (by decide) rfl rfl rfl (Nat.le_of_ble_eq_true rfl) (shL hb) rfl (fun m' hm' => ?_)
        rw [show m' = m1 from hm']
        clear hm' m'
        have bm134 : T.1 162 (T.1 156 p) < 8 := hB 162 _
        refine w_iadd (pc' := 138) rfl rfl ?_
        refine w_iret rfl rfl rfl ?_
        exact ⟨by simp [f_feel, e14], hR_1, hF_1⟩
      · refine ⟨96, 139, rfl, rfl, ?_⟩
        have e14 : (T.1 154 p) = 6 := by rw [nI_toInt (by omega)] at hz14; omega
        refine w_iload_n (pc' := 140) rfl rfl rfl ?_
        refine w_aload_n (pc' := 141) rfl rfl rfl rfl ?_
        refine w_aload_n (pc' := 142) rfl rfl rfl rfl ?_
        refine w_cV1i (pc' := 145) (v_la_othersWith xs hb hR_1 hB hp) (by decide) rfl rfl rfl (Nat.le_of_ble_eq_true rfl) (shL hb) rfl (fun m' hm' => ?_)
        rw [show m' = m1 from hm']
        clear hm' m'
        refine w_iadd (pc' := 146) rfl rfl ?_
        refine w_aload_n (pc' := 147) rfl rfl rfl rfl ?_
        refine w_getC (pc' := 150) rfl rfl rfl (shD hb (p := p) (by omega)) rfl ?_
        refine w_aload_n (pc' := 151) rfl rfl rfl rfl ?_
        refine w_getI (pc' := 154) rfl rfl rfl (shL hb) rfl ?_
        rw [show m1.1 b 2 = nI (T.1 153 11) from hR_1.2.2.1]
        refine w_iconst (pc' := 155) 4 rfl rfl ic_4 ?_
        refine w_cS2i (pc' := 158) (v_jm_floorMod xs m1 (nI (T.1 153 11))) (by decide) rfl rfl rfl (Or.inl rfl) (Nat.le_of_ble_eq_true rfl) (fun m' hm' => ?_)
        rw [show m' = m1 from hm']
        clear hm' m'
        rw [nI_and3n]
        refine w_iald (j := ((T.1 153 11 % 4))) (pc' := 159) rfl rfl (shDr hb (p := p) (by omega)) rfl (by omega) (by decide) ?_
        rw [show m1.1 (b + 6 + 4 * p + 3) (T.1 153 11 % 4) = nI (T.1 161 (4 * p + (T.1 153 11 % 4))) from ((hR_1.2.2.2.2.2 p (by omega)).2.2.2.2.2.2.2 (T.1 153 11 % 4) (by omega))]
        have b22 : T.1 161 (4 * p + (T.1 153 11 % 4)) < 10 := hB 161 (4 * p + (T.1 153 11 % 4))
        refine w_iadd (pc' := 160) rfl rfl ?_
        refine w_iret rfl rfl rfl ?_
        exact ⟨by simp [f_feel, e14], hR_1, hF_1⟩
set_option maxRecDepth 100000 in
set_option maxHeartbeats 4000000 in
theorem v_la_wayOf (xs : List Int32) {b : Nat} (hb : q_isL b) {T : q_T} {m : am_Mm} (hR : q_Rl b T m) (hB : q_Bd T) (hO : q_Bo T) (hV : q_Bv T) (hRo : q_Ro T m) (hl6 : T.2.1.length ≤ 6) (hh : T.1 153 11 < 20000) {p : Nat} (hp : p < T.1 153 0) : am_V xs 5 24 [.ref b, .ref (b + 6 + 4 * p)] m (am_qi (nI (f_way T p)) (fun m' => q_Rl b T m' ∧ q_F4 b m m')) := by
  have hb1 := q_isL_lt hb
  have hn0 : T.1 153 0 < 7 := hB 153 0
  refine am_V_of ky_24 (Nat.le_of_ble_eq_true rfl) ?_
  show am_P xs 4 la_wayOf 0 [some (.ref b), some (.ref (b + 6 + 4 * p))] [] m _
  refine w_aload_n (pc' := 1) rfl rfl rfl rfl ?_
  refine w_aload_n (pc' := 2) rfl rfl rfl rfl ?_
  refine w_cV1i (pc' := 5) (v_la_feelOf xs hb hR hB hO hV hRo hl6 hh hp) (by decide) rfl rfl rfl (Nat.le_of_ble_eq_true rfl) (shL hb) rfl (fun m1 hm' => ?_)
  obtain ⟨hR_1, hF_1⟩ := hm'
  refine w_iconst (pc' := 6) 4 rfl rfl ic_4 ?_
  refine w_cS2i (pc' := 9) (v_jm_floorMod xs m1 (f_feel T p)) (by decide) rfl rfl rfl (Or.inl rfl) (Nat.le_of_ble_eq_true rfl) (fun m' hm' => ?_)
  rw [show m' = m1 from hm']
  clear hm' m'
  rw [(nI_and3 (f_feel T p)).1]
  refine w_iret rfl rfl rfl ?_
  exact ⟨rfl, hR_1, hF_1⟩
theorem wk_f (T : q_T) (p : Nat) : ∀ (r k c : Nat), (wk T p r k c false).2 = false := by
  intro r
  induction r with
  | zero => exact fun _ _ => rfl
  | succ r ih =>
    intro k c
    rw [wk, ite_self]
    exact ih _ _
/-- where one who went so is; below 0 if it would have drawn otherwise -/
def f_end (z : Nat × Bool) : Int32 := if z.2 = true then nI z.1 else -1
set_option maxRecDepth 100000 in
set_option maxHeartbeats 4000000 in
theorem lp_end (xs : List Int32) {b : Nat} (hb : q_isL b) {T : q_T} {m : am_Mm} (hR : q_Rl b T m) (hB : q_Bd T) {p i : Nat} (hp : p < T.1 153 0) : ∀ (r k : Nat), k + r = T.1 157 p → ∀ (c : Nat), c < 16 → am_P xs 1 la_endBySheet 5 [some (.ref b), some (.ref (b + 6 + 4 * p)), some (.int (nI i)), some (.int (nI c)), some (.int (nI k))] [] m (am_qi (f_end (wk T p r k c true)) (· = m)) := by
  intro r
  induction r with
  | zero =>
    intro k hk c hc
    have hb1 := q_isL_lt hb
    have hn0 : T.1 153 0 < 7 := hB 153 0
    have b40 : T.1 160 (8 * p + k) < 40 := hB 160 _
    have b57 : T.1 157 p < 9 := hB 157 p
    refine w_iload (pc' := 7) rfl rfl rfl ?_
    refine w_aload_n (pc' := 8) rfl rfl rfl rfl ?_
    refine w_getI (pc' := 11) rfl rfl rfl (shD hb (p := p) (by omega)) rfl ?_
    have b1 : T.1 157 p < 9 := hB 157 (p)
    rw [show m.1 (b + 6 + 4 * p) 4 = nI (T.1 157 p) from (hR.2.2.2.2.2 p (by omega)).2.2.2.1]
    refine w_ic_ge (t := 56) (pc' := 14) rfl (by decide) rfl (fun h11 => ?_) (fun h11 => ?_)
    · have g2 : (T.1 157 p) ≤ k := (nI_leI (a := (T.1 157 p)) (b := k) (by omega) (by omega)).mp h11
      refine w_iload_n (pc' := 57) rfl rfl rfl ?_
      refine w_iret rfl rfl rfl ?_
      exact ⟨rfl, rfl⟩
    · have g3 : ¬ (T.1 157 p) ≤ k := fun q => h11 ((nI_leI (a := (T.1 157 p)) (b := k) (by omega) (by omega)).mpr q)
      omega
  | succ r ih =>
    intro k hk c hc
    have hb1 := q_isL_lt hb
    have hn0 : T.1 153 0 < 7 := hB 153 0
    have b40 : T.1 160 (8 * p + k) < 40 := hB 160 _
    have b57 : T.1 157 p < 9 := hB 157 p
    refine w_iload (pc' := 7) rfl rfl rfl ?_
    refine w_aload_n (pc' := 8) rfl rfl rfl rfl ?_
    refine w_getI (pc' := 11) rfl rfl rfl (shD hb (p := p) (by omega)) rfl ?_
    have b1 : T.1 157 p < 9 := hB 157 (p)
    rw [show m.1 (b + 6 + 4 * p) 4 = nI (T.1 157 p) from (hR.2.2.2.2.2 p (by omega)).2.2.2.1]
    refine w_ic_ge (t := 56) (pc' := 14) rfl (by decide) rfl (fun h11 => ?_) (fun h11 => ?_)
    · have g2 : (T.1 157 p) ≤ k := (nI_leI (a := (T.1 157 p)) (b := k) (by omega) (by omega)).mp h11
      omega
    · have g3 : ¬ (T.1 157 p) ≤ k := fun q => h11 ((nI_leI (a := (T.1 157 p)) (b := k) (by omega) (by omega)).mpr q)
      refine w_iload (pc' := 16) rfl rfl rfl ?_
      refine w_bipush (pc' := 18) 8 rfl rfl bp_8 ?_
      refine w_ic_ge (t := 56) (pc' := 21) rfl (by decide) rfl (fun h18 => ?_) (fun h18 => ?_)
      · have g4 : 8 ≤ k := (nI_leI (a := 8) (b := k) (by omega) (by omega)).mp h18
        omega
      · have g5 : ¬ 8 ≤ k := fun q => h18 ((nI_leI (a := 8) (b := k) (by omega) (by omega)).mpr q)
        refine w_iload_n (pc' := 22) rfl rfl rfl ?_
        refine w_aload_n (pc' := 23) rfl rfl rfl rfl ?_
        refine w_getC (pc' := 26) rfl rfl rfl (shD hb (p := p) (by omega)) rfl ?_
        refine w_iload (pc' := 28) rfl rfl rfl ?_
        refine w_iald (j := (k)) (pc' := 29) rfl rfl (shDw hb (p := p) (by omega)) rfl (by omega) (by decide) ?_
        rw [show m.1 (b + 6 + 4 * p + 1) k = nI (T.1 160 (8 * p + k) / 10) from ((hR.2.2.2.2.2 p (by omega)).2.2.2.2.2.2.1 k (by omega)).1]
        refine w_cS2i (pc' := 32) (v_k_step xs m (a := c) (b := (T.1 160 (8 * p + k) / 10)) (by omega) (by omega)) (by decide) rfl rfl rfl (Or.inl rfl) (Nat.le_of_ble_eq_true rfl) (fun m' hm' => ?_)
        rw [show m' = m from hm']
        clear hm' m'
        have hst6 := f_stp_lt (a := c) (b := (T.1 160 (8 * p + k) / 10)) (by omega)
        refine w_ist3 (pc' := 33) rfl rfl rfl ?_
        refine w_aload_n (pc' := 34) rfl rfl rfl rfl ?_
        refine w_iload_n (pc' := 35) rfl rfl rfl ?_
        refine w_cV1i (pc' := 38) (v_la_markAt xs hb hR (i := (f_stp c (T.1 160 (8 * p + k) / 10))) (by omega)) (by decide) rfl rfl rfl (Nat.le_of_ble_eq_true rfl) (shL hb) rfl (fun m' hm' => ?_)
        rw [show m' = m from hm']
        clear hm' m'
        have bm35 : T.1 162 (f_stp c (T.1 160 (8 * p + k) / 10)) < 8 := hB 162 _
        refine w_aload_n (pc' := 39) rfl rfl rfl rfl ?_
        refine w_getC (pc' := 42) rfl rfl rfl (shD hb (p := p) (by omega)) rfl ?_
        refine w_iload (pc' := 44) rfl rfl rfl ?_
        refine w_iald (j := (k)) (pc' := 45) rfl rfl (shDm hb (p := p) (by omega)) rfl (by omega) (by decide) ?_
        rw [show m.1 (b + 6 + 4 * p + 2) k = nI (T.1 160 (8 * p + k) % 10) from ((hR.2.2.2.2.2 p (by omega)).2.2.2.2.2.2.1 k (by omega)).2]
        refine w_ic_eq (t := 50) (pc' := 48) rfl (by decide) rfl (fun h45 => ?_) (fun h45 => ?_)
        · have g7 : (T.1 162 (f_stp c (T.1 160 (8 * p + k) / 10))) = (T.1 160 (8 * p + k) % 10) := (nI_eq (a := (T.1 162 (f_stp c (T.1 160 (8 * p + k) / 10)))) (b := (T.1 160 (8 * p + k) % 10)) (by omega) (by omega)).mp h45
          refine w_iinc4 (pc' := 53) 1 rfl rfl ic_1 rfl ?_
          rw [nI_inc]
          refine w_goto (pc' := 5) rfl (by decide) ?_
          rw [show wk T p (r + 1) k c true = wk T p r (k + 1) (f_stp c (T.1 160 (8 * p + k) / 10)) true from congrArg (wk T p r (k + 1) (f_stp c (T.1 160 (8 * p + k) / 10))) (if_pos (by omega))]
          exact ih (k + 1) (by omega) _ (by omega)
        · have g8 : ¬ (T.1 162 (f_stp c (T.1 160 (8 * p + k) / 10))) = (T.1 160 (8 * p + k) % 10) := fun q => h45 ((nI_eq (a := (T.1 162 (f_stp c (T.1 160 (8 * p + k) / 10)))) (b := (T.1 160 (8 * p + k) % 10)) (by omega) (by omega)).mpr q)
          refine w_iconst (pc' := 49) (-1) rfl rfl ic_m1 ?_
          refine w_iret rfl rfl rfl ?_
          rw [show f_end (wk T p (r + 1) k c true) = -1 from if_neg (by rw [show wk T p (r + 1) k c true = wk T p r (k + 1) (f_stp c (T.1 160 (8 * p + k) / 10)) false from congrArg (wk T p r (k + 1) (f_stp c (T.1 160 (8 * p + k) / 10))) (if_neg (by omega)), wk_f]; decide)]
          exact ⟨rfl, rfl⟩
set_option maxRecDepth 100000 in
set_option maxHeartbeats 4000000 in
theorem v_la_end (xs : List Int32) {b : Nat} (hb : q_isL b) {T : q_T} {m : am_Mm} (hR : q_Rl b T m) (hB : q_Bd T) {p i : Nat} (hp : p < T.1 153 0) (hi : i < 16) : am_V xs 2 26 [.ref b, .ref (b + 6 + 4 * p), .int (nI i)] m (am_qi (f_end (wk T p (T.1 157 p) 0 i true)) (· = m)) := by
  have hb1 := q_isL_lt hb
  have hn0 : T.1 153 0 < 7 := hB 153 0
  refine am_V_of ky_26 (Nat.le_of_ble_eq_true rfl) ?_
  show am_P xs 1 la_endBySheet 0 [some (.ref b), some (.ref (b + 6 + 4 * p)), some (.int (nI i)), none, none] [] m _
  refine w_iload_n (pc' := 1) rfl rfl rfl ?_
  refine w_ist3 (pc' := 2) rfl rfl rfl ?_
  refine w_iconst (pc' := 3) 0 rfl rfl ic_0 ?_
  refine w_ist4 (pc' := 5) rfl rfl rfl ?_
  exact lp_end xs hb hR hB hp (T.1 157 p) 0 (by omega) i hi
set_option maxRecDepth 100000 in
set_option maxHeartbeats 4000000 in
theorem lp_cameOf (xs : List Int32) {b : Nat} (hb : q_isL b) {T : q_T} {m : am_Mm} (hR : q_Rl b T m) (hB : q_Bd T) {p : Nat} (hp : p < T.1 153 0) : ∀ (r k : Nat), k + r = 16 → ∀ (a : Int32), am_P xs 2 la_cameOf 4 [some (.ref b), some (.ref (b + 6 + 4 * p)), some (.int a), some (.int (nI k))] [] m (am_qi (cam T p false r k a) (· = m)) := by
  intro r
  induction r with
  | zero =>
    intro k hk a
    have hb1 := q_isL_lt hb
    have hn0 : T.1 153 0 < 7 := hB 153 0
    refine w_iload_n (pc' := 5) rfl rfl rfl ?_
    refine w_bipush (pc' := 7) 16 rfl rfl bp_16 ?_
    refine w_ic_ge (t := 31) (pc' := 10) rfl (by decide) rfl (fun h7 => ?_) (fun h7 => ?_)
    · have g1 : 16 ≤ k := (nI_leI (a := 16) (b := k) (by omega) (by omega)).mp h7
      refine w_iload_n (pc' := 32) rfl rfl rfl ?_
      refine w_iret rfl rfl rfl ?_
      exact ⟨rfl, rfl⟩
    · have g2 : ¬ 16 ≤ k := fun q => h7 ((nI_leI (a := 16) (b := k) (by omega) (by omega)).mpr q)
      omega
  | succ r ih =>
    intro k hk a
    have hb1 := q_isL_lt hb
    have hn0 : T.1 153 0 < 7 := hB 153 0
    refine w_iload_n (pc' := 5) rfl rfl rfl ?_
    refine w_bipush (pc' := 7) 16 rfl rfl bp_16 ?_
    refine w_ic_ge (t := 31) (pc' := 10) rfl (by decide) rfl (fun h7 => ?_) (fun h7 => ?_)
    · have g1 : 16 ≤ k := (nI_leI (a := 16) (b := k) (by omega) (by omega)).mp h7
      omega
    · have g2 : ¬ 16 ≤ k := fun q => h7 ((nI_leI (a := 16) (b := k) (by omega) (by omega)).mpr q)
      refine w_aload_n (pc' := 11) rfl rfl rfl rfl ?_
      refine w_aload_n (pc' := 12) rfl rfl rfl rfl ?_
      refine w_iload_n (pc' := 13) rfl rfl rfl ?_
      refine w_cV2i (pc' := 16) (v_la_end xs hb hR hB hp (i := k) (by omega)) (by decide) rfl rfl rfl (Nat.le_of_ble_eq_true rfl) (shL hb) rfl (fun m' hm' => ?_)
      rw [show m' = m from hm']
      clear hm' m'
      refine w_if_lt (t := 25) (pc' := 19) rfl (by decide) rfl (fun h16 => ?_) (fun h16 => ?_)
      · have hz : (wk T p (T.1 157 p) 0 k true).2 = false := by
          cases q : (wk T p (T.1 157 p) 0 k true).2
          · rfl
          · exact absurd h16 (by rw [show f_end (wk T p (T.1 157 p) 0 k true) = nI (wk T p (T.1 157 p) 0 k true).1 from if_pos q]; exact nI_pos (by have := wk_lt T p (T.1 157 p) 0 k true (by omega); omega))
        refine w_iinc3 (pc' := 28) 1 rfl rfl ic_1 rfl ?_
        rw [nI_inc]
        refine w_goto (pc' := 4) rfl (by decide) ?_
        rw [show cam T p false (r + 1) k a = cam T p false r (k + 1) a from congrArg (cam T p false r (k + 1)) (if_neg (by rw [hz]; decide))]
        exact ih (k + 1) (by omega) _
      · have hz : (wk T p (T.1 157 p) 0 k true).2 = true := by
          cases q : (wk T p (T.1 157 p) 0 k true).2
          · exact absurd h16 (by rw [show f_end (wk T p (T.1 157 p) 0 k true) = -1 from if_neg (by rw [q]; decide)]; decide)
          · rfl
        refine w_iload_n (pc' := 20) rfl rfl rfl ?_
        refine w_iconst (pc' := 21) 1 rfl rfl ic_1 ?_
        refine w_iload_n (pc' := 22) rfl rfl rfl ?_
        refine w_ishl (pc' := 23) rfl rfl ?_
        refine w_ior (pc' := 24) rfl rfl ?_
        refine w_ist2 (pc' := 25) rfl rfl rfl ?_
        refine w_iinc3 (pc' := 28) 1 rfl rfl ic_1 rfl ?_
        rw [nI_inc]
        refine w_goto (pc' := 4) rfl (by decide) ?_
        rw [show cam T p false (r + 1) k a = cam T p false r (k + 1) (a ||| ((1 : Int32) <<< (nI (k) &&& 31))) from congrArg (cam T p false r (k + 1)) ((if_pos hz).trans rfl)]
        exact ih (k + 1) (by omega) _
set_option maxRecDepth 100000 in
set_option maxHeartbeats 4000000 in
theorem v_cameOf (xs : List Int32) {b : Nat} (hb : q_isL b) {T : q_T} {m : am_Mm} (hR : q_Rl b T m) (hB : q_Bd T) {p : Nat} (hp : p < T.1 153 0) : am_V xs 3 25 [.ref b, .ref (b + 6 + 4 * p)] m (am_qi (f_came T p false) (· = m)) := by
  have hb1 := q_isL_lt hb
  have hn0 : T.1 153 0 < 7 := hB 153 0
  refine am_V_of ky_25 (Nat.le_of_ble_eq_true rfl) ?_
  show am_P xs 2 la_cameOf 0 [some (.ref b), some (.ref (b + 6 + 4 * p)), none, none] [] m _
  refine w_iconst (pc' := 1) 0 rfl rfl ic_0 ?_
  refine w_ist2 (pc' := 2) rfl rfl rfl ?_
  refine w_iconst (pc' := 3) 0 rfl rfl ic_0 ?_
  refine w_ist3 (pc' := 4) rfl rfl rfl ?_
  exact lp_cameOf xs hb hR hB hp 16 0 (by omega) 0
set_option maxRecDepth 100000 in
set_option maxHeartbeats 4000000 in
theorem lp_hereOf (xs : List Int32) {b : Nat} (hb : q_isL b) {T : q_T} {m : am_Mm} (hR : q_Rl b T m) (hB : q_Bd T) {p : Nat} (hp : p < T.1 153 0) : ∀ (r k : Nat), k + r = 16 → ∀ (a : Int32) (l4 : Option Value), am_P xs 2 la_hereOf 4 [some (.ref b), some (.ref (b + 6 + 4 * p)), some (.int a), some (.int (nI k)), l4] [] m (am_qi (cam T p true r k a) (· = m)) := by
  intro r
  induction r with
  | zero =>
    intro k hk a l4
    have hb1 := q_isL_lt hb
    have hn0 : T.1 153 0 < 7 := hB 153 0
    refine w_iload_n (pc' := 5) rfl rfl rfl ?_
    refine w_bipush (pc' := 7) 16 rfl rfl bp_16 ?_
    refine w_ic_ge (t := 36) (pc' := 10) rfl (by decide) rfl (fun h7 => ?_) (fun h7 => ?_)
    · have g1 : 16 ≤ k := (nI_leI (a := 16) (b := k) (by omega) (by omega)).mp h7
      refine w_iload_n (pc' := 37) rfl rfl rfl ?_
      refine w_iret rfl rfl rfl ?_
      exact ⟨rfl, rfl⟩
    · have g2 : ¬ 16 ≤ k := fun q => h7 ((nI_leI (a := 16) (b := k) (by omega) (by omega)).mpr q)
      omega
  | succ r ih =>
    intro k hk a l4
    have hb1 := q_isL_lt hb
    have hn0 : T.1 153 0 < 7 := hB 153 0
    refine w_iload_n (pc' := 5) rfl rfl rfl ?_
    refine w_bipush (pc' := 7) 16 rfl rfl bp_16 ?_
    refine w_ic_ge (t := 36) (pc' := 10) rfl (by decide) rfl (fun h7 => ?_) (fun h7 => ?_)
    · have g1 : 16 ≤ k := (nI_leI (a := 16) (b := k) (by omega) (by omega)).mp h7
      omega
    · have g2 : ¬ 16 ≤ k := fun q => h7 ((nI_leI (a := 16) (b := k) (by omega) (by omega)).mpr q)
      refine w_aload_n (pc' := 11) rfl rfl rfl rfl ?_
      refine w_aload_n (pc' := 12) rfl rfl rfl rfl ?_
      refine w_iload_n (pc' := 13) rfl rfl rfl ?_
      refine w_cV2i (pc' := 16) (v_la_end xs hb hR hB hp (i := k) (by omega)) (by decide) rfl rfl rfl (Nat.le_of_ble_eq_true rfl) (shL hb) rfl (fun m' hm' => ?_)
      rw [show m' = m from hm']
      clear hm' m'
      refine w_ist4 (pc' := 18) rfl rfl rfl ?_
      refine w_iload (pc' := 20) rfl rfl rfl ?_
      refine w_if_lt (t := 30) (pc' := 23) rfl (by decide) rfl (fun h20 => ?_) (fun h20 => ?_)
      · have hz : (wk T p (T.1 157 p) 0 k true).2 = false := by
          cases q : (wk T p (T.1 157 p) 0 k true).2
          · rfl
          · exact absurd h20 (by rw [show f_end (wk T p (T.1 157 p) 0 k true) = nI (wk T p (T.1 157 p) 0 k true).1 from if_pos q]; exact nI_pos (by have := wk_lt T p (T.1 157 p) 0 k true (by omega); omega))
        refine w_iinc3 (pc' := 33) 1 rfl rfl ic_1 rfl ?_
        rw [nI_inc]
        refine w_goto (pc' := 4) rfl (by decide) ?_
        rw [show cam T p true (r + 1) k a = cam T p true r (k + 1) a from congrArg (cam T p true r (k + 1)) (if_neg (by rw [hz]; decide))]
        exact ih (k + 1) (by omega) _ _
      · have hz : (wk T p (T.1 157 p) 0 k true).2 = true := by
          cases q : (wk T p (T.1 157 p) 0 k true).2
          · exact absurd h20 (by rw [show f_end (wk T p (T.1 157 p) 0 k true) = -1 from if_neg (by rw [q]; decide)]; decide)
          · rfl
        rw [show f_end (wk T p (T.1 157 p) 0 k true) = nI (wk T p (T.1 157 p) 0 k true).1 from if_pos hz]
        refine w_iload_n (pc' := 24) rfl rfl rfl ?_
        refine w_iconst (pc' := 25) 1 rfl rfl ic_1 ?_
        refine w_iload (pc' := 27) rfl rfl rfl ?_
        refine w_ishl (pc' := 28) rfl rfl ?_
        refine w_ior (pc' := 29) rfl rfl ?_
        refine w_ist2 (pc' := 30) rfl rfl rfl ?_
        refine w_iinc3 (pc' := 33) 1 rfl rfl ic_1 rfl ?_
        rw [nI_inc]
        refine w_goto (pc' := 4) rfl (by decide) ?_
        rw [show cam T p true (r + 1) k a = cam T p true r (k + 1) (a ||| ((1 : Int32) <<< (nI ((wk T p (T.1 157 p) 0 k true).1) &&& 31))) from congrArg (cam T p true r (k + 1)) ((if_pos hz).trans rfl)]
        exact ih (k + 1) (by omega) _ _
set_option maxRecDepth 100000 in
set_option maxHeartbeats 4000000 in
theorem v_hereOf (xs : List Int32) {b : Nat} (hb : q_isL b) {T : q_T} {m : am_Mm} (hR : q_Rl b T m) (hB : q_Bd T) {p : Nat} (hp : p < T.1 153 0) : am_V xs 3 28 [.ref b, .ref (b + 6 + 4 * p)] m (am_qi (f_came T p true) (· = m)) := by
  have hb1 := q_isL_lt hb
  have hn0 : T.1 153 0 < 7 := hB 153 0
  refine am_V_of ky_28 (Nat.le_of_ble_eq_true rfl) ?_
  show am_P xs 2 la_hereOf 0 [some (.ref b), some (.ref (b + 6 + 4 * p)), none, none, none] [] m _
  refine w_iconst (pc' := 1) 0 rfl rfl ic_0 ?_
  refine w_ist2 (pc' := 2) rfl rfl rfl ?_
  refine w_iconst (pc' := 3) 0 rfl rfl ic_0 ?_
  refine w_ist3 (pc' := 4) rfl rfl rfl ?_
  exact lp_hereOf xs hb hR hB hp 16 0 (by omega) 0 none
