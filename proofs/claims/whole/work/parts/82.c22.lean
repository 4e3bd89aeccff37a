def q_Fa (a : Nat) (m m' : am_Mm) : Prop := (∀ x, ¬ (a ≤ x ∧ x < a + 4) → m'.1 x = m.1 x) ∧ m'.2 = m.2
theorem q_Fa.tr {a : Nat} {m m' m'' : am_Mm} (h : q_Fa a m m') (h' : q_Fa a m' m'') : q_Fa a m m'' := ⟨fun x hx => (h'.1 x hx).trans (h.1 x hx), h'.2.trans h.2⟩
def q_Ca (a c n : Nat) (m m' : am_Mm) : Prop := ∀ i, i < n → m'.1 (a + 1) i = m.1 (c + 1) i ∧ (m'.1 (a + 2) i = m.1 (c + 2) i ∧ m'.1 (a + 3) i = m.1 (c + 3) i)
set_option maxRecDepth 100000 in
set_option maxHeartbeats 4000000 in
theorem lp_rocopy (xs : List Int32) {a c M n : Nat} (hr : q_isR a M) (hc : q_isR c M) (hac : a + 4 ≤ c ∨ c + 4 ≤ a) {m0 : am_Mm} (hn : m0.1 c 4 = nI n) (hnM : n ≤ M) : ∀ (r k : Nat), k + r = n → ∀ (m : am_Mm), m.1 a 4 = nI k → q_Ca a c k m0 m → q_Fa a m0 m → am_P xs 2 ro_copyFrom 7 [some (.ref a), some (.ref c), some (.int (nI k))] [] m (am_qn (fun m' => m'.1 a 4 = nI n ∧ (q_Ca a c n m0 m' ∧ q_Fa a m0 m'))) := by
  intro r
  induction r with
  | zero =>
    intro k hk m hk4 hCa hF
    have hr1 := q_isR_lt hr
    have hc1 := q_isR_lt hc
    refine w_iload_n (pc' := 8) rfl rfl rfl ?_
    refine w_aload_n (pc' := 9) rfl rfl rfl rfl ?_
    refine w_getI (pc' := 12) rfl rfl rfl (shR hc) rfl ?_
    rw [show m.1 c 4 = nI n from (congrFun (hF.1 c (by omega)) 4).trans hn]
    refine w_ic_ge (t := 52) (pc' := 15) rfl (by decide) rfl (fun h12 => ?_) (fun h12 => ?_)
    · have g1 : n ≤ k := (nI_leI (a := n) (b := k) (by omega) (by omega)).mp h12
      refine w_vret rfl rfl ?_
      obtain rfl : k = n := by omega
      exact ⟨rfl, hk4, hCa, hF⟩
    · have g2 : ¬ n ≤ k := fun q => h12 ((nI_leI (a := n) (b := k) (by omega) (by omega)).mpr q)
      omega
  | succ r ih =>
    intro k hk m hk4 hCa hF
    have hr1 := q_isR_lt hr
    have hc1 := q_isR_lt hc
    refine w_iload_n (pc' := 8) rfl rfl rfl ?_
    refine w_aload_n (pc' := 9) rfl rfl rfl rfl ?_
    refine w_getI (pc' := 12) rfl rfl rfl (shR hc) rfl ?_
    rw [show m.1 c 4 = nI n from (congrFun (hF.1 c (by omega)) 4).trans hn]
    refine w_ic_ge (t := 52) (pc' := 15) rfl (by decide) rfl (fun h12 => ?_) (fun h12 => ?_)
    · have g1 : n ≤ k := (nI_leI (a := n) (b := k) (by omega) (by omega)).mp h12
      omega
    · have g2 : ¬ n ≤ k := fun q => h12 ((nI_leI (a := n) (b := k) (by omega) (by omega)).mpr q)
      refine w_iload_n (pc' := 16) rfl rfl rfl ?_
      refine w_aload_n (pc' := 17) rfl rfl rfl rfl ?_
      refine w_getC (pc' := 20) rfl rfl rfl (shR hc) rfl ?_
      refine w_ic_ge (t := 52) (pc' := 23) rfl (by decide) rfl (fun h20 => ?_) (fun h20 => ?_)
      · have g3 : M ≤ k := (nI_leI (a := M) (b := k) (by omega) (by omega)).mp h20
        omega
      · have g4 : ¬ M ≤ k := fun q => h20 ((nI_leI (a := M) (b := k) (by omega) (by omega)).mpr q)
        refine w_aload_n (pc' := 24) rfl rfl rfl rfl ?_
        refine w_aload_n (pc' := 25) rfl rfl rfl rfl ?_
        refine w_getC (pc' := 28) rfl rfl rfl (shR hc) rfl ?_
        refine w_iload_n (pc' := 29) rfl rfl rfl ?_
        refine w_iald (j := (k)) (pc' := 30) rfl rfl (shR1 hc) rfl (by omega) (by omega) ?_
        skip
        refine w_aload_n (pc' := 31) rfl rfl rfl rfl ?_
        refine w_getC (pc' := 34) rfl rfl rfl (shR hc) rfl ?_
        refine w_iload_n (pc' := 35) rfl rfl rfl ?_
        refine w_iald (j := (k)) (pc' := 36) rfl rfl (shR2 hc) rfl (by omega) (by omega) ?_
        skip
        refine w_aload_n (pc' := 37) rfl rfl rfl rfl ?_
        refine w_getC (pc' := 40) rfl rfl rfl (shR hc) rfl ?_
        refine w_iload_n (pc' := 41) rfl rfl rfl ?_
        refine w_iald (j := (k)) (pc' := 42) rfl rfl (shR3 hc) rfl (by omega) (by omega) ?_
        skip
        refine w_cV3i (pc' := 45) (v_ro_append xs hr (n := k) hk4 (by omega) (m.1 (c + 1) k) (m.1 (c + 2) k) (m.1 (c + 3) k)) (by decide) rfl rfl rfl (Nat.le_of_ble_eq_true rfl) (shR hr) rfl (fun m1 hm' => ?_)
        have hM := hm'
        rw [if_pos (show k < M by omega)] at hM
        refine w_pop (pc' := 46) rfl rfl rfl ?_
        refine w_iinc2 (pc' := 49) 1 rfl rfl ic_1 rfl ?_
        rw [nI_inc]
        refine w_goto (pc' := 7) rfl (by decide) ?_
        exact ih (k + 1) (by omega) m1 (by rw [show m1 = _ from hM]; exact q_ap_4) (fun i hi => by
          rw [show m1 = _ from hM]
          by_cases e : i = k
          · subst e
            exact ⟨q_ap_1.trans (congrFun (hF.1 (c + 1) (by omega)) i), q_ap_2.trans (congrFun (hF.1 (c + 2) (by omega)) i), q_ap_3.trans (congrFun (hF.1 (c + 3) (by omega)) i)⟩
          · obtain ⟨a1, a2, a3⟩ := hCa i (by omega)
            exact ⟨(q_ap_ne (by omega) (by omega) (by omega) (by omega)).trans a1, (q_ap_ne (by omega) (by omega) (by omega) (by omega)).trans a2, (q_ap_ne (by omega) (by omega) (by omega) (by omega)).trans a3⟩) (hF.tr ⟨fun x hx => by rw [show m1 = _ from hM]; exact q_ap_nc hx, by rw [show m1 = _ from hM]; rfl⟩)
set_option maxRecDepth 100000 in
set_option maxHeartbeats 4000000 in
theorem v_rocopy (xs : List Int32) {a c M n : Nat} (hr : q_isR a M) (hc : q_isR c M) (hac : a + 4 ≤ c ∨ c + 4 ≤ a) {m0 : am_Mm} (hn : m0.1 c 4 = nI n) (hnM : n ≤ M) : am_V xs 3 119 [.ref a, .ref c] m0 (am_qn (fun m' => m'.1 a 4 = nI n ∧ (q_Ca a c n m0 m' ∧ q_Fa a m0 m'))) := by
  have hr1 := q_isR_lt hr
  have hc1 := q_isR_lt hc
  refine am_V_of ky_119 (Nat.le_of_ble_eq_true rfl) ?_
  show am_P xs 2 ro_copyFrom 0 [some (.ref a), some (.ref c), none] [] m0 _
  refine w_aload_n (pc' := 1) rfl rfl rfl rfl ?_
  refine w_iconst (pc' := 2) 0 rfl rfl ic_0 ?_
  refine w_putI (pc' := 5) rfl rfl rfl (shR hr) rfl rfl rfl ?_
  refine w_iconst (pc' := 6) 0 rfl rfl ic_0 ?_
  refine w_ist2 (pc' := 7) rfl rfl rfl ?_
  exact lp_rocopy xs hr hc hac hn hnM n 0 (by omega) (am_u m0 a 4 0) am_u_eq (fun i hi => absurd hi (by omega)) ⟨fun x hx => am_u_nc (by omega), rfl⟩
set_option maxRecDepth 100000 in
set_option maxHeartbeats 4000000 in
theorem v_bhcopy104 (xs : List Int32) {T : q_T} {m : am_Mm} (hH : q_Rh 91 T m) (hB : q_Bd T) : am_V xs 4 118 [.ref 104, .ref 91] m (am_qn (fun m' => q_Rh 104 T m' ∧ ((∀ c, ¬ (105 ≤ c ∧ c < 117) → m'.1 c = m.1 c) ∧ m'.2 = m.2))) := by
  have b28 : T.1 153 28 < 6 := hB 153 28
  have b32 : T.1 153 32 < 11 := hB 153 32
  have b35 : T.1 153 35 < 9 := hB 153 35
  refine am_V_of ky_118 (Nat.le_of_ble_eq_true rfl) ?_
  show am_P xs 3 bh_copyFrom 0 [some (.ref 104), some (.ref 91)] [] m _
  refine w_aload_n (pc' := 1) rfl rfl rfl rfl ?_
  refine w_getC (pc' := 4) rfl rfl rfl sh_104 rfl ?_
  refine w_aload_n (pc' := 5) rfl rfl rfl rfl ?_
  refine w_getC (pc' := 8) rfl rfl rfl sh_91 rfl ?_
  refine w_cV1n (pc' := 11) (v_rocopy xs (a := 105) (c := 92) (M := 5) (n := T.1 153 28) (Or.inr (Or.inr (Or.inr (Or.inl ⟨rfl, rfl⟩)))) (Or.inl ⟨rfl, rfl⟩) (by omega) (hH.1) (by omega)) (by decide) rfl rfl rfl (Nat.le_of_ble_eq_true rfl) sh_105 rfl (fun m1 hm' => ?_)
  obtain ⟨hs_1, hc_1, hf_1⟩ := hm'
  refine w_aload_n (pc' := 12) rfl rfl rfl rfl ?_
  refine w_getC (pc' := 15) rfl rfl rfl sh_104 rfl ?_
  refine w_aload_n (pc' := 16) rfl rfl rfl rfl ?_
  refine w_getC (pc' := 19) rfl rfl rfl sh_91 rfl ?_
  refine w_cV1n (pc' := 22) (v_rocopy xs (a := 109) (c := 96) (M := 10) (n := T.1 153 32) (Or.inr (Or.inr (Or.inr (Or.inr (Or.inl ⟨rfl, rfl⟩))))) (Or.inr (Or.inl ⟨rfl, rfl⟩)) (by omega) ((congrFun (hf_1.1 96 (by omega)) 4).trans hH.2.2.1) (by omega)) (by decide) rfl rfl rfl (Nat.le_of_ble_eq_true rfl) sh_109 rfl (fun m2 hm' => ?_)
  obtain ⟨hs_2, hc_2, hf_2⟩ := hm'
  refine w_aload_n (pc' := 23) rfl rfl rfl rfl ?_
  refine w_getC (pc' := 26) rfl rfl rfl sh_104 rfl ?_
  refine w_aload_n (pc' := 27) rfl rfl rfl rfl ?_
  refine w_getC (pc' := 30) rfl rfl rfl sh_91 rfl ?_
  refine w_cV1n (pc' := 33) (v_rocopy xs (a := 113) (c := 100) (M := 8) (n := T.1 153 35) (Or.inr (Or.inr (Or.inr (Or.inr (Or.inr ⟨rfl, rfl⟩))))) (Or.inr (Or.inr (Or.inl ⟨rfl, rfl⟩))) (by omega) ((congrFun (hf_2.1 100 (by omega)) 4).trans ((congrFun (hf_1.1 100 (by omega)) 4).trans hH.2.2.2.2.1)) (by omega)) (by decide) rfl rfl rfl (Nat.le_of_ble_eq_true rfl) sh_113 rfl (fun m3 hm' => ?_)
  obtain ⟨hs_3, hc_3, hf_3⟩ := hm'
  refine w_vret rfl rfl ?_
  exact ⟨rfl, ⟨(congrFun (hf_3.1 105 (by omega)) 4).trans ((congrFun (hf_2.1 105 (by omega)) 4).trans hs_1), fun i hi => ⟨(congrFun (hf_3.1 106 (by omega)) i).trans ((congrFun (hf_2.1 106 (by omega)) i).trans ((hc_1 i hi).1.trans (hH.2.1 i hi).1)), (congrFun (hf_3.1 107 (by omega)) i).trans ((congrFun (hf_2.1 107 (by omega)) i).trans ((hc_1 i hi).2.1.trans (hH.2.1 i hi).2.1)), (congrFun (hf_3.1 108 (by omega)) i).trans ((congrFun (hf_2.1 108 (by omega)) i).trans ((hc_1 i hi).2.2.trans (hH.2.1 i hi).2.2))⟩, (congrFun (hf_3.1 109 (by omega)) 4).trans hs_2, fun i hi => ⟨(congrFun (hf_3.1 110 (by omega)) i).trans ((hc_2 i hi).1.trans ((congrFun (hf_1.1 97 (by omega)) i).trans (hH.2.2.2.1 i hi).1)), fun z => (congrFun (hf_3.1 111 (by omega)) i).trans ((hc_2 i hi).2.1.trans ((congrFun (hf_1.1 98 (by omega)) i).trans ((hH.2.2.2.1 i hi).2 z)))⟩, hs_3, fun i hi => ⟨(hc_3 i hi).1.trans (((congrFun (hf_2.1 101 (by omega)) i).trans (congrFun (hf_1.1 101 (by omega)) i)).trans (hH.2.2.2.2.2 i hi).1), (hc_3 i hi).2.1.trans (((congrFun (hf_2.1 102 (by omega)) i).trans (congrFun (hf_1.1 102 (by omega)) i)).trans (hH.2.2.2.2.2 i hi).2)⟩⟩, fun c hc => (hf_3.1 c (by omega)).trans ((hf_2.1 c (by omega)).trans (hf_1.1 c (by omega))), hf_3.2.trans (hf_2.2.trans hf_1.2)⟩
set_option maxRecDepth 100000 in
set_option maxHeartbeats 4000000 in
theorem v_bhcopy91 (xs : List Int32) {T : q_T} {m : am_Mm} (hH : q_Rh 104 T m) (hB : q_Bd T) : am_V xs 4 118 [.ref 91, .ref 104] m (am_qn (fun m' => q_Rh 91 T m' ∧ ((∀ c, ¬ (92 ≤ c ∧ c < 104) → m'.1 c = m.1 c) ∧ m'.2 = m.2))) := by
  have b28 : T.1 153 28 < 6 := hB 153 28
  have b32 : T.1 153 32 < 11 := hB 153 32
  have b35 : T.1 153 35 < 9 := hB 153 35
  refine am_V_of ky_118 (Nat.le_of_ble_eq_true rfl) ?_
  show am_P xs 3 bh_copyFrom 0 [some (.ref 91), some (.ref 104)] [] m _
  refine w_aload_n (pc' := 1) rfl rfl rfl rfl ?_
  refine w_getC (pc' := 4) rfl rfl rfl sh_91 rfl ?_
  refine w_aload_n (pc' := 5) rfl rfl rfl rfl ?_
  refine w_getC (pc' := 8) rfl rfl rfl sh_104 rfl ?_
  refine w_cV1n (pc' := 11) (v_rocopy xs (a := 92) (c := 105) (M := 5) (n := T.1 153 28) (Or.inl ⟨rfl, rfl⟩) (Or.inr (Or.inr (Or.inr (Or.inl ⟨rfl, rfl⟩)))) (by omega) (hH.1) (by omega)) (by decide) rfl rfl rfl (Nat.le_of_ble_eq_true rfl) sh_92 rfl (fun m1 hm' => ?_)
  obtain ⟨hs_1, hc_1, hf_1⟩ := hm'
  refine w_aload_n (pc' := 12) rfl rfl rfl rfl ?_
  refine w_getC (pc' := 15) rfl rfl rfl sh_91 rfl ?_
  refine w_aload_n (pc' := 16) rfl rfl rfl rfl ?_
  refine w_getC (pc' := 19) rfl rfl rfl sh_104 rfl ?_
  refine w_cV1n (pc' := 22) (v_rocopy xs (a := 96) (c := 109) (M := 10) (n := T.1 153 32) (Or.inr (Or.inl ⟨rfl, rfl⟩)) (Or.inr (Or.inr (Or.inr (Or.inr (Or.inl ⟨rfl, rfl⟩))))) (by omega) ((congrFun (hf_1.1 109 (by omega)) 4).trans hH.2.2.1) (by omega)) (by decide) rfl rfl rfl (Nat.le_of_ble_eq_true rfl) sh_96 rfl (fun m2 hm' => ?_)
  obtain ⟨hs_2, hc_2, hf_2⟩ := hm'
  refine w_aload_n (pc' := 23) rfl rfl rfl rfl ?_
  refine w_getC (pc' := 26) rfl rfl rfl sh_91 rfl ?_
  refine w_aload_n (pc' := 27) rfl rfl rfl rfl ?_
  refine w_getC (pc' := 30) rfl rfl rfl sh_104 rfl ?_
  refine w_cV1n (pc' := 33) (v_rocopy xs (a := 100) (c := 113) (M := 8) (n := T.1 153 35) (Or.inr (Or.inr (Or.inl ⟨rfl, rfl⟩))) (Or.inr (Or.inr (Or.inr (Or.inr (Or.inr ⟨rfl, rfl⟩))))) (by omega) ((congrFun (hf_2.1 113 (by omega)) 4).trans ((congrFun (hf_1.1 113 (by omega)) 4).trans hH.2.2.2.2.1)) (by omega)) (by decide) rfl rfl rfl (Nat.le_of_ble_eq_true rfl) sh_100 rfl (fun m3 hm' => ?_)
  obtain ⟨hs_3, hc_3, hf_3⟩ := hm'
  refine w_vret rfl rfl ?_
  exact ⟨rfl, ⟨(congrFun (hf_3.1 92 (by omega)) 4).trans ((congrFun (hf_2.1 92 (by omega)) 4).trans hs_1), fun i hi => ⟨(congrFun (hf_3.1 93 (by omega)) i).trans ((congrFun (hf_2.1 93 (by omega)) i).trans ((hc_1 i hi).1.trans (hH.2.1 i hi).1)), (congrFun (hf_3.1 94 (by omega)) i).trans ((congrFun (hf_2.1 94 (by omega)) i).trans ((hc_1 i hi).2.1.trans (hH.2.1 i hi).2.1)), (congrFun (hf_3.1 95 (by omega)) i).trans ((congrFun (hf_2.1 95 (by omega)) i).trans ((hc_1 i hi).2.2.trans (hH.2.1 i hi).2.2))⟩, (congrFun (hf_3.1 96 (by omega)) 4).trans hs_2, fun i hi => ⟨(congrFun (hf_3.1 97 (by omega)) i).trans ((hc_2 i hi).1.trans ((congrFun (hf_1.1 110 (by omega)) i).trans (hH.2.2.2.1 i hi).1)), fun z => (congrFun (hf_3.1 98 (by omega)) i).trans ((hc_2 i hi).2.1.trans ((congrFun (hf_1.1 111 (by omega)) i).trans ((hH.2.2.2.1 i hi).2 z)))⟩, hs_3, fun i hi => ⟨(hc_3 i hi).1.trans (((congrFun (hf_2.1 114 (by omega)) i).trans (congrFun (hf_1.1 114 (by omega)) i)).trans (hH.2.2.2.2.2 i hi).1), (hc_3 i hi).2.1.trans (((congrFun (hf_2.1 115 (by omega)) i).trans (congrFun (hf_1.1 115 (by omega)) i)).trans (hH.2.2.2.2.2 i hi).2)⟩⟩, fun c hc => (hf_3.1 c (by omega)).trans ((hf_2.1 c (by omega)).trans (hf_1.1 c (by omega))), hf_3.2.trans (hf_2.2.trans hf_1.2)⟩
