theorem q_wkb {T : q_T} {m : am_Mm} {c k : Nat} {v : Int32} (h : ∀ i, i < k → m.1 c i = nI (q_ws T i) - 1) (hv : v = nI (q_ws T k) - 1) : ∀ i, i < k + 1 → (am_u m c k v).1 c i = nI (q_ws T i) - 1 := by
  intro i hi
  by_cases e : i = k
  · subst e
    rw [am_u_eq, hv]
  · rw [am_u_ne (fun q => e q.2)]
    exact h i (by omega)
set_option maxRecDepth 100000 in
set_option maxHeartbeats 4000000 in
theorem lp_ch1 (xs : List Int32) {b : Nat} (hb : q_isL b) {T : q_T} {m0 : am_Mm} {Q : am_Q} (hB : q_Bd T) (hO : q_Bo T) (hV : q_Bv T) (hl6 : T.2.1.length ≤ 6) (hh : T.1 153 11 < 20000) (hRo0 : q_Ro T m0) (hK : ∀ m, q_Rl b T m → q_Fl b m0 m → (∀ i, i < T.1 153 0 → m.1 (b + 3) i = nI (q_ws T i) - 1) → am_P xs 5 la_hourGoes 58 [some (.ref b), some (.int (nI (T.1 153 0))), none] [] m Q) : ∀ (r k : Nat), k + r = T.1 153 0 → ∀ (m : am_Mm), q_Rl b T m → q_Fl b m0 m → (∀ i, i < k → m.1 (b + 3) i = nI (q_ws T i) - 1) → am_P xs 5 la_hourGoes 2 [some (.ref b), some (.int (nI k)), none] [] m (Q) := by
  intro r
  induction r with
  | zero =>
    intro k hk m hR hF hA
    have hb1 := q_isL_lt hb
    have hn0 : T.1 153 0 < 7 := hB 153 0
    have hRo := hRo0.fl hF (by omega) hl6
    have b58 : T.1 158 k < 2 := hB 158 k
    have b57 : T.1 157 k < 9 := hB 157 k
    refine w_iload_n (pc' := 3) rfl rfl rfl ?_
    refine w_aload_n (pc' := 4) rfl rfl rfl rfl ?_
    refine w_getI (pc' := 7) rfl rfl rfl (shL hb) rfl ?_
    have b1 : T.1 153 0 < 7 := hB 153 (0)
    rw [show m.1 b 5 = nI (T.1 153 0) from hR.1]
    refine w_ic_ge (t := 58) (pc' := 10) rfl (by decide) rfl (fun h7 => ?_) (fun h7 => ?_)
    · have g2 : (T.1 153 0) ≤ k := (nI_leI (a := (T.1 153 0)) (b := k) (by omega) (by omega)).mp h7
      obtain rfl : k = T.1 153 0 := by omega
      exact hK m hR hF hA
    · have g3 : ¬ (T.1 153 0) ≤ k := fun q => h7 ((nI_leI (a := (T.1 153 0)) (b := k) (by omega) (by omega)).mpr q)
      omega
  | succ r ih =>
    intro k hk m hR hF hA
    have hb1 := q_isL_lt hb
    have hn0 : T.1 153 0 < 7 := hB 153 0
    have hRo := hRo0.fl hF (by omega) hl6
    have b58 : T.1 158 k < 2 := hB 158 k
    have b57 : T.1 157 k < 9 := hB 157 k
    refine w_iload_n (pc' := 3) rfl rfl rfl ?_
    refine w_aload_n (pc' := 4) rfl rfl rfl rfl ?_
    refine w_getI (pc' := 7) rfl rfl rfl (shL hb) rfl ?_
    have b1 : T.1 153 0 < 7 := hB 153 (0)
    rw [show m.1 b 5 = nI (T.1 153 0) from hR.1]
    refine w_ic_ge (t := 58) (pc' := 10) rfl (by decide) rfl (fun h7 => ?_) (fun h7 => ?_)
    · have g2 : (T.1 153 0) ≤ k := (nI_leI (a := (T.1 153 0)) (b := k) (by omega) (by omega)).mp h7
      omega
    · have g3 : ¬ (T.1 153 0) ≤ k := fun q => h7 ((nI_leI (a := (T.1 153 0)) (b := k) (by omega) (by omega)).mpr q)
      refine w_iload_n (pc' := 11) rfl rfl rfl ?_
      refine w_bipush (pc' := 13) 6 rfl rfl bp_6 ?_
      refine w_ic_ge (t := 58) (pc' := 16) rfl (by decide) rfl (fun h13 => ?_) (fun h13 => ?_)
      · have g4 : 6 ≤ k := (nI_leI (a := 6) (b := k) (by omega) (by omega)).mp h13
        omega
      · have g5 : ¬ 6 ≤ k := fun q => h13 ((nI_leI (a := 6) (b := k) (by omega) (by omega)).mpr q)
        refine w_aload_n (pc' := 17) rfl rfl rfl rfl ?_
        refine w_getC (pc' := 20) rfl rfl rfl (shL hb) rfl ?_
        refine w_iload_n (pc' := 21) rfl rfl rfl ?_
        refine w_aload_n (pc' := 22) rfl rfl rfl rfl ?_
        refine w_getC (pc' := 25) rfl rfl rfl (shL hb) rfl ?_
        refine w_iload_n (pc' := 26) rfl rfl rfl ?_
        refine w_aald (j := k) (a := (b + 6 + 4 * k)) (pc' := 27) rfl rfl (shLd hb) rfl (drD (b := b) (p := k) (by omega)) (by omega) (am_sh_lt (shD hb (p := k) (by omega))) ?_
        refine w_cV0i (pc' := 30) (v_dr_goes xs hb hR hB (p := k) (by omega)) (by decide) rfl rfl rfl (Nat.le_of_ble_eq_true rfl) (shD hb (p := k) (by omega)) rfl (fun m' hm' => ?_)
        rw [show m' = m from hm']
        clear hm' m'
        refine w_if_eq (t := 50) (pc' := 33) rfl (by decide) rfl (fun h30 => ?_) (fun h30 => ?_)
        · have hb6 : q_gs T k = false := bB_0.mp h30
          refine w_iconst (pc' := 51) (-1) rfl rfl ic_m1 ?_
          refine w_iast (j := (k)) (pc' := 52) rfl rfl (shLw hb) rfl (by omega) (by decide) ?_
          refine w_iinc1 (pc' := 55) 1 rfl rfl ic_1 rfl ?_
          rw [nI_inc]
          refine w_goto (pc' := 2) rfl (by decide) ?_
          have hg := of_decide_eq_false hb6
          exact ih (k + 1) (by omega) _ (hR.jk (by omega) (by omega)) (hF.u (by omega)) (q_wkb hA (by rw [show q_ws T k = 0 from if_pos (by omega)]; decide))
        · have hb7 : q_gs T k = true := bB_n0.mp h30
          refine w_aload_n (pc' := 34) rfl rfl rfl rfl ?_
          refine w_aload_n (pc' := 35) rfl rfl rfl rfl ?_
          refine w_getC (pc' := 38) rfl rfl rfl (shL hb) rfl ?_
          refine w_iload_n (pc' := 39) rfl rfl rfl ?_
          refine w_aald (j := k) (a := (b + 6 + 4 * k)) (pc' := 40) rfl rfl (shLd hb) rfl (drD (b := b) (p := k) (by omega)) (by omega) (am_sh_lt (shD hb (p := k) (by omega))) ?_
          refine w_cV1i (pc' := 43) (v_la_feelOf xs hb hR hB hO hV hRo hl6 hh (p := k) (by omega)) (by decide) rfl rfl rfl (Nat.le_of_ble_eq_true rfl) (shL hb) rfl (fun m1 hm' => ?_)
          obtain ⟨hR_1, hF4_1⟩ := hm'
          have hA_1 : ∀ i, i < k → m1.1 (b + 3) i = nI (q_ws T i) - 1 := fun i hi => by rw [hF4_1.1 (b + 3) (by omega)]; exact hA i hi
          refine w_iconst (pc' := 44) 4 rfl rfl ic_4 ?_
          refine w_cS2i (pc' := 47) (v_jm_floorMod xs m1 (f_feel T k)) (by decide) rfl rfl rfl (Or.inl rfl) (Nat.le_of_ble_eq_true rfl) (fun m' hm' => ?_)
          rw [show m' = m1 from hm']
          clear hm' m'
          rw [(nI_and3 (f_feel T k)).1]
          refine w_goto (pc' := 51) rfl (by decide) ?_
          refine w_iast (j := (k)) (pc' := 52) rfl rfl (shLw hb) rfl (by omega) (by decide) ?_
          refine w_iinc1 (pc' := 55) 1 rfl rfl ic_1 rfl ?_
          rw [nI_inc]
          refine w_goto (pc' := 2) rfl (by decide) ?_
          have hg := of_decide_eq_true hb7
          exact ih (k + 1) (by omega) _ (hR_1.jk (by omega) (by omega)) ((hF.tr hF4_1.Fl).u (by omega)) (q_wkb hA_1 (by rw [show q_ws T k = f_way T k + 1 from if_neg (by omega)]; exact (nI_pred _).symm))
set_option maxRecDepth 100000 in
set_option maxHeartbeats 4000000 in
theorem lp_ch2 (xs : List Int32) {b : Nat} (hb : q_isL b) {T : q_T} {m0 : am_Mm} (hB0 : q_Bd T) {kn : Nat} (hkn : kn < 1000) (hW : ∀ i, i < T.1 153 0 → m0.1 (b + 3) i = nI (q_ws T i) - 1) (hd : ∀ i, T.1 159 i < 100000) : ∀ (r k : Nat), k + r = T.1 153 0 → ∀ (Tk : q_T) (m : am_Mm), q_Rl b Tk m → q_Fw b m0 m → q_Bd Tk → Tk.1 153 0 = T.1 153 0 → (∀ i, k ≤ i → Tk.1 157 i = T.1 157 i) → (∀ i, k ≤ i → Tk.1 159 i = T.1 159 i) → am_P xs 3 la_hourGoes 65 [some (.ref b), some (.int (nI kn)), some (.int (nI k))] [] m (am_qn (fun m' => q_Rl b (q_Tu (q_go (q_ws T) kn r k Tk) 153 11 ((q_go (q_ws T) kn r k Tk).1 153 11 + 1)) m' ∧ q_Fw b m0 m')) := by
  intro r
  induction r with
  | zero =>
    intro k hk Tk m hR hF hB hn h57 h59
    have hb1 := q_isL_lt hb
    have b0 : Tk.1 153 0 < 7 := hB 153 0
    have hq5 := q_ws_lt T k
    refine w_iload_n (pc' := 66) rfl rfl rfl ?_
    refine w_aload_n (pc' := 67) rfl rfl rfl rfl ?_
    refine w_getI (pc' := 70) rfl rfl rfl (shL hb) rfl ?_
    have b1 : Tk.1 153 0 < 7 := hB 153 (0)
    rw [show m.1 b 5 = nI (Tk.1 153 0) from hR.1]
    refine w_ic_ge (t := 111) (pc' := 73) rfl (by decide) rfl (fun h70 => ?_) (fun h70 => ?_)
    · have g2 : (Tk.1 153 0) ≤ k := (nI_leI (a := (Tk.1 153 0)) (b := k) (by omega) (by omega)).mp h70
      refine w_aload_n (pc' := 112) rfl rfl rfl rfl ?_
      refine w_dup (pc' := 113) rfl rfl rfl ?_
      refine w_getI (pc' := 116) rfl rfl rfl (shL hb) rfl ?_
      rw [show m.1 b 2 = nI (Tk.1 153 11) from hR.2.2.1]
      refine w_iconst (pc' := 117) 1 rfl rfl ic_1 ?_
      refine w_iadd (pc' := 118) rfl rfl ?_
      rw [show nI ((Tk.1 153 11)) + (1 : Int32) = nI ((Tk.1 153 11) + 1) from nI_add _ _]
      refine w_putI (pc' := 121) rfl rfl rfl (shL hb) rfl rfl rfl ?_
      refine w_any (fun q => q_Rl b (q_Tu Tk 153 (11) ((Tk.1 153 11) + 1)) q ∧ q_Fw b m0 q) ⟨hR.n (x := (Tk.1 153 11) + 1) (by omega), hF.u (by omega)⟩ (fun m1 hm1 => ?_)
      obtain ⟨hR_1, hF_1⟩ := hm1
      have hnn1 : (q_Tu Tk 153 (11) ((Tk.1 153 11) + 1)).1 153 0 = Tk.1 153 0 := q_Tu_ne (by omega)
      refine w_vret rfl rfl ?_
      exact ⟨rfl, hR_1, hF_1⟩
    · have g3 : ¬ (Tk.1 153 0) ≤ k := fun q => h70 ((nI_leI (a := (Tk.1 153 0)) (b := k) (by omega) (by omega)).mpr q)
      omega
  | succ r ih =>
    intro k hk Tk m hR hF hB hn h57 h59
    have hb1 := q_isL_lt hb
    have b0 : Tk.1 153 0 < 7 := hB 153 0
    have hq5 := q_ws_lt T k
    refine w_iload_n (pc' := 66) rfl rfl rfl ?_
    refine w_aload_n (pc' := 67) rfl rfl rfl rfl ?_
    refine w_getI (pc' := 70) rfl rfl rfl (shL hb) rfl ?_
    have b1 : Tk.1 153 0 < 7 := hB 153 (0)
    rw [show m.1 b 5 = nI (Tk.1 153 0) from hR.1]
    refine w_ic_ge (t := 111) (pc' := 73) rfl (by decide) rfl (fun h70 => ?_) (fun h70 => ?_)
    · have g2 : (Tk.1 153 0) ≤ k := (nI_leI (a := (Tk.1 153 0)) (b := k) (by omega) (by omega)).mp h70
      omega
    · have g3 : ¬ (Tk.1 153 0) ≤ k := fun q => h70 ((nI_leI (a := (Tk.1 153 0)) (b := k) (by omega) (by omega)).mpr q)
      refine w_iload_n (pc' := 74) rfl rfl rfl ?_
      refine w_bipush (pc' := 76) 6 rfl rfl bp_6 ?_
      refine w_ic_ge (t := 111) (pc' := 79) rfl (by decide) rfl (fun h76 => ?_) (fun h76 => ?_)
      · have g4 : 6 ≤ k := (nI_leI (a := 6) (b := k) (by omega) (by omega)).mp h76
        omega
      · have g5 : ¬ 6 ≤ k := fun q => h76 ((nI_leI (a := 6) (b := k) (by omega) (by omega)).mpr q)
        refine w_aload_n (pc' := 80) rfl rfl rfl rfl ?_
        refine w_getC (pc' := 83) rfl rfl rfl (shL hb) rfl ?_
        refine w_iload_n (pc' := 84) rfl rfl rfl ?_
        refine w_iald (j := (k)) (pc' := 85) rfl rfl (shLw hb) rfl (by omega) (by decide) ?_
        rw [show m.1 (b + 3) k = nI (q_ws T k) - 1 from by rw [hF.1 (b + 3) (by omega)]; exact hW k (by omega)]
        refine w_if_lt (t := 105) (pc' := 88) rfl (by decide) rfl (fun h85 => ?_) (fun h85 => ?_)
        · have g6 : ¬ 0 < (q_ws T k) := fun q => Int32.not_lt.mpr ((nI_p1 (x := (q_ws T k)) (by omega)).mpr q) h85
          refine w_iinc2 (pc' := 108) 1 rfl rfl ic_1 rfl ?_
          rw [nI_inc]
          refine w_goto (pc' := 65) rfl (by decide) ?_
          rw [show q_go (q_ws T) kn (r + 1) k Tk = q_go (q_ws T) kn r (k + 1) Tk from congrArg (q_go (q_ws T) kn r (k + 1)) (if_pos (by omega))]
          exact ih (k + 1) (by omega) Tk m hR hF hB hn (fun i hi => h57 i (by omega)) (fun i hi => h59 i (by omega))
        · have g7 : 0 < (q_ws T k) := (nI_p1 (x := (q_ws T k)) (by omega)).mp (Int32.not_lt.mp h85)
          obtain ⟨a, ha⟩ : ∃ a, q_ws T k = a + 1 := ⟨q_ws T k - 1, by omega⟩
          have hs8 := q_ws_1 ha
          have b157 : T.1 157 k < 9 := hB0 157 k
          have e57 : Tk.1 157 k = T.1 157 k := h57 k (by omega)
          have e59 : Tk.1 159 k = T.1 159 k := h59 k (by omega)
          have hd9 := hd k
          refine id ?_
          · refine w_aload_n (pc' := 89) rfl rfl rfl rfl ?_
            refine w_aload_n (pc' := 90) rfl rfl rfl rfl ?_
            refine w_getC (pc' := 93) rfl rfl rfl (shL hb) rfl ?_
            refine w_iload_n (pc' := 94) rfl rfl rfl ?_
            refine w_aald (j := k) (a := (b + 6 + 4 * k)) (pc' := 95) rfl rfl (shLd hb) rfl (drD (b := b) (p := k) (by omega)) (by omega) (am_sh_lt (shD hb (p := k) (by omega))) ?_
            refine w_aload_n (pc' := 96) rfl rfl rfl rfl ?_
            refine w_getC (pc' := 99) rfl rfl rfl (shL hb) rfl ?_
            refine w_iload_n (pc' := 100) rfl rfl rfl ?_
            refine w_iald (j := (k)) (pc' := 101) rfl rfl (shLw hb) rfl (by omega) (by decide) ?_
            rw [show m.1 (b + 3) k = nI a from by rw [hF.1 (b + 3) (by omega), hW k (by omega), ha]; exact nI_pred a]
            refine w_iload_n (pc' := 102) rfl rfl rfl ?_
            refine w_cV3n (pc' := 105) (v_la_steps xs hb hR hB (p := k) (a := a) (kn := kn) (by omega) (by omega) (by omega) (by omega) hkn) (by decide) rfl rfl rfl (Nat.le_of_ble_eq_true rfl) (shL hb) rfl (fun m1 hm' => ?_)
            obtain ⟨hR_1, hF_1⟩ := hm'
            have hF_1 := hF.tr hF_1
            refine w_iinc2 (pc' := 108) 1 rfl rfl ic_1 rfl ?_
            rw [nI_inc]
            refine w_goto (pc' := 65) rfl (by decide) ?_
            rw [show q_go (q_ws T) kn (r + 1) k Tk = q_go (q_ws T) kn r (k + 1) (f_gb Tk k a kn) from congrArg (q_go (q_ws T) kn r (k + 1)) ((if_neg (by omega)).trans (congrArg (fun z => f_gb Tk k z kn) (by omega)))]
            exact ih (k + 1) (by omega) (f_gb Tk k a kn) m1 hR_1 hF_1 (f_gb_Bd hB (by omega) (by omega) (by omega)) ((f_gb_o (by omega) (by omega) (by omega) (by omega) (by omega) (by omega)).trans hn) (fun i hi => (f_gb_o (by omega) (by omega) (by omega) (by omega) (by omega) (by omega)).trans (h57 i (by omega))) (fun i hi => (f_gb_o (by omega) (by omega) (by omega) (by omega) (by omega) (by omega)).trans (h59 i (by omega)))
set_option maxRecDepth 100000 in
set_option maxHeartbeats 4000000 in
theorem v_la_hourGoes (xs : List Int32) {b : Nat} (hb : q_isL b) {T : q_T} {m : am_Mm} (hR : q_Rl b T m) (hB : q_Bd T) (hO : q_Bo T) (hV : q_Bv T) (hl6 : T.2.1.length ≤ 6) (hh : T.1 153 11 < 20000) (hRo : q_Ro T m) (hd : ∀ i, T.1 159 i < 100000) : am_V xs 6 44 [.ref b] m (am_qn (fun m' => q_Rl b (f_gh T) m' ∧ q_Fl b m m')) := by
  have hb1 := q_isL_lt hb
  have hn0 : T.1 153 0 < 7 := hB 153 0
  refine am_V_of ky_44 (Nat.le_of_ble_eq_true rfl) ?_
  show am_P xs 5 la_hourGoes 0 [some (.ref b), none, none] [] m _
  refine w_iconst (pc' := 1) 0 rfl rfl ic_0 ?_
  refine w_ist1 (pc' := 2) rfl rfl rfl ?_
  have hkl := f_know_lt hO
  refine lp_ch1 xs hb hB hO hV hl6 hh hRo (fun mz hR_0 hF_0 hw => ?_) (T.1 153 0) 0 (by omega) m hR q_Fl.rf (fun i hi => absurd hi (by omega))
  have hRo := hRo.fl hF_0 (by omega) hl6
  refine w_aload_n (pc' := 59) rfl rfl rfl rfl ?_
  refine w_cV0i (pc' := 62) (v_la_know xs hb hR_0 hB hO hRo hl6) (by decide) rfl rfl rfl (Nat.le_of_ble_eq_true rfl) (shL hb) rfl (fun m' hm' => ?_)
  rw [show m' = mz from hm']
  clear hm' m'
  refine w_ist1 (pc' := 63) rfl rfl rfl ?_
  refine w_iconst (pc' := 64) 0 rfl rfl ic_0 ?_
  refine w_ist2 (pc' := 65) rfl rfl rfl ?_
  have e0 := lp_ch2 xs hb hB (kn := f_know T) (by omega) hw hd (T.1 153 0) 0 (by omega) T mz hR_0 q_Fw.rf hB rfl (fun _ _ => rfl) (fun _ _ => rfl)
  exact (e0.mono (Q' := am_qn (fun m' => q_Rl b (f_gh T) m' ∧ q_Fl b m m')) (fun v m' q => ⟨q.1, q.2.1, hF_0.tr q.2.2.Fl⟩)).up (by decide)
theorem f_ag_gs : ∀ (r k : Nat) (T : q_T), agq T r k = false → ∀ i, k ≤ i → i < k + r → q_gs T i = false := by
  intro r
  induction r with
  | zero => exact fun _ _ _ i h1 h2 => by omega
  | succ r ih =>
    intro k T h i h1 h2
    rw [agq] at h
    obtain ⟨h3, h4⟩ := Bool.or_eq_false_iff.mp h
    by_cases e : i = k
    · subst e
      exact h3
    · exact ih (k + 1) T h4 i (by omega) (by omega)
theorem q_go_st {W : Nat → Nat} {kn : Nat} : ∀ (r k : Nat) (T : q_T), (∀ i, k ≤ i → i < k + r → W i = 0) → q_go W kn r k T = T := by
  intro r
  induction r with
  | zero => exact fun _ _ _ => rfl
  | succ r ih =>
    intro k T h
    rw [q_go, if_pos (h k (by omega) (by omega))]
    exact ih (k + 1) T (fun i h1 h2 => h i (by omega) (by omega))
/-- where nobody goes an HOUR is but an HOUR -/
theorem f_gh_st {T : q_T} (hB : q_Bd T) (h : f_ag T = false) : f_gh T = q_Tu T 153 11 (T.1 153 11 + 1) := by
  have e : q_ge T = T := q_go_st _ _ _ (fun i h1 h2 => by
    have hg := of_decide_eq_false (f_ag_gs _ _ _ h i h1 h2)
    have b1 : T.1 158 i < 2 := hB 158 i
    have b2 : T.1 157 i < 9 := hB 157 i
    exact if_pos (by omega))
  unfold f_gh
  rw [e]
theorem agq_hr (x : Nat) (T : q_T) : ∀ r k, agq (q_Tu T 153 11 x) r k = agq T r k := by
  intro r
  induction r with
  | zero => exact fun _ => rfl
  | succ r ih =>
    intro k
    rw [agq, agq, ih]
    rfl
theorem f_gn_st : ∀ (r : Nat) (T : q_T) (h0 : Nat), q_Y h0 T → h0 + r ≤ 10000 → f_ag T = false → f_gn r T = q_Tu T 153 11 (T.1 153 11 + r) := by
  intro r
  induction r with
  | zero => exact fun T _ _ _ _ => (q_T1 rfl).symm
  | succ r ih =>
    intro T h0 hY hh h
    have e := f_gh_st hY.1 h
    have hY2 := f_gh_Y hY (by omega)
    rw [f_gn]
    rw [e] at hY2 ⊢
    have h2 : f_ag (q_Tu T 153 11 (T.1 153 11 + 1)) = false := (agq_hr _ T _ _).trans h
    rw [ih _ (h0 + 1) hY2 (by omega) h2, q_TT, q_Tu_eq]
    congr 1
    omega
theorem q_Ro.fl2 {b : Nat} {T T' : q_T} {m m' : am_Mm} (h : q_Ro T m) (hf : q_Fl b m m') (hT : T'.2 = T.2) (hb : b + 30 ≤ 123) (hl : T'.2.1.length ≤ 6) : q_Ro T' m' := h.eq (fun c c1 c2 => hf.1 c (by omega)) (by rw [hT]) (by rw [← hT]; exact hl)
set_option maxRecDepth 100000 in
set_option maxHeartbeats 4000000 in
theorem lp_hoursGo (xs : List Int32) {b : Nat} (hb : q_isL b) {T0 : q_T} {m0 : am_Mm} {n : Nat} (hn : n < 2000) (hRo0 : q_Ro T0 m0) : ∀ (r k : Nat), k + r = n → ∀ (T : q_T) (m : am_Mm) (h0 : Nat), q_Rl b T m → q_Fl b m0 m → q_Y h0 T → T.2 = T0.2 → T.2.1.length ≤ 6 → h0 + r ≤ 1000 → am_P xs 6 la_hoursGo 2 [some (.ref b), some (.int (nI n)), some (.int (nI k))] [] m (am_qn (fun m' => q_Rl b (f_gn r T) m' ∧ q_Fl b m0 m')) := by
  intro r
  induction r with
  | zero =>
    intro k hk T m h0 hR hF hY hT hl6 hr
    have hb1 := q_isL_lt hb
    have hB := hY.1
    refine w_iload_n (pc' := 3) rfl rfl rfl ?_
    refine w_iload_n (pc' := 4) rfl rfl rfl ?_
    refine w_ic_ge (t := 37) (pc' := 7) rfl (by decide) rfl (fun h4 => ?_) (fun h4 => ?_)
    · have g1 : n ≤ k := (nI_leI (a := n) (b := k) (by omega) (by omega)).mp h4
      refine w_vret rfl rfl ?_
      exact ⟨rfl, hR, hF⟩
    · have g2 : ¬ n ≤ k := fun q => h4 ((nI_leI (a := n) (b := k) (by omega) (by omega)).mpr q)
      omega
  | succ r ih =>
    intro k hk T m h0 hR hF hY hT hl6 hr
    have hb1 := q_isL_lt hb
    have hB := hY.1
    refine w_iload_n (pc' := 3) rfl rfl rfl ?_
    refine w_iload_n (pc' := 4) rfl rfl rfl ?_
    refine w_ic_ge (t := 37) (pc' := 7) rfl (by decide) rfl (fun h4 => ?_) (fun h4 => ?_)
    · have g1 : n ≤ k := (nI_leI (a := n) (b := k) (by omega) (by omega)).mp h4
      omega
    · have g2 : ¬ n ≤ k := fun q => h4 ((nI_leI (a := n) (b := k) (by omega) (by omega)).mpr q)
      refine w_aload_n (pc' := 8) rfl rfl rfl rfl ?_
      refine w_cV0i (pc' := 11) (v_la_anyGoes xs hb hR hY.1) (by decide) rfl rfl rfl (Nat.le_of_ble_eq_true rfl) (shL hb) rfl (fun m' hm' => ?_)
      rw [show m' = m from hm']
      clear hm' m'
      refine w_if_ne (t := 27) (pc' := 14) rfl (by decide) rfl (fun h11 => ?_) (fun h11 => ?_)
      · have hb3 : f_ag T = true := bB_n0.mp h11
        refine w_aload_n (pc' := 28) rfl rfl rfl rfl ?_
        refine w_cV0n (pc' := 31) (v_la_hourGoes xs hb hR hY.1 hY.2.1 hY.2.2.1 hl6 (by have := hY.2.2.2.1; omega) (hRo0.fl2 hF hT (by omega) hl6) (fun i => by have := hY.2.2.2.2 i; omega)) (by decide) rfl rfl rfl (Nat.le_of_ble_eq_true rfl) (shL hb) rfl (fun m1 hm' => ?_)
        obtain ⟨hR_1, hF_1⟩ := hm'
        have hF_1 := hF.tr hF_1
        refine w_iinc2 (pc' := 34) 1 rfl rfl ic_1 rfl ?_
        rw [nI_inc]
        refine w_goto (pc' := 2) rfl (by decide) ?_
        exact ih (k + 1) (by omega) (f_gh T) m1 (h0 + 1) hR_1 hF_1 (f_gh_Y hY (by omega)) ((f_gh_As hY (by omega)).1.trans hT) (by rw [(f_gh_As hY (by omega)).1]; exact hl6) (by omega)
      · have hb4 : f_ag T = false := bB_0.mp h11
        refine w_aload_n (pc' := 15) rfl rfl rfl rfl ?_
        refine w_dup (pc' := 16) rfl rfl rfl ?_
        refine w_getI (pc' := 19) rfl rfl rfl (shL hb) rfl ?_
        rw [show m.1 b 2 = nI (T.1 153 11) from hR.2.2.1]
        refine w_iload_n (pc' := 20) rfl rfl rfl ?_
        refine w_iload_n (pc' := 21) rfl rfl rfl ?_
        refine w_isub (pc' := 22) rfl rfl ?_
        rw [show nI (n) - nI (k) = nI (n - k) from nI_subN (a := n) (b := k) (by omega)]
        refine w_iadd (pc' := 23) rfl rfl ?_
        rw [show nI ((T.1 153 11)) + nI ((n - k)) = nI ((T.1 153 11) + (n - k)) from nI_add _ _]
        refine w_putI (pc' := 26) rfl rfl rfl (shL hb) rfl rfl rfl ?_
        refine w_any (fun q => q_Rl b (q_Tu T 153 (11) ((T.1 153 11) + (n - k))) q ∧ q_Fl b m0 q) ⟨hR.n (x := (T.1 153 11) + (n - k)) (by omega), hF.u (by omega)⟩ (fun m2 hm2 => ?_)
        obtain ⟨hR_2, hF_2⟩ := hm2
        have hnn2 : (q_Tu T 153 (11) ((T.1 153 11) + (n - k))).1 153 0 = T.1 153 0 := q_Tu_ne (by omega)
        refine w_vret rfl rfl ?_
        rw [f_gn_st (r + 1) T h0 hY (by omega) hb4]
        have e9 : n - k = r + 1 := by omega
        rw [e9] at hR_2
        exact ⟨rfl, hR_2, hF_2⟩
set_option maxRecDepth 100000 in
set_option maxHeartbeats 4000000 in
theorem v_la_hoursGo (xs : List Int32) {b : Nat} (hb : q_isL b) {T : q_T} {m : am_Mm} {n h0 : Nat} (hR : q_Rl b T m) (hY : q_Y h0 T) (hRo : q_Ro T m) (hl6 : T.2.1.length ≤ 6) (hn : h0 + n ≤ 1000) : am_V xs 7 41 [.ref b, .int (nI n)] m (am_qn (fun m' => q_Rl b (f_gn n T) m' ∧ q_Fl b m m')) := by
  refine am_V_of ky_41 (Nat.le_of_ble_eq_true rfl) ?_
  show am_P xs 6 la_hoursGo 0 [some (.ref b), some (.int (nI n)), none] [] m _
  refine w_iconst (pc' := 1) 0 rfl rfl ic_0 ?_
  refine w_ist2 (pc' := 2) rfl rfl rfl ?_
  exact lp_hoursGo xs hb (by omega) hRo n 0 (by omega) T m h0 hR q_Fl.rf hY rfl hl6 hn
