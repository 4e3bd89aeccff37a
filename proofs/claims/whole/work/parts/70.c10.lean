set_option maxRecDepth 100000 in
set_option maxHeartbeats 4000000 in
theorem lp_copy (xs : List Int32) {b c : Nat} (hb : q_isL b) (hc : q_isL c) (hbc : b + 30 ≤ c ∨ c + 30 ≤ b) {T : q_T} {m0 : am_Mm} (hR : q_Rl b T m0) (hB : q_Bd T) : ∀ (r k : Nat), k + r = T.1 153 0 → ∀ (q : am_Mm), q_Fl c m0 q → (∀ i, i < 16 → q.1 (c + 1) i = m0.1 (b + 1) i) → q.1 c 1 = nI (T.1 153 10) → q.1 c 2 = nI (T.1 153 11) → q.1 c 3 = m0.1 b 3 → q.1 c 5 = nI (T.1 153 0) → (∀ p, p < k → q_Rd (c + 6 + 4 * p) p T q) → am_P xs 2 la_copyFrom 49 [some (.ref c), some (.ref b), some (.int (nI k))] [] q (am_qn (fun m' => q_Rl c T m' ∧ q_Fl c m0 m')) := by
  intro r
  induction r with
  | zero =>
    intro k hk q hF f1 f2 f3 f4 f5 hd
    have hb1 := q_isL_lt hb
    have hc1 := q_isL_lt hc
    have hn0 : T.1 153 0 < 7 := hB 153 0
    have hRq : q_Rl b T q := hR.eq (fun d d1 d2 _ => hF.1 d (by omega)) (fun _ _ _ => rfl) (by omega)
    refine w_iload_n (pc' := 50) rfl rfl rfl ?_
    refine w_aload_n (pc' := 51) rfl rfl rfl rfl ?_
    refine w_getI (pc' := 54) rfl rfl rfl (shL hc) rfl ?_
    rw [f5]
    refine w_ic_ge (t := 84) (pc' := 57) rfl (by decide) rfl (fun h54 => ?_) (fun h54 => ?_)
    · have g1 : (T.1 153 0) ≤ k := (nI_leI (a := (T.1 153 0)) (b := k) (by omega) (by omega)).mp h54
      refine w_vret rfl rfl ?_
      obtain ⟨g1, g2, g3, g4, g5, g6⟩ := hR
      exact ⟨rfl, ⟨f5, f2, f3, f4.trans g4, fun i hi => (f1 i hi).trans (g5 i hi), fun p hp => hd p (by omega)⟩, hF⟩
    · have g2 : ¬ (T.1 153 0) ≤ k := fun q => h54 ((nI_leI (a := (T.1 153 0)) (b := k) (by omega) (by omega)).mpr q)
      omega
  | succ r ih =>
    intro k hk q hF f1 f2 f3 f4 f5 hd
    have hb1 := q_isL_lt hb
    have hc1 := q_isL_lt hc
    have hn0 : T.1 153 0 < 7 := hB 153 0
    have hRq : q_Rl b T q := hR.eq (fun d d1 d2 _ => hF.1 d (by omega)) (fun _ _ _ => rfl) (by omega)
    refine w_iload_n (pc' := 50) rfl rfl rfl ?_
    refine w_aload_n (pc' := 51) rfl rfl rfl rfl ?_
    refine w_getI (pc' := 54) rfl rfl rfl (shL hc) rfl ?_
    rw [f5]
    refine w_ic_ge (t := 84) (pc' := 57) rfl (by decide) rfl (fun h54 => ?_) (fun h54 => ?_)
    · have g1 : (T.1 153 0) ≤ k := (nI_leI (a := (T.1 153 0)) (b := k) (by omega) (by omega)).mp h54
      omega
    · have g2 : ¬ (T.1 153 0) ≤ k := fun q => h54 ((nI_leI (a := (T.1 153 0)) (b := k) (by omega) (by omega)).mpr q)
      refine w_iload_n (pc' := 58) rfl rfl rfl ?_
      refine w_bipush (pc' := 60) 6 rfl rfl bp_6 ?_
      refine w_ic_ge (t := 84) (pc' := 63) rfl (by decide) rfl (fun h60 => ?_) (fun h60 => ?_)
      · have g3 : 6 ≤ k := (nI_leI (a := 6) (b := k) (by omega) (by omega)).mp h60
        omega
      · have g4 : ¬ 6 ≤ k := fun q => h60 ((nI_leI (a := 6) (b := k) (by omega) (by omega)).mpr q)
        refine w_aload_n (pc' := 64) rfl rfl rfl rfl ?_
        refine w_getC (pc' := 67) rfl rfl rfl (shL hc) rfl ?_
        refine w_iload_n (pc' := 68) rfl rfl rfl ?_
        refine w_aald (j := k) (a := (c + 6 + 4 * k)) (pc' := 69) rfl rfl (shLd hc) rfl (drD (b := c) (p := k) (by omega)) (by omega) (am_sh_lt (shD hc (p := k) (by omega))) ?_
        refine w_aload_n (pc' := 70) rfl rfl rfl rfl ?_
        refine w_getC (pc' := 73) rfl rfl rfl (shL hb) rfl ?_
        refine w_iload_n (pc' := 74) rfl rfl rfl ?_
        refine w_aald (j := k) (a := (b + 6 + 4 * k)) (pc' := 75) rfl rfl (shLd hb) rfl (drD (b := b) (p := k) (by omega)) (by omega) (am_sh_lt (shD hb (p := k) (by omega))) ?_
        refine w_cV1n (pc' := 78) (v_dr_copyFrom xs hb hc hbc hRq hB (p := k) (by omega)) (by decide) rfl rfl rfl (Nat.le_of_ble_eq_true rfl) (shD hc (p := k) (by omega)) rfl (fun m1 hm' => ?_)
        obtain ⟨hd_1, hD_1⟩ := hm'
        refine w_iinc2 (pc' := 81) 1 rfl rfl ic_1 rfl ?_
        rw [nI_inc]
        refine w_goto (pc' := 49) rfl (by decide) ?_
        refine ih (k + 1) (by omega) m1 ⟨fun d hd => (hD_1.1 d (by omega)).trans (hF.1 d hd), hD_1.2.trans hF.2⟩ (fun i hi => (congrFun (hD_1.1 (c + 1) (by omega)) i).trans (f1 i hi)) ((congrFun (hD_1.1 c (by omega)) 1).trans f2) ((congrFun (hD_1.1 c (by omega)) 2).trans f3) ((congrFun (hD_1.1 c (by omega)) 3).trans f4) ((congrFun (hD_1.1 c (by omega)) 5).trans f5) (fun p hp => ?_)
        by_cases e : p = k
        · subst e
          exact hd_1
        · exact (hd p (by omega)).eq (fun d d1 d2 => hD_1.1 d (by omega)) (fun _ _ _ _ => rfl)
set_option maxRecDepth 100000 in
set_option maxHeartbeats 4000000 in
theorem v_la_copyFrom (xs : List Int32) {b c : Nat} (hb : q_isL b) (hc : q_isL c) (hbc : b + 30 ≤ c ∨ c + 30 ≤ b) {T : q_T} {m : am_Mm} (hR : q_Rl b T m) (hB : q_Bd T) : am_V xs 3 34 [.ref c, .ref b] m (am_qn (fun m' => q_Rl c T m' ∧ q_Fl c m m')) := by
  have hb1 := q_isL_lt hb
  have hc1 := q_isL_lt hc
  have hn0 : T.1 153 0 < 7 := hB 153 0
  refine am_V_of ky_34 (Nat.le_of_ble_eq_true rfl) ?_
  show am_P xs 2 la_copyFrom 0 [some (.ref c), some (.ref b), none] [] m _
  refine w_aload_n (pc' := 1) rfl rfl rfl rfl ?_
  refine w_getC (pc' := 4) rfl rfl rfl (shL hb) rfl ?_
  refine w_iconst (pc' := 5) 0 rfl rfl ic_0 ?_
  refine w_aload_n (pc' := 6) rfl rfl rfl rfl ?_
  refine w_getC (pc' := 9) rfl rfl rfl (shL hc) rfl ?_
  refine w_iconst (pc' := 10) 0 rfl rfl ic_0 ?_
  refine w_bipush (pc' := 12) 16 rfl rfl bp_16 ?_
  refine w_acp (n := 16) (dp := 0) (sp := 0) (pc' := 15) rfl rfl rfl (Nat.le_of_ble_eq_true rfl) (shLm hb) (shLm hc) rfl rfl rfl (by omega) (by omega) (by decide) (by decide) ?_
  refine w_any (fun q => q_Fl c m q ∧ ((∀ i, i < 16 → q.1 (c + 1) i = m.1 (b + 1) i))) ⟨⟨fun d hd => by
    funext k
    exact if_neg (fun q => by omega), rfl⟩, (fun i hi => am_cp_0 hi)⟩ (fun m1 hm1 => ?_)
  obtain ⟨hF_1, f1⟩ := hm1
  have hR_1 : q_Rl b T m1 := hR.eq (fun d d1 d2 _ => hF_1.1 d (by omega)) (fun _ _ _ => rfl) (by omega)
  refine w_aload_n (pc' := 16) rfl rfl rfl rfl ?_
  refine w_aload_n (pc' := 17) rfl rfl rfl rfl ?_
  refine w_getI (pc' := 20) rfl rfl rfl (shL hb) rfl ?_
  have b1 : T.1 153 10 < 65536 := hB 153 (10)
  rw [show m1.1 b 1 = nI (T.1 153 10) from hR_1.2.1]
  refine w_putI (pc' := 23) rfl rfl rfl (shL hc) rfl rfl rfl ?_
  refine w_any (fun q => q_Fl c m q ∧ ((∀ i, i < 16 → q.1 (c + 1) i = m.1 (b + 1) i) ∧ (q.1 c 1 = nI (T.1 153 10)))) ⟨hF_1.u (by omega), (fun i hi => (am_u_ne (by omega)).trans (f1 i hi)), am_u_eq⟩ (fun m2 hm2 => ?_)
  obtain ⟨hF_2, f1, f2⟩ := hm2
  have hR_2 : q_Rl b T m2 := hR.eq (fun d d1 d2 _ => hF_2.1 d (by omega)) (fun _ _ _ => rfl) (by omega)
  refine w_aload_n (pc' := 24) rfl rfl rfl rfl ?_
  refine w_aload_n (pc' := 25) rfl rfl rfl rfl ?_
  refine w_getI (pc' := 28) rfl rfl rfl (shL hb) rfl ?_
  rw [show m2.1 b 2 = nI (T.1 153 11) from hR_2.2.2.1]
  refine w_putI (pc' := 31) rfl rfl rfl (shL hc) rfl rfl rfl ?_
  refine w_any (fun q => q_Fl c m q ∧ ((∀ i, i < 16 → q.1 (c + 1) i = m.1 (b + 1) i) ∧ (q.1 c 1 = nI (T.1 153 10) ∧ (q.1 c 2 = nI (T.1 153 11))))) ⟨hF_2.u (by omega), (fun i hi => (am_u_ne (by omega)).trans (f1 i hi)), (am_u_ne (by omega)).trans f2, am_u_eq⟩ (fun m3 hm3 => ?_)
  obtain ⟨hF_3, f1, f2, f3⟩ := hm3
  have hR_3 : q_Rl b T m3 := hR.eq (fun d d1 d2 _ => hF_3.1 d (by omega)) (fun _ _ _ => rfl) (by omega)
  refine w_aload_n (pc' := 32) rfl rfl rfl rfl ?_
  refine w_aload_n (pc' := 33) rfl rfl rfl rfl ?_
  refine w_getM (pc' := 36) rfl rfl rfl (shL hb) rfl ?_
  refine w_putM (pc' := 39) (m3.1 b 3) rfl rfl rfl (shL hc) rfl rfl rfl rfl ?_
  refine w_any (fun q => q_Fl c m q ∧ ((∀ i, i < 16 → q.1 (c + 1) i = m.1 (b + 1) i) ∧ (q.1 c 1 = nI (T.1 153 10) ∧ (q.1 c 2 = nI (T.1 153 11) ∧ (q.1 c 3 = m.1 b 3))))) ⟨hF_3.u (by omega), (fun i hi => (am_u_ne (by omega)).trans (f1 i hi)), (am_u_ne (by omega)).trans f2, (am_u_ne (by omega)).trans f3, am_u_eq.trans (congrFun (hF_3.1 b (by omega)) 3)⟩ (fun m4 hm4 => ?_)
  obtain ⟨hF_4, f1, f2, f3, f4⟩ := hm4
  have hR_4 : q_Rl b T m4 := hR.eq (fun d d1 d2 _ => hF_4.1 d (by omega)) (fun _ _ _ => rfl) (by omega)
  refine w_aload_n (pc' := 40) rfl rfl rfl rfl ?_
  refine w_aload_n (pc' := 41) rfl rfl rfl rfl ?_
  refine w_getI (pc' := 44) rfl rfl rfl (shL hb) rfl ?_
  have b2 : T.1 153 0 < 7 := hB 153 (0)
  rw [show m4.1 b 5 = nI (T.1 153 0) from hR_4.1]
  refine w_putI (pc' := 47) rfl rfl rfl (shL hc) rfl rfl rfl ?_
  refine w_any (fun q => q_Fl c m q ∧ ((∀ i, i < 16 → q.1 (c + 1) i = m.1 (b + 1) i) ∧ (q.1 c 1 = nI (T.1 153 10) ∧ (q.1 c 2 = nI (T.1 153 11) ∧ (q.1 c 3 = m.1 b 3 ∧ (q.1 c 5 = nI (T.1 153 0))))))) ⟨hF_4.u (by omega), (fun i hi => (am_u_ne (by omega)).trans (f1 i hi)), (am_u_ne (by omega)).trans f2, (am_u_ne (by omega)).trans f3, (am_u_ne (by omega)).trans f4, am_u_eq⟩ (fun m5 hm5 => ?_)
  obtain ⟨hF_5, f1, f2, f3, f4, f5⟩ := hm5
  have hR_5 : q_Rl b T m5 := hR.eq (fun d d1 d2 _ => hF_5.1 d (by omega)) (fun _ _ _ => rfl) (by omega)
  refine w_iconst (pc' := 48) 0 rfl rfl ic_0 ?_
  refine w_ist2 (pc' := 49) rfl rfl rfl ?_
  exact lp_copy xs hb hc hbc hR hB (T.1 153 0) 0 (by omega) m5 hF_5 f1 f2 f3 f4 f5 (fun p hp => absurd hp (by omega))
set_option maxRecDepth 100000 in
set_option maxHeartbeats 4000000 in
theorem lp_begins (xs : List Int32) {b p x y z : Nat} (hb : q_isL b) (hp : p < 6) {m0 : am_Mm} : ∀ (r k : Nat), k + r = 4 → ∀ (q : am_Mm), q_Fd (b + 6 + 4 * p) m0 q → q.1 (b + 6 + 4 * p) 1 = nI x → q.1 (b + 6 + 4 * p) 2 = nI y → q.1 (b + 6 + 4 * p) 3 = nI z → q.1 (b + 6 + 4 * p) 4 = nI 0 → q.1 (b + 6 + 4 * p) 5 = nI 0 → q.1 (b + 6 + 4 * p) 6 = nI 0 → (∀ i, i < k → q.1 (b + 6 + 4 * p + 3) i = nI 0) → am_P xs 0 dr_begins 33 [some (.ref (b + 6 + 4 * p)), some (.int (nI x)), some (.int (nI y)), some (.int (nI z)), some (.int (nI k))] [] q (am_qn (fun q => q_Fd (b + 6 + 4 * p) m0 q ∧ (q.1 (b + 6 + 4 * p) 1 = nI x ∧ (q.1 (b + 6 + 4 * p) 2 = nI y ∧ (q.1 (b + 6 + 4 * p) 3 = nI z ∧ (q.1 (b + 6 + 4 * p) 4 = nI 0 ∧ (q.1 (b + 6 + 4 * p) 5 = nI 0 ∧ (q.1 (b + 6 + 4 * p) 6 = nI 0 ∧ (∀ i, i < 4 → q.1 (b + 6 + 4 * p + 3) i = nI 0))))))))) := by
  intro r
  induction r with
  | zero =>
    intro k hk q hD f1 f2 f3 f4 f5 f6 hA
    have hb1 := q_isL_lt hb
    refine w_iload (pc' := 35) rfl rfl rfl ?_
    refine w_iconst (pc' := 36) 4 rfl rfl ic_4 ?_
    refine w_ic_ge (t := 53) (pc' := 39) rfl (by decide) rfl (fun h36 => ?_) (fun h36 => ?_)
    · have g1 : 4 ≤ k := (nI_leI (a := 4) (b := k) (by omega) (by omega)).mp h36
      refine w_vret rfl rfl ?_
      obtain rfl : k = 4 := by omega
      exact ⟨rfl, hD, f1, f2, f3, f4, f5, f6, hA⟩
    · have g2 : ¬ 4 ≤ k := fun q => h36 ((nI_leI (a := 4) (b := k) (by omega) (by omega)).mpr q)
      omega
  | succ r ih =>
    intro k hk q hD f1 f2 f3 f4 f5 f6 hA
    have hb1 := q_isL_lt hb
    refine w_iload (pc' := 35) rfl rfl rfl ?_
    refine w_iconst (pc' := 36) 4 rfl rfl ic_4 ?_
    refine w_ic_ge (t := 53) (pc' := 39) rfl (by decide) rfl (fun h36 => ?_) (fun h36 => ?_)
    · have g1 : 4 ≤ k := (nI_leI (a := 4) (b := k) (by omega) (by omega)).mp h36
      omega
    · have g2 : ¬ 4 ≤ k := fun q => h36 ((nI_leI (a := 4) (b := k) (by omega) (by omega)).mpr q)
      refine w_aload_n (pc' := 40) rfl rfl rfl rfl ?_
      refine w_getC (pc' := 43) rfl rfl rfl (shD hb (p := p) hp) rfl ?_
      refine w_iload (pc' := 45) rfl rfl rfl ?_
      refine w_iconst (pc' := 46) 0 rfl rfl ic_0 ?_
      refine w_iast (j := (k)) (pc' := 47) rfl rfl (shDr hb (p := p) hp) rfl (by omega) (by decide) ?_
      refine w_any (fun q => q_Fd (b + 6 + 4 * p) m0 q ∧ (q.1 (b + 6 + 4 * p) 1 = nI x ∧ (q.1 (b + 6 + 4 * p) 2 = nI y ∧ (q.1 (b + 6 + 4 * p) 3 = nI z ∧ (q.1 (b + 6 + 4 * p) 4 = nI 0 ∧ (q.1 (b + 6 + 4 * p) 5 = nI 0 ∧ (q.1 (b + 6 + 4 * p) 6 = nI 0 ∧ ((∀ i, i < k + 1 → q.1 (b + 6 + 4 * p + 3) i = nI 0))))))))) ⟨hD.u (by omega), (am_u_ne (by omega)).trans f1, (am_u_ne (by omega)).trans f2, (am_u_ne (by omega)).trans f3, (am_u_ne (by omega)).trans f4, (am_u_ne (by omega)).trans f5, (am_u_ne (by omega)).trans f6, q_an (F := fun _ => 0) hA rfl⟩ (fun m1 hm1 => ?_)
      refine w_iinc4 (pc' := 50) 1 rfl rfl ic_1 rfl ?_
      rw [nI_inc]
      refine w_goto (pc' := 33) rfl (by decide) ?_
      obtain ⟨g0, g1, g2, g3, g4, g5, g6, g7⟩ := hm1
      exact ih (k + 1) (by omega) m1 g0 g1 g2 g3 g4 g5 g6 g7
set_option maxRecDepth 100000 in
set_option maxHeartbeats 4000000 in
theorem v_dr_begins (xs : List Int32) {b p x y z : Nat} (hb : q_isL b) (hp : p < 6) {m : am_Mm} : am_V xs 1 14 [.ref (b + 6 + 4 * p), .int (nI x), .int (nI y), .int (nI z)] m (am_qn (fun q => q_Fd (b + 6 + 4 * p) m q ∧ (q.1 (b + 6 + 4 * p) 1 = nI x ∧ (q.1 (b + 6 + 4 * p) 2 = nI y ∧ (q.1 (b + 6 + 4 * p) 3 = nI z ∧ (q.1 (b + 6 + 4 * p) 4 = nI 0 ∧ (q.1 (b + 6 + 4 * p) 5 = nI 0 ∧ (q.1 (b + 6 + 4 * p) 6 = nI 0 ∧ (∀ i, i < 4 → q.1 (b + 6 + 4 * p + 3) i = nI 0))))))))) := by
  have hb1 := q_isL_lt hb
  refine am_V_of ky_14 (Nat.le_of_ble_eq_true rfl) ?_
  show am_P xs 0 dr_begins 0 [some (.ref (b + 6 + 4 * p)), some (.int (nI x)), some (.int (nI y)), some (.int (nI z)), none] [] m _
  refine w_aload_n (pc' := 1) rfl rfl rfl rfl ?_
  refine w_iload_n (pc' := 2) rfl rfl rfl ?_
  refine w_putI (pc' := 5) rfl rfl rfl (shD hb (p := p) hp) rfl rfl rfl ?_
  refine w_any (fun q => q_Fd (b + 6 + 4 * p) m q ∧ (q.1 (b + 6 + 4 * p) 1 = nI x)) ⟨q_Fd.rf.u (by omega), am_u_eq⟩ (fun m1 hm1 => ?_)
  obtain ⟨hD_1, f1⟩ := hm1
  refine w_aload_n (pc' := 6) rfl rfl rfl rfl ?_
  refine w_iload_n (pc' := 7) rfl rfl rfl ?_
  refine w_putI (pc' := 10) rfl rfl rfl (shD hb (p := p) hp) rfl rfl rfl ?_
  refine w_any (fun q => q_Fd (b + 6 + 4 * p) m q ∧ (q.1 (b + 6 + 4 * p) 1 = nI x ∧ (q.1 (b + 6 + 4 * p) 2 = nI y))) ⟨hD_1.u (by omega), (am_u_ne (by omega)).trans f1, am_u_eq⟩ (fun m2 hm2 => ?_)
  obtain ⟨hD_2, f1, f2⟩ := hm2
  refine w_aload_n (pc' := 11) rfl rfl rfl rfl ?_
  refine w_iload_n (pc' := 12) rfl rfl rfl ?_
  refine w_putI (pc' := 15) rfl rfl rfl (shD hb (p := p) hp) rfl rfl rfl ?_
  refine w_any (fun q => q_Fd (b + 6 + 4 * p) m q ∧ (q.1 (b + 6 + 4 * p) 1 = nI x ∧ (q.1 (b + 6 + 4 * p) 2 = nI y ∧ (q.1 (b + 6 + 4 * p) 3 = nI z)))) ⟨hD_2.u (by omega), (am_u_ne (by omega)).trans f1, (am_u_ne (by omega)).trans f2, am_u_eq⟩ (fun m3 hm3 => ?_)
  obtain ⟨hD_3, f1, f2, f3⟩ := hm3
  refine w_aload_n (pc' := 16) rfl rfl rfl rfl ?_
  refine w_iconst (pc' := 17) 0 rfl rfl ic_0 ?_
  refine w_putI (pc' := 20) rfl rfl rfl (shD hb (p := p) hp) rfl rfl rfl ?_
  refine w_any (fun q => q_Fd (b + 6 + 4 * p) m q ∧ (q.1 (b + 6 + 4 * p) 1 = nI x ∧ (q.1 (b + 6 + 4 * p) 2 = nI y ∧ (q.1 (b + 6 + 4 * p) 3 = nI z ∧ (q.1 (b + 6 + 4 * p) 4 = nI 0))))) ⟨hD_3.u (by omega), (am_u_ne (by omega)).trans f1, (am_u_ne (by omega)).trans f2, (am_u_ne (by omega)).trans f3, am_u_eq⟩ (fun m4 hm4 => ?_)
  obtain ⟨hD_4, f1, f2, f3, f4⟩ := hm4
  refine w_aload_n (pc' := 21) rfl rfl rfl rfl ?_
  refine w_iconst (pc' := 22) 0 rfl rfl ic_0 ?_
  refine w_putI (pc' := 25) rfl rfl rfl (shD hb (p := p) hp) rfl rfl rfl ?_
  refine w_any (fun q => q_Fd (b + 6 + 4 * p) m q ∧ (q.1 (b + 6 + 4 * p) 1 = nI x ∧ (q.1 (b + 6 + 4 * p) 2 = nI y ∧ (q.1 (b + 6 + 4 * p) 3 = nI z ∧ (q.1 (b + 6 + 4 * p) 4 = nI 0 ∧ (q.1 (b + 6 + 4 * p) 5 = nI 0)))))) ⟨hD_4.u (by omega), (am_u_ne (by omega)).trans f1, (am_u_ne (by omega)).trans f2, (am_u_ne (by omega)).trans f3, (am_u_ne (by omega)).trans f4, am_u_eq⟩ (fun m5 hm5 => ?_)
  obtain ⟨hD_5, f1, f2, f3, f4, f5⟩ := hm5
  refine w_aload_n (pc' := 26) rfl rfl rfl rfl ?_
  refine w_iconst (pc' := 27) 0 rfl rfl ic_0 ?_
  refine w_putB (pc' := 30) rfl rfl rfl (shD hb (p := p) hp) rfl rfl (by decide) rfl ?_
  refine w_any (fun q => q_Fd (b + 6 + 4 * p) m q ∧ (q.1 (b + 6 + 4 * p) 1 = nI x ∧ (q.1 (b + 6 + 4 * p) 2 = nI y ∧ (q.1 (b + 6 + 4 * p) 3 = nI z ∧ (q.1 (b + 6 + 4 * p) 4 = nI 0 ∧ (q.1 (b + 6 + 4 * p) 5 = nI 0 ∧ (q.1 (b + 6 + 4 * p) 6 = nI 0))))))) ⟨hD_5.u (by omega), (am_u_ne (by omega)).trans f1, (am_u_ne (by omega)).trans f2, (am_u_ne (by omega)).trans f3, (am_u_ne (by omega)).trans f4, (am_u_ne (by omega)).trans f5, am_u_eq⟩ (fun m6 hm6 => ?_)
  obtain ⟨hD_6, f1, f2, f3, f4, f5, f6⟩ := hm6
  refine w_iconst (pc' := 31) 0 rfl rfl ic_0 ?_
  refine w_ist4 (pc' := 33) rfl rfl rfl ?_
  exact lp_begins xs hb hp 4 0 (by omega) m6 hD_6 f1 f2 f3 f4 f5 f6 (fun i hi => absurd hi (by omega))
def q_dT (T : q_T) (x y z : Nat) : q_T := (q_Tu (q_Tu (q_Tu (q_Tu (q_Tu (q_Tu (q_Tu (q_Tu (q_Tu (q_Tu (q_Tu T 154 (T.1 153 0) x) 155 (T.1 153 0) y) 156 (T.1 153 0) z) 157 (T.1 153 0) 0) 158 (T.1 153 0) 0) 159 (T.1 153 0) 0) 161 (4 * T.1 153 0 + 0) 0) 161 (4 * T.1 153 0 + 1) 0) 161 (4 * T.1 153 0 + 2) 0) 161 (4 * T.1 153 0 + 3) 0) 153 0 (T.1 153 0 + 1))
theorem q_dT_o {T : q_T} {x y z c k : Nat} (h1 : ¬ (154 ≤ c ∧ c ≤ 159 ∧ k = T.1 153 0)) (h2 : ¬ (c = 161 ∧ 4 * T.1 153 0 ≤ k ∧ k < 4 * T.1 153 0 + 4)) (h3 : ¬ (c = 153 ∧ k = 0)) : (q_dT T x y z).1 c k = T.1 c k := (q_Tu_ne (by omega)).trans ((q_Tu_ne (by omega)).trans ((q_Tu_ne (by omega)).trans ((q_Tu_ne (by omega)).trans ((q_Tu_ne (by omega)).trans ((q_Tu_ne (by omega)).trans ((q_Tu_ne (by omega)).trans ((q_Tu_ne (by omega)).trans ((q_Tu_ne (by omega)).trans ((q_Tu_ne (by omega)).trans (q_Tu_ne (by omega)))))))))))
theorem q_dT_0 {T : q_T} {x y z : Nat} : (q_dT T x y z).1 154 (T.1 153 0) = x := (q_Tu_ne (by omega)).trans ((q_Tu_ne (by omega)).trans ((q_Tu_ne (by omega)).trans ((q_Tu_ne (by omega)).trans ((q_Tu_ne (by omega)).trans ((q_Tu_ne (by omega)).trans ((q_Tu_ne (by omega)).trans ((q_Tu_ne (by omega)).trans ((q_Tu_ne (by omega)).trans ((q_Tu_ne (by omega)).trans (q_Tu_eq))))))))))
theorem q_dT_1 {T : q_T} {x y z : Nat} : (q_dT T x y z).1 155 (T.1 153 0) = y := (q_Tu_ne (by omega)).trans ((q_Tu_ne (by omega)).trans ((q_Tu_ne (by omega)).trans ((q_Tu_ne (by omega)).trans ((q_Tu_ne (by omega)).trans ((q_Tu_ne (by omega)).trans ((q_Tu_ne (by omega)).trans ((q_Tu_ne (by omega)).trans ((q_Tu_ne (by omega)).trans (q_Tu_eq)))))))))
theorem q_dT_2 {T : q_T} {x y z : Nat} : (q_dT T x y z).1 156 (T.1 153 0) = z := (q_Tu_ne (by omega)).trans ((q_Tu_ne (by omega)).trans ((q_Tu_ne (by omega)).trans ((q_Tu_ne (by omega)).trans ((q_Tu_ne (by omega)).trans ((q_Tu_ne (by omega)).trans ((q_Tu_ne (by omega)).trans ((q_Tu_ne (by omega)).trans (q_Tu_eq))))))))
theorem q_dT_3 {T : q_T} {x y z : Nat} : (q_dT T x y z).1 157 (T.1 153 0) = 0 := (q_Tu_ne (by omega)).trans ((q_Tu_ne (by omega)).trans ((q_Tu_ne (by omega)).trans ((q_Tu_ne (by omega)).trans ((q_Tu_ne (by omega)).trans ((q_Tu_ne (by omega)).trans ((q_Tu_ne (by omega)).trans (q_Tu_eq)))))))
theorem q_dT_4 {T : q_T} {x y z : Nat} : (q_dT T x y z).1 158 (T.1 153 0) = 0 := (q_Tu_ne (by omega)).trans ((q_Tu_ne (by omega)).trans ((q_Tu_ne (by omega)).trans ((q_Tu_ne (by omega)).trans ((q_Tu_ne (by omega)).trans ((q_Tu_ne (by omega)).trans (q_Tu_eq))))))
theorem q_dT_5 {T : q_T} {x y z : Nat} : (q_dT T x y z).1 159 (T.1 153 0) = 0 := (q_Tu_ne (by omega)).trans ((q_Tu_ne (by omega)).trans ((q_Tu_ne (by omega)).trans ((q_Tu_ne (by omega)).trans ((q_Tu_ne (by omega)).trans (q_Tu_eq)))))
theorem q_dT_6 {T : q_T} {x y z : Nat} : (q_dT T x y z).1 161 (4 * T.1 153 0 + 0) = 0 := (q_Tu_ne (by omega)).trans ((q_Tu_ne (by omega)).trans ((q_Tu_ne (by omega)).trans ((q_Tu_ne (by omega)).trans (q_Tu_eq))))
theorem q_dT_7 {T : q_T} {x y z : Nat} : (q_dT T x y z).1 161 (4 * T.1 153 0 + 1) = 0 := (q_Tu_ne (by omega)).trans ((q_Tu_ne (by omega)).trans ((q_Tu_ne (by omega)).trans (q_Tu_eq)))
theorem q_dT_8 {T : q_T} {x y z : Nat} : (q_dT T x y z).1 161 (4 * T.1 153 0 + 2) = 0 := (q_Tu_ne (by omega)).trans ((q_Tu_ne (by omega)).trans (q_Tu_eq))
theorem q_dT_9 {T : q_T} {x y z : Nat} : (q_dT T x y z).1 161 (4 * T.1 153 0 + 3) = 0 := (q_Tu_ne (by omega)).trans (q_Tu_eq)
theorem q_dT_10 {T : q_T} {x y z : Nat} : (q_dT T x y z).1 153 0 = (T.1 153 0 + 1) := q_Tu_eq
theorem q_Rl.add {b x y z : Nat} {T : q_T} {m q : am_Mm} (h : q_Rl b T m) (h6 : T.1 153 0 < 6) (hF : q_Fd (b + 6 + 4 * T.1 153 0) m q) (f1 : q.1 (b + 6 + 4 * T.1 153 0) 1 = nI x) (f2 : q.1 (b + 6 + 4 * T.1 153 0) 2 = nI y) (f3 : q.1 (b + 6 + 4 * T.1 153 0) 3 = nI z) (f4 : q.1 (b + 6 + 4 * T.1 153 0) 4 = nI 0) (f5 : q.1 (b + 6 + 4 * T.1 153 0) 5 = nI 0) (f6 : q.1 (b + 6 + 4 * T.1 153 0) 6 = nI 0) (f7 : ∀ i, i < 4 → q.1 (b + 6 + 4 * T.1 153 0 + 3) i = nI 0) : q_Rl b (q_dT T x y z) (am_u q b 5 (nI (T.1 153 0 + 1))) := by
  obtain ⟨h1, h2, h3, h4, h5, h7⟩ := h
  have eb : ∀ k, q.1 b k = m.1 b k := fun k => congrFun (hF.1 b (by omega)) k
  refine ⟨am_u_eq.trans (congrArg nI q_dT_10.symm), (am_u_ne (by omega)).trans ((eb 1).trans (h2.trans (congrArg nI (q_dT_o (by omega) (by omega) (by omega)).symm))), (am_u_ne (by omega)).trans ((eb 2).trans (h3.trans (congrArg nI (q_dT_o (by omega) (by omega) (by omega)).symm))), (am_u_ne (by omega)).trans ((eb 3).trans (h4.trans (congrArg q_oc (q_dT_o (by omega) (by omega) (by omega)).symm))), fun c hc => (am_u_ne (by omega)).trans ((congrFun (hF.1 (b + 1) (by omega)) c).trans ((h5 c hc).trans (congrArg nI (q_dT_o (by omega) (by omega) (by omega)).symm))), fun p hp => ?_⟩
  rw [q_dT_10] at hp
  by_cases e : p = T.1 153 0
  · subst e
    refine ⟨(am_u_ne (by omega)).trans (f1.trans (congrArg nI q_dT_0.symm)), (am_u_ne (by omega)).trans (f2.trans (congrArg nI q_dT_1.symm)), (am_u_ne (by omega)).trans (f3.trans (congrArg nI q_dT_2.symm)), (am_u_ne (by omega)).trans (f4.trans (congrArg nI q_dT_3.symm)), (am_u_ne (by omega)).trans (f5.trans (congrArg nI q_dT_5.symm)), (am_u_ne (by omega)).trans (f6.trans (congrArg nI q_dT_4.symm)), fun i hi => ?_, fun i hi => ?_⟩
    · rw [q_dT_3] at hi
      omega
    · refine (am_u_ne (by omega)).trans ((f7 i hi).trans (congrArg nI ?_))
      rcases (show i = 0 ∨ i = 1 ∨ i = 2 ∨ i = 3 by omega) with rfl | rfl | rfl | rfl
      · exact q_dT_6.symm
      · exact q_dT_7.symm
      · exact q_dT_8.symm
      · exact q_dT_9.symm
  · obtain ⟨d1, d2, d3, d4, d5, d6, d7, d8⟩ := h7 p (by omega)
    have ec : ∀ c k, b + 6 + 4 * p ≤ c → c < b + 6 + 4 * p + 4 → (am_u q b 5 (nI (T.1 153 0 + 1))).1 c k = m.1 c k := fun c k c1 c2 => (am_u_ne (by omega)).trans (congrFun (hF.1 c (by omega)) k)
    refine ⟨(ec _ _ (by omega) (by omega)).trans (d1.trans (congrArg nI (q_dT_o (by omega) (by omega) (by omega)).symm)), (ec _ _ (by omega) (by omega)).trans (d2.trans (congrArg nI (q_dT_o (by omega) (by omega) (by omega)).symm)), (ec _ _ (by omega) (by omega)).trans (d3.trans (congrArg nI (q_dT_o (by omega) (by omega) (by omega)).symm)), (ec _ _ (by omega) (by omega)).trans (d4.trans (congrArg nI (q_dT_o (by omega) (by omega) (by omega)).symm)), (ec _ _ (by omega) (by omega)).trans (d5.trans (congrArg nI (q_dT_o (by omega) (by omega) (by omega)).symm)), (ec _ _ (by omega) (by omega)).trans (d6.trans (congrArg nI (q_dT_o (by omega) (by omega) (by omega)).symm)), fun i hi => ?_, fun i hi => (ec _ _ (by omega) (by omega)).trans ((d8 i hi).trans (congrArg nI (q_dT_o (by omega) (by omega) (by omega)).symm))⟩
    rw [q_dT_o (by omega) (by omega) (by omega)] at hi
    rw [ec _ _ (by omega) (by omega), ec _ _ (by omega) (by omega), q_dT_o (by omega) (by omega) (by omega)]
    exact d7 i hi
set_option maxRecDepth 100000 in
set_option maxHeartbeats 4000000 in
theorem v_la_addDrawer (xs : List Int32) {b : Nat} (hb : q_isL b) {T : q_T} {m : am_Mm} (hR : q_Rl b T m) (hB : q_Bd T) {x y z : Nat} : am_V xs 2 13 [.ref b, .int (nI x), .int (nI y), .int (nI z)] m (am_qi (bB (decide (T.1 153 0 < 6))) (fun m' => if decide (T.1 153 0 < 6) = true then q_Rl b (q_dT T x y z) m' ∧ q_Fl b m m' else m' = m)) := by
  have hb1 := q_isL_lt hb
  have hn0 : T.1 153 0 < 7 := hB 153 0
  refine am_V_of ky_13 (Nat.le_of_ble_eq_true rfl) ?_
  show am_P xs 1 la_addDrawer 0 [some (.ref b), some (.int (nI x)), some (.int (nI y)), some (.int (nI z))] [] m _
  refine w_aload_n (pc' := 1) rfl rfl rfl rfl ?_
  refine w_getI (pc' := 4) rfl rfl rfl (shL hb) rfl ?_
  have b1 : T.1 153 0 < 7 := hB 153 (0)
  rw [show m.1 b 5 = nI (T.1 153 0) from hR.1]
  refine w_if_lt (t := 16) (pc' := 7) rfl (by decide) rfl (fun h4 => ?_) (fun h4 => ?_)
  · have g2 : (T.1 153 0) < 0 := (nI_ltI (a := (T.1 153 0)) (b := 0) (by omega) (by omega)).mp h4
    omega
  · have g3 : ¬ (T.1 153 0) < 0 := fun q => h4 ((nI_ltI (a := (T.1 153 0)) (b := 0) (by omega) (by omega)).mpr q)
    refine w_aload_n (pc' := 8) rfl rfl rfl rfl ?_
    refine w_getI (pc' := 11) rfl rfl rfl (shL hb) rfl ?_
    have b4 : T.1 153 0 < 7 := hB 153 (0)
    rw [show m.1 b 5 = nI (T.1 153 0) from hR.1]
    refine w_bipush (pc' := 13) 6 rfl rfl bp_6 ?_
    refine w_ic_lt (t := 18) (pc' := 16) rfl (by decide) rfl (fun h13 => ?_) (fun h13 => ?_)
    · have g5 : (T.1 153 0) < 6 := (nI_ltI (a := (T.1 153 0)) (b := 6) (by omega) (by omega)).mp h13
      refine w_aload_n (pc' := 19) rfl rfl rfl rfl ?_
      refine w_getC (pc' := 22) rfl rfl rfl (shL hb) rfl ?_
      refine w_aload_n (pc' := 23) rfl rfl rfl rfl ?_
      refine w_getI (pc' := 26) rfl rfl rfl (shL hb) rfl ?_
      have b6 : T.1 153 0 < 7 := hB 153 (0)
      rw [show m.1 b 5 = nI (T.1 153 0) from hR.1]
      refine w_aald (j := T.1 153 0) (a := (b + 6 + 4 * (T.1 153 0))) (pc' := 27) rfl rfl (shLd hb) rfl (drD (b := b) (p := T.1 153 0) (by omega)) (by omega) (am_sh_lt (shD hb (p := T.1 153 0) (by omega))) ?_
      refine w_iload_n (pc' := 28) rfl rfl rfl ?_
      refine w_iload_n (pc' := 29) rfl rfl rfl ?_
      refine w_iload_n (pc' := 30) rfl rfl rfl ?_
      refine w_cV3n (pc' := 33) (v_dr_begins xs hb (p := T.1 153 0) (x := x) (y := y) (z := z) (by omega)) (by decide) rfl rfl rfl (Nat.le_of_ble_eq_true rfl) (shD hb (p := T.1 153 0) (by omega)) rfl (fun m1 hm' => ?_)
      obtain ⟨g0, g1, g2, g3, g4, g5, g6, g7⟩ := hm'
      refine w_aload_n (pc' := 34) rfl rfl rfl rfl ?_
      refine w_dup (pc' := 35) rfl rfl rfl ?_
      refine w_getI (pc' := 38) rfl rfl rfl (shL hb) rfl ?_
      rw [show m1.1 b 5 = nI (T.1 153 0) from (congrFun (g0.1 b (by omega)) 5).trans hR.1]
      refine w_iconst (pc' := 39) 1 rfl rfl ic_1 ?_
      refine w_iadd (pc' := 40) rfl rfl ?_
      rw [show nI ((T.1 153 0)) + (1 : Int32) = nI ((T.1 153 0) + 1) from nI_add _ _]
      refine w_putI (pc' := 43) rfl rfl rfl (shL hb) rfl rfl rfl ?_
      refine w_iconst (pc' := 44) 1 rfl rfl ic_1 ?_
      refine w_iret rfl rfl (by first | rfl | exact am_nbB _) ?_
      rw [show decide (T.1 153 0 < 6) = true from decide_eq_true (by omega)]
      exact ⟨rfl, by show (if true = true then _ else _); rw [if_pos rfl]; exact ⟨hR.add (by omega) g0 g1 g2 g3 g4 g5 g6 g7, ⟨fun d hd => (am_u_nc (by omega)).trans (g0.1 d (by omega)), g0.2⟩⟩⟩
    · have g7 : ¬ (T.1 153 0) < 6 := fun q => h13 ((nI_ltI (a := (T.1 153 0)) (b := 6) (by omega) (by omega)).mpr q)
      refine w_iconst (pc' := 17) 0 rfl rfl ic_0 ?_
      refine w_iret rfl rfl (by first | rfl | exact am_nbB _) ?_
      rw [show decide (T.1 153 0 < 6) = false from decide_eq_false (by omega)]
      exact ⟨rfl, by show (if false = true then _ else _); rw [if_neg (by decide)]⟩
