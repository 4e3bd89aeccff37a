theorem q_Rl.row {b p i x : Nat} {T : q_T} {m : am_Mm} (h : q_Rl b T m) (hp : p < T.1 153 0) (h0 : T.1 153 0 ≤ 6) (hi : i < 4) : q_Rl b (q_Tu T 161 (4 * p + i) x) (am_u m (b + 6 + 4 * p + 3) i (nI x)) := by
  obtain ⟨h1, h2, h3, h4, h5, h6⟩ := h
  have eT : ∀ c k, c ≠ 161 → (q_Tu T 161 (4 * p + i) x).1 c k = T.1 c k := fun c k hc => q_Tu_ne (fun q => hc q.1)
  have eM : ∀ c k, c ≠ b + 6 + 4 * p + 3 → (am_u m (b + 6 + 4 * p + 3) i (nI x)).1 c k = m.1 c k := fun c k hc => am_u_ne (fun q => hc q.1)
  unfold q_Rl
  rw [eT 153 0 (by decide), eT 153 10 (by decide), eT 153 11 (by decide), eT 153 19 (by decide), eM b 5 (by omega), eM b 1 (by omega), eM b 2 (by omega), eM b 3 (by omega)]
  refine ⟨h1, h2, h3, h4, fun c hc => ?_, fun q hq => ?_⟩
  · rw [eT 162 c (by decide), eM (b + 1) c (by omega)]
    exact h5 c hc
  · obtain ⟨a1, a2, a3, a4, a5, a6, a7, a8⟩ := h6 q hq
    unfold q_Rd
    rw [eT 154 q (by decide), eT 155 q (by decide), eT 156 q (by decide), eT 157 q (by decide), eT 158 q (by decide), eT 159 q (by decide), eM _ 1 (by omega), eM _ 2 (by omega), eM _ 3 (by omega), eM _ 4 (by omega), eM _ 5 (by omega), eM _ 6 (by omega)]
    refine ⟨a1, a2, a3, a4, a5, a6, fun j hj => ?_, fun j hj => ?_⟩
    · rw [eT 160 _ (by decide), eM _ j (by omega), eM _ j (by omega)]
      exact a7 j hj
    · by_cases e : q = p ∧ j = i
      · obtain ⟨rfl, rfl⟩ := e
        rw [show (q_Tu T 161 (4 * q + j) x).1 161 (4 * q + j) = x from q_Tu_eq]
        exact am_u_eq
      · rw [show (q_Tu T 161 (4 * p + i) x).1 161 (4 * q + j) = T.1 161 (4 * q + j) from q_Tu_ne (by omega), show (am_u m (b + 6 + 4 * p + 3) i (nI x)).1 (b + 6 + 4 * q + 3) j = m.1 (b + 6 + 4 * q + 3) j from am_u_ne (by omega)]
        exact a8 j hj
theorem q_ap_ne {m : am_Mm} {a n c k : Nat} {x y z : Int32} (h1 : ¬ (c = a + 1 ∧ k = n)) (h2 : ¬ (c = a + 2 ∧ k = n)) (h3 : ¬ (c = a + 3 ∧ k = n)) (h4 : ¬ (c = a ∧ k = 4)) : (q_ap m a n x y z).1 c k = m.1 c k := (am_u_ne h4).trans ((am_u_ne h3).trans ((am_u_ne h2).trans (am_u_ne h1)))
theorem q_ap_1 {m : am_Mm} {a n : Nat} {x y z : Int32} : (q_ap m a n x y z).1 (a + 1) n = x := (am_u_ne (by omega)).trans ((am_u_ne (by omega)).trans ((am_u_ne (by omega)).trans am_u_eq))
theorem q_ap_2 {m : am_Mm} {a n : Nat} {x y z : Int32} : (q_ap m a n x y z).1 (a + 2) n = y := (am_u_ne (by omega)).trans ((am_u_ne (by omega)).trans am_u_eq)
theorem q_ap_3 {m : am_Mm} {a n : Nat} {x y z : Int32} : (q_ap m a n x y z).1 (a + 3) n = z := (am_u_ne (by omega)).trans am_u_eq
theorem q_ap_4 {m : am_Mm} {a n : Nat} {x y z : Int32} : (q_ap m a n x y z).1 a 4 = nI (n + 1) := am_u_eq
theorem q_ap_nc {m : am_Mm} {a n c : Nat} {x y z : Int32} (h : ¬ (a ≤ c ∧ c < a + 4)) : (q_ap m a n x y z).1 c = m.1 c := (am_u_nc (by omega)).trans ((am_u_nc (by omega)).trans ((am_u_nc (by omega)).trans (am_u_nc (by omega))))
theorem q_Rc.h {T T' : q_T} {m m' : am_Mm} (h : q_Rc T m) (hI : q_I T) (hH : q_Rh 91 T' m') (hm : ∀ c, ¬ (92 ≤ c ∧ c < 104) → m'.1 c = m.1 c) (h2 : m'.2 = m.2) (hA : q_Ag T T') (hT : ∀ c k, ¬ (171 ≤ c ∧ c ≤ 177) → ¬ (c = 153 ∧ (k = 28 ∨ k = 32 ∨ k = 35)) → T'.1 c k = T.1 c k) : q_Q T' m m' := by
  obtain ⟨h1, h2', h3, h4, h5⟩ := h
  have b0 : T.1 153 0 < 7 := hI.1.1.1 153 0
  refine ⟨⟨h1.eq (fun c c1 c2 _ => hm c (by omega)) (fun c k hc => hT c k (by omega) (by omega)) (by omega), h2'.eq (fun c c1 c2 => hm c (by omega)) (by rw [hA.1]) hI.1.2.1, hH, h4.eq (fun c hc => ⟨hm c (by omega), by rw [h2]⟩) hA.1 (fun c k hc => hT c k (by omega) (by omega)), fun hi => ?_⟩, fun c hc => ⟨hm c (by omega), by rw [h2]⟩⟩
  rw [hT 153 40 (by omega) (by omega)] at hi
  rw [q_und_ag hA]
  have b1 : (q_und T).1 153 0 < 7 := (hI.2 hi).1.1 153 0
  exact ⟨(h5 hi).1.eq (fun c c1 c2 _ => hm c (by omega)) (fun _ _ _ => rfl) (by omega), (h5 hi).2.eq (fun c c1 c2 => hm c (by omega)) (fun _ _ _ => rfl)⟩
/-- one list of the three is told anew -/
theorem q_Rh.part {b : Nat} {T T' : q_T} {m m' : am_Mm} (h : q_Rh b T m) (s : Nat) (hs : s = 28 ∨ s = 32 ∨ s = 35) (hm : ∀ c k, b + 1 ≤ c → c < b + 13 → ¬ ((s = 28 ∧ c < b + 5) ∨ (s = 32 ∧ b + 5 ≤ c ∧ c < b + 9) ∨ (s = 35 ∧ b + 9 ≤ c)) → m'.1 c k = m.1 c k) (hT : ∀ c k, ¬ ((s = 28 ∧ c ≤ 173) ∨ (s = 32 ∧ 174 ≤ c ∧ c ≤ 175) ∨ (s = 35 ∧ 176 ≤ c)) → 171 ≤ c → c ≤ 177 → T'.1 c k = T.1 c k) (hT0 : ∀ k, k ≠ s → T'.1 153 k = T.1 153 k)
  (hn : (s = 28 → m'.1 (b + 1) 4 = nI (T'.1 153 28) ∧ ∀ i, i < T'.1 153 28 → m'.1 (b + 2) i = nI (T'.1 171 i) ∧ (m'.1 (b + 3) i = nI (T'.1 172 i) ∧ m'.1 (b + 4) i = nI (T'.1 173 i))) ∧ ((s = 32 → m'.1 (b + 5) 4 = nI (T'.1 153 32) ∧ ∀ i, i < T'.1 153 32 → m'.1 (b + 6) i = nI (T'.1 174 i) ∧ (T'.1 174 i ≠ 0 → m'.1 (b + 7) i = nI (T'.1 175 i))) ∧ (s = 35 → m'.1 (b + 9) 4 = nI (T'.1 153 35) ∧ ∀ i, i < T'.1 153 35 → m'.1 (b + 10) i = nI (T'.1 176 i) ∧ m'.1 (b + 11) i = nI (T'.1 177 i)))) : q_Rh b T' m' := by
  obtain ⟨h1, h2, h3, h4, h5, h6⟩ := h
  obtain ⟨n1, n2, n3⟩ := hn
  have k1 : m'.1 (b + 1) 4 = nI (T'.1 153 28) ∧ ∀ i, i < T'.1 153 28 → m'.1 (b + 2) i = nI (T'.1 171 i) ∧ (m'.1 (b + 3) i = nI (T'.1 172 i) ∧ m'.1 (b + 4) i = nI (T'.1 173 i)) := by
    by_cases e : s = 28
    · exact n1 e
    · rw [hT0 28 (by omega), hm (b + 1) 4 (by omega) (by omega) (by omega)]
      refine ⟨h1, fun i hi => ?_⟩
      rw [hm (b + 2) i (by omega) (by omega) (by omega), hm (b + 3) i (by omega) (by omega) (by omega), hm (b + 4) i (by omega) (by omega) (by omega), hT 171 i (by omega) (by omega) (by omega), hT 172 i (by omega) (by omega) (by omega), hT 173 i (by omega) (by omega) (by omega)]
      exact h2 i hi
  have k2 : m'.1 (b + 5) 4 = nI (T'.1 153 32) ∧ ∀ i, i < T'.1 153 32 → m'.1 (b + 6) i = nI (T'.1 174 i) ∧ (T'.1 174 i ≠ 0 → m'.1 (b + 7) i = nI (T'.1 175 i)) := by
    by_cases e : s = 32
    · exact n2 e
    · rw [hT0 32 (by omega), hm (b + 5) 4 (by omega) (by omega) (by omega)]
      refine ⟨h3, fun i hi => ?_⟩
      rw [hm (b + 6) i (by omega) (by omega) (by omega), hm (b + 7) i (by omega) (by omega) (by omega), hT 174 i (by omega) (by omega) (by omega), hT 175 i (by omega) (by omega) (by omega)]
      exact h4 i hi
  have k3 : m'.1 (b + 9) 4 = nI (T'.1 153 35) ∧ ∀ i, i < T'.1 153 35 → m'.1 (b + 10) i = nI (T'.1 176 i) ∧ m'.1 (b + 11) i = nI (T'.1 177 i) := by
    by_cases e : s = 35
    · exact n3 e
    · rw [hT0 35 (by omega), hm (b + 9) 4 (by omega) (by omega) (by omega)]
      refine ⟨h5, fun i hi => ?_⟩
      rw [hm (b + 10) i (by omega) (by omega) (by omega), hm (b + 11) i (by omega) (by omega) (by omega), hT 176 i (by omega) (by omega) (by omega), hT 177 i (by omega) (by omega) (by omega)]
      exact h6 i hi
  exact ⟨k1.1, k1.2, k2.1, k2.2, k3.1, k3.2⟩
set_option maxRecDepth 100000 in
set_option maxHeartbeats 4000000 in
theorem v_k_row (xs : List Int32) {T : q_T} {m : am_Mm} (hC : q_Rc T m) (hI : q_I T) (d : Int32) (p : Int32) (n : Int32) : am_V xs 3 54 [.ref 0, .int d, .int p, .int n] m (am_qi (f_row T d p n).1 (q_Q (f_row T d p n).2 m)) := by
  have hY := hI.1.1
  have hB := hY.1
  have hl6 := hI.1.2.1
  have hn0 : T.1 153 0 < 7 := hB 153 0
  have hF : q_Fl 1 m m := q_Fl.rf
  have hR1 := hC.1
  refine am_V_of ky_54 (Nat.le_of_ble_eq_true rfl) ?_
  show am_P xs 2 k_row 0 [some (.ref 0), some (.int d), some (.int p), some (.int n), none, none] [] m _
  rcases hqb : q_is d (T.1 153 0) with _ | _
  · have hqd : q_is d (T.1 153 0) = false := hqb
    refine w_aload_n (pc' := 1) rfl rfl rfl rfl ?_
    refine w_getC (pc' := 4) rfl rfl rfl sh_0 rfl ?_
    refine w_iload_n (pc' := 5) rfl rfl rfl ?_
    refine w_cV1a (pc' := 8) (v_la_drawerN xs q_L1 hR1 hB hqd) (by decide) rfl rfl rfl (Nat.le_of_ble_eq_true rfl) (shL q_L1) rfl (fun m' hm' => ?_)
    rw [show m' = m from hm']
    clear hm' m'
    refine w_ast4 (pc' := 10) rfl rfl rfl rfl ?_
    refine w_aload (pc' := 12) rfl rfl rfl rfl ?_
    refine w_ifnullN (pc' := 24) rfl (by decide) ?_
    refine w_iconst (pc' := 25) (-1) rfl rfl ic_m1 ?_
    refine w_iret rfl rfl rfl ?_
    have hf : f_row T d p n = (-1, T) := by simp [f_row, hqd]
    rw [hf]
    exact ⟨rfl, hC.Q hI (q_Fq.rf)⟩
  · obtain ⟨jd, hjd, rfl⟩ := q_is_of hqb (by omega)
    refine w_aload_n (pc' := 1) rfl rfl rfl rfl ?_
    refine w_getC (pc' := 4) rfl rfl rfl sh_0 rfl ?_
    refine w_iload_n (pc' := 5) rfl rfl rfl ?_
    refine w_cV1a (pc' := 8) (v_la_drawerS xs q_L1 hR1 hB (p := jd) (by omega)) (by decide) rfl rfl rfl (Nat.le_of_ble_eq_true rfl) (shL q_L1) rfl (fun m' hm' => ?_)
    rw [show m' = m from hm']
    clear hm' m'
    refine w_ast4 (pc' := 10) rfl rfl rfl rfl ?_
    refine w_aload (pc' := 12) rfl rfl rfl rfl ?_
    refine w_ifnullR (pc' := 15) rfl rfl (by omega) ?_
    refine w_iload_n (pc' := 16) rfl rfl rfl ?_
    refine w_if_lt (t := 24) (pc' := 19) rfl (by decide) rfl (fun h16 => ?_) (fun h16 => ?_)
    · have hnegp : p < 0 := h16
      refine w_iconst (pc' := 25) (-1) rfl rfl ic_m1 ?_
      refine w_iret rfl rfl rfl ?_
      have hf : f_row T (nI jd) p n = (-1, T) := by simp [f_row, q_is_nI (n := T.1 153 0) hjd (by omega), nI_clamp (show jd < 2 ^ 31 by omega), q_is_neg hnegp (n := 4) (by omega)]
      rw [hf]
      exact ⟨rfl, hC.Q hI (q_Fq.rf)⟩
    · obtain ⟨jp, hjp, rfl⟩ := nI_of (x := p) h16
      refine w_iload_n (pc' := 20) rfl rfl rfl ?_
      refine w_iconst (pc' := 21) 4 rfl rfl ic_4 ?_
      refine w_ic_lt (t := 26) (pc' := 24) rfl (by decide) rfl (fun h21 => ?_) (fun h21 => ?_)
      · have g1 : jp < 4 := (nI_ltI (a := jp) (b := 4) (by omega) (by omega)).mp h21
        refine w_iload_n (pc' := 27) rfl rfl rfl ?_
        refine w_cS1i (pc' := 30) (v_k_isDigit xs m n) (by decide) rfl rfl rfl (Or.inl rfl) (Nat.le_of_ble_eq_true rfl) (fun m' hm' => ?_)
        rw [show m' = m from hm']
        clear hm' m'
        refine w_if_ne (t := 36) (pc' := 33) rfl (by decide) rfl (fun h30 => ?_) (fun h30 => ?_)
        · obtain ⟨j2, hj2, rfl⟩ := q_is_of (bB_n0.mp h30) (by omega)
          refine w_aload (pc' := 38) rfl rfl rfl rfl ?_
          refine w_getI (pc' := 41) rfl rfl rfl (shD q_L1 (p := jd) (by omega)) rfl ?_
          have b3 : T.1 154 jd < 7 := hB 154 (jd)
          rw [show m.1 (1 + 6 + 4 * jd) 1 = nI (T.1 154 jd) from (hR1.2.2.2.2.2 jd (by omega)).1]
          refine w_bipush (pc' := 43) 6 rfl rfl bp_6 ?_
          refine w_ic_eq (t := 49) (pc' := 46) rfl (by decide) rfl (fun h43 => ?_) (fun h43 => ?_)
          · have g4 : (T.1 154 jd) = 6 := (nI_eq (a := (T.1 154 jd)) (b := 6) (by omega) (by omega)).mp h43
            refine w_aload (pc' := 51) rfl rfl rfl rfl ?_
            refine w_getC (pc' := 54) rfl rfl rfl (shD q_L1 (p := jd) (by omega)) rfl ?_
            refine w_iload_n (pc' := 55) rfl rfl rfl ?_
            refine w_iald (j := (jp)) (pc' := 56) rfl rfl (shDr q_L1 (p := jd) (by omega)) rfl (by omega) (by decide) ?_
            rw [show m.1 (1 + 6 + 4 * jd + 3) jp = nI (T.1 161 (4 * jd + jp)) from ((hR1.2.2.2.2.2 jd (by omega)).2.2.2.2.2.2.2 jp (by omega))]
            have b5 : T.1 161 (4 * jd + jp) < 10 := hB 161 (4 * jd + jp)
            refine w_ist5 (pc' := 58) rfl rfl rfl ?_
            refine w_aload (pc' := 60) rfl rfl rfl rfl ?_
            refine w_getC (pc' := 63) rfl rfl rfl (shD q_L1 (p := jd) (by omega)) rfl ?_
            refine w_iload_n (pc' := 64) rfl rfl rfl ?_
            refine w_iload_n (pc' := 65) rfl rfl rfl ?_
            refine w_iast (j := (jp)) (pc' := 66) rfl rfl (shDr q_L1 (p := jd) (by omega)) rfl (by omega) (by decide) ?_
            refine w_any (fun q => q_Rl 1 (q_Tu T 161 (4 * jd + jp) (j2)) q ∧ q_Fl 1 m q) ⟨hR1.row (p := jd) (i := jp) (x := j2) (by omega) (by omega) (by omega), hF.u (by omega)⟩ (fun m1 hm1 => ?_)
            obtain ⟨hR_1, hF_1⟩ := hm1
            refine w_iload (pc' := 68) rfl rfl rfl ?_
            refine w_iret rfl rfl rfl ?_
            have hf : f_row T (nI jd) (nI jp) (nI j2) = (nI ((T.1 161 (4 * jd + jp))), (q_Tu T 161 (4 * jd + jp) (j2))) := by simp [f_row, q_is_nI (n := T.1 153 0) hjd (by omega), nI_clamp (show jd < 2 ^ 31 by omega), nI_clamp (show jp < 2 ^ 31 by omega), q_is_nI (n := 4) (j := jp) (by omega) (by omega), g1, q_is_nI (n := 10) hj2 (by omega), nI_clamp (show j2 < 2 ^ 31 by omega), eq_true g4]
            rw [hf]
            exact ⟨rfl, hC.l1 hI hR_1 hF_1 ((q_Ag.rf.u (by rw [q_pi_161 (k := 4 * jd + jp) (by omega)]; omega))) (fun c k hc => q_Tu_ne (by omega)), hF_1.FM (by omega)⟩
          · have g6 : ¬ (T.1 154 jd) = 6 := fun q => h43 ((nI_eq (a := (T.1 154 jd)) (b := 6) (by omega) (by omega)).mpr q)
            refine w_bipush (pc' := 48) (-3) rfl rfl bp_m3 ?_
            refine w_iret rfl rfl rfl ?_
            have hf : f_row T (nI jd) (nI jp) (nI j2) = (-3, T) := by simp [f_row, q_is_nI (n := T.1 153 0) hjd (by omega), nI_clamp (show jd < 2 ^ 31 by omega), nI_clamp (show jp < 2 ^ 31 by omega), q_is_nI (n := 4) (j := jp) (by omega) (by omega), g1, q_is_nI (n := 10) hj2 (by omega), nI_clamp (show j2 < 2 ^ 31 by omega), g6]
            rw [hf]
            exact ⟨rfl, hC.Q hI (q_Fq.rf)⟩
        · have hN7 := bB_0.mp h30
          refine w_bipush (pc' := 35) (-2) rfl rfl bp_m2 ?_
          refine w_iret rfl rfl rfl ?_
          have hf : f_row T (nI jd) (nI jp) n = (-2, T) := by simp [f_row, q_is_nI (n := T.1 153 0) hjd (by omega), nI_clamp (show jd < 2 ^ 31 by omega), nI_clamp (show jp < 2 ^ 31 by omega), q_is_nI (n := 4) (j := jp) (by omega) (by omega), g1, hN7]
          rw [hf]
          exact ⟨rfl, hC.Q hI (q_Fq.rf)⟩
      · have g8 : ¬ jp < 4 := fun q => h21 ((nI_ltI (a := jp) (b := 4) (by omega) (by omega)).mpr q)
        refine w_iconst (pc' := 25) (-1) rfl rfl ic_m1 ?_
        refine w_iret rfl rfl rfl ?_
        have hf : f_row T (nI jd) (nI jp) n = (-1, T) := by simp [f_row, q_is_nI (n := T.1 153 0) hjd (by omega), nI_clamp (show jd < 2 ^ 31 by omega), nI_clamp (show jp < 2 ^ 31 by omega), q_is_big (n := 4) (j := jp) (by omega) (by omega), g8]
        rw [hf]
        exact ⟨rfl, hC.Q hI (q_Fq.rf)⟩
set_option maxRecDepth 100000 in
set_option maxHeartbeats 4000000 in
theorem v_k_see (xs : List Int32) {T : q_T} {m : am_Mm} (hC : q_Rc T m) (hI : q_I T) (d : Int32) (n : Int32) (k : Int32) : am_V xs 3 94 [.ref 0, .int d, .int n, .int k] m (am_qi (f_see T d n k).1 (q_Q (f_see T d n k).2 m)) := by
  have hY := hI.1.1
  have hB := hY.1
  have hl6 := hI.1.2.1
  have hn0 : T.1 153 0 < 7 := hB 153 0
  have hF : q_Fl 1 m m := q_Fl.rf
  have hR1 := hC.1
  have b28 : T.1 153 28 < 6 := hB 153 28
  refine am_V_of ky_94 (Nat.le_of_ble_eq_true rfl) ?_
  show am_P xs 2 k_see 0 [some (.ref 0), some (.int d), some (.int n), some (.int k)] [] m _
  refine w_iload_n (pc' := 1) rfl rfl rfl ?_
  refine w_iconst (pc' := 2) (-1) rfl rfl ic_m1 ?_
  refine w_ic_ne (t := 17) (pc' := 5) rfl (by decide) rfl (fun h2 => ?_) (fun h2 => ?_)
  · have hdn1 : ¬ d = -1 := h2
    rcases hqb : q_is d (T.1 153 0) with _ | _
    · have hqd : q_is d (T.1 153 0) = false := hqb
      refine w_aload_n (pc' := 18) rfl rfl rfl rfl ?_
      refine w_getC (pc' := 21) rfl rfl rfl sh_0 rfl ?_
      refine w_iload_n (pc' := 22) rfl rfl rfl ?_
      refine w_cV1a (pc' := 25) (v_la_drawerN xs q_L1 hR1 hB hqd) (by decide) rfl rfl rfl (Nat.le_of_ble_eq_true rfl) (shL q_L1) rfl (fun m' hm' => ?_)
      rw [show m' = m from hm']
      clear hm' m'
      refine w_ifnonnullN (pc' := 28) rfl rfl ?_
      refine w_iconst (pc' := 29) (-1) rfl rfl ic_m1 ?_
      refine w_iret rfl rfl rfl ?_
      have hf : f_see T d n k = (-1, T) := by simp [f_see, hdn1, hqd]
      rw [hf]
      exact ⟨rfl, hC.Q hI (q_Fq.rf)⟩
    · obtain ⟨jd, hjd, rfl⟩ := q_is_of hqb (by omega)
      refine w_aload_n (pc' := 18) rfl rfl rfl rfl ?_
      refine w_getC (pc' := 21) rfl rfl rfl sh_0 rfl ?_
      refine w_iload_n (pc' := 22) rfl rfl rfl ?_
      refine w_cV1a (pc' := 25) (v_la_drawerS xs q_L1 hR1 hB (p := jd) (by omega)) (by decide) rfl rfl rfl (Nat.le_of_ble_eq_true rfl) (shL q_L1) rfl (fun m' hm' => ?_)
      rw [show m' = m from hm']
      clear hm' m'
      refine w_ifnonnullR (pc' := 30) rfl (by decide) (by omega) ?_
      refine w_iload_n (pc' := 31) rfl rfl rfl ?_
      refine w_if_lt (t := 47) (pc' := 34) rfl (by decide) rfl (fun h31 => ?_) (fun h31 => ?_)
      · have hnegn : n < 0 := h31
        refine w_bipush (pc' := 49) (-2) rfl rfl bp_m2 ?_
        refine w_iret rfl rfl rfl ?_
        have hf : f_see T (nI jd) n k = (-2, T) := by simp [f_see, hdn1, q_is_nI (n := T.1 153 0) hjd (by omega), nI_clamp (show jd < 2 ^ 31 by omega), q_is_neg hnegn (n := 13) (by omega)]
        rw [hf]
        exact ⟨rfl, hC.Q hI (q_Fq.rf)⟩
      · obtain ⟨jn, hjn, rfl⟩ := nI_of (x := n) h31
        refine w_iload_n (pc' := 35) rfl rfl rfl ?_
        refine w_bipush (pc' := 37) 12 rfl rfl bp_12 ?_
        refine w_ic_gt (t := 47) (pc' := 40) rfl (by decide) rfl (fun h37 => ?_) (fun h37 => ?_)
        · have g1 : 12 < jn := (nI_ltI (a := 12) (b := jn) (by omega) (by omega)).mp h37
          refine w_bipush (pc' := 49) (-2) rfl rfl bp_m2 ?_
          refine w_iret rfl rfl rfl ?_
          have hf : f_see T (nI jd) (nI jn) k = (-2, T) := by simp [f_see, hdn1, q_is_nI (n := T.1 153 0) hjd (by omega), nI_clamp (show jd < 2 ^ 31 by omega), nI_clamp (show jn < 2 ^ 31 by omega), q_is_big (n := 13) (j := jn) (by omega) (by omega), g1]
          rw [hf]
          exact ⟨rfl, hC.Q hI (q_Fq.rf)⟩
        · have g2 : ¬ 12 < jn := fun q => h37 ((nI_ltI (a := 12) (b := jn) (by omega) (by omega)).mpr q)
          refine w_iload_n (pc' := 41) rfl rfl rfl ?_
          refine w_cS1i (pc' := 44) (v_k_isMark xs m k) (by decide) rfl rfl rfl (Or.inl rfl) (Nat.le_of_ble_eq_true rfl) (fun m' hm' => ?_)
          rw [show m' = m from hm']
          clear hm' m'
          refine w_if_ne (t := 50) (pc' := 47) rfl (by decide) rfl (fun h44 => ?_) (fun h44 => ?_)
          · obtain ⟨j3, hj3, rfl⟩ := q_is_of (bB_n0.mp h44) (by omega)
            refine w_aload_n (pc' := 51) rfl rfl rfl rfl ?_
            refine w_getC (pc' := 54) rfl rfl rfl sh_0 rfl ?_
            refine w_getC (pc' := 57) rfl rfl rfl sh_91 rfl ?_
            refine w_iload_n (pc' := 58) rfl rfl rfl ?_
            refine w_iload_n (pc' := 59) rfl rfl rfl ?_
            refine w_iload_n (pc' := 60) rfl rfl rfl ?_
            refine w_cV3i (pc' := 63) (v_ro_append xs (a := 92) (M := 5) (n := T.1 153 28) (Or.inl ⟨rfl, rfl⟩) hC.2.2.1.1 (by omega) _ _ _) (by decide) rfl rfl rfl (Nat.le_of_ble_eq_true rfl) sh_92 rfl (fun m1 hm' => ?_)
            have hM := hm'
            refine w_if_eq (t := 79) (pc' := 66) rfl (by decide) rfl (fun h63 => ?_) (fun h63 => ?_)
            · have hge : ¬ T.1 153 28 < 5 := of_decide_eq_false (bB_0.mp h63)
              rw [if_neg hge] at hM
              rw [show m1 = m from hM]
              refine w_bipush (pc' := 81) (-4) rfl rfl bp_m4 ?_
              refine w_iret rfl rfl rfl ?_
              have hf : f_see T (nI jd) (nI jn) (nI j3) = (-4, T) := by simp [f_see, hdn1, q_is_nI (n := T.1 153 0) hjd (by omega), nI_clamp (show jd < 2 ^ 31 by omega), nI_clamp (show jn < 2 ^ 31 by omega), q_is_nI (n := 13) (j := jn) (by omega) (by omega), g2, q_is_nI (n := 8) hj3 (by omega), nI_clamp (show j3 < 2 ^ 31 by omega), (show T.1 153 28 = 5 by omega)]
              rw [hf]
              exact ⟨rfl, hC.Q hI (q_Fq.rf)⟩
            · have hlt := of_decide_eq_true (bB_n0.mp h63)
              rw [if_pos hlt] at hM
              refine w_aload_n (pc' := 67) rfl rfl rfl rfl ?_
              refine w_getC (pc' := 70) rfl rfl rfl sh_0 rfl ?_
              refine w_getC (pc' := 73) rfl rfl rfl sh_91 rfl ?_
              refine w_getI (pc' := 76) rfl rfl rfl sh_92 rfl ?_
              rw [show m1.1 92 4 = nI (T.1 153 28 + 1) from by rw [show m1 = _ from hM]; exact q_ap_4]
              refine w_goto (pc' := 81) rfl (by decide) ?_
              refine w_iret rfl rfl rfl ?_
              have hf : f_see T (nI jd) (nI jn) (nI j3) = (nI (T.1 153 28 + 1), q_Tu (q_Tu (q_Tu (q_Tu T 171 (T.1 153 28) jd) 172 (T.1 153 28) jn) 153 28 (T.1 153 28 + 1)) 173 (T.1 153 28) j3) := by unfold f_see; rw [if_neg hdn1, if_pos (q_is_nI (by omega) (by omega)), if_pos ⟨q_is_nI (by omega) (by omega), q_is_nI (by omega) (by omega)⟩, if_neg (by omega), nI_clamp (by omega), nI_clamp (by omega), nI_clamp (by omega)]
              rw [hf, show m1 = _ from hM]
              exact ⟨rfl, hC.h hI (hC.2.2.1.part 28 (by omega) (fun c k c1 c2 c3 => q_ap_ne (by omega) (by omega) (by omega) (by omega)) (fun c k _ _ _ => (q_Tu_ne (by omega)).trans ((q_Tu_ne (by omega)).trans ((q_Tu_ne (by omega)).trans (q_Tu_ne (by omega))))) (fun k hk => (q_Tu_ne (by omega)).trans ((q_Tu_ne (by omega)).trans ((q_Tu_ne (by omega)).trans (q_Tu_ne (by omega))))) ⟨fun _ => ⟨q_ap_4.trans (congrArg nI ((q_Tu_ne (by omega)).trans q_Tu_eq).symm), fun i hi => by
                  rw [show (q_Tu (q_Tu (q_Tu (q_Tu T 171 (T.1 153 28) jd) 172 (T.1 153 28) jn) 153 28 (T.1 153 28 + 1)) 173 (T.1 153 28) j3).1 153 28 = T.1 153 28 + 1 from (q_Tu_ne (by omega)).trans q_Tu_eq] at hi
                  by_cases e : i = T.1 153 28
                  · subst e
                    exact ⟨q_ap_1.trans (congrArg nI ((q_Tu_ne (by omega)).trans ((q_Tu_ne (by omega)).trans ((q_Tu_ne (by omega)).trans q_Tu_eq))).symm), q_ap_2.trans (congrArg nI ((q_Tu_ne (by omega)).trans ((q_Tu_ne (by omega)).trans q_Tu_eq)).symm), q_ap_3.trans (congrArg nI q_Tu_eq.symm)⟩
                  · obtain ⟨a1, a2, a3⟩ := hC.2.2.1.2.1 i (by omega)
                    exact ⟨(q_ap_ne (by omega) (by omega) (by omega) (by omega)).trans (a1.trans (congrArg nI ((q_Tu_ne (by omega)).trans ((q_Tu_ne (by omega)).trans ((q_Tu_ne (by omega)).trans (q_Tu_ne (by omega))))).symm)), (q_ap_ne (by omega) (by omega) (by omega) (by omega)).trans (a2.trans (congrArg nI ((q_Tu_ne (by omega)).trans ((q_Tu_ne (by omega)).trans ((q_Tu_ne (by omega)).trans (q_Tu_ne (by omega))))).symm)), (q_ap_ne (by omega) (by omega) (by omega) (by omega)).trans (a3.trans (congrArg nI ((q_Tu_ne (by omega)).trans ((q_Tu_ne (by omega)).trans ((q_Tu_ne (by omega)).trans (q_Tu_ne (by omega))))).symm))⟩⟩, fun z => absurd z (by decide), fun z => absurd z (by decide)⟩) (fun c hc => q_ap_nc (by omega)) rfl ((((q_Ag.rf.u (by rw [q_pi_171 (k := T.1 153 28) (by omega)]; omega)).u (by rw [q_pi_172 (k := T.1 153 28) (by omega)]; omega)).u (by decide)).u (by rw [q_pi_173 (k := T.1 153 28) (by omega)]; omega)) (fun c k h1 h2 => (q_Tu_ne (by omega)).trans ((q_Tu_ne (by omega)).trans ((q_Tu_ne (by omega)).trans (q_Tu_ne (by omega)))))⟩
          · have hN4 := bB_0.mp h44
            refine w_bipush (pc' := 49) (-2) rfl rfl bp_m2 ?_
            refine w_iret rfl rfl rfl ?_
            have hf : f_see T (nI jd) (nI jn) k = (-2, T) := by simp [f_see, hdn1, q_is_nI (n := T.1 153 0) hjd (by omega), nI_clamp (show jd < 2 ^ 31 by omega), nI_clamp (show jn < 2 ^ 31 by omega), q_is_nI (n := 13) (j := jn) (by omega) (by omega), g2, hN4]
            rw [hf]
            exact ⟨rfl, hC.Q hI (q_Fq.rf)⟩
  · obtain rfl : d = -1 := h2
    refine w_aload_n (pc' := 6) rfl rfl rfl rfl ?_
    refine w_getC (pc' := 9) rfl rfl rfl sh_0 rfl ?_
    refine w_getC (pc' := 12) rfl rfl rfl sh_91 rfl ?_
    refine w_cV0n (pc' := 15) (v_ro_clear xs (a := 92) (M := 5) (Or.inl ⟨rfl, rfl⟩)) (by decide) rfl rfl rfl (Nat.le_of_ble_eq_true rfl) sh_92 rfl (fun m2 hm' => ?_)
    have hM := hm'
    refine w_iconst (pc' := 16) 0 rfl rfl ic_0 ?_
    refine w_iret rfl rfl rfl ?_
    have hf : f_see T (-1) n k = (0, q_Tu T 153 28 0) := by unfold f_see; rw [if_pos rfl]
    rw [hf, show m2 = _ from hM]
    exact ⟨rfl, hC.h hI (hC.2.2.1.part 28 (by omega) (fun c k c1 c2 c3 => am_u_ne (by omega)) (fun c k _ _ _ => q_Tu_ne (by omega)) (fun k hk => q_Tu_ne (by omega)) ⟨fun _ => ⟨am_u_eq.trans (congrArg nI q_Tu_eq.symm), fun i hi => absurd hi (by rw [show (q_Tu T 153 28 0).1 153 28 = 0 from q_Tu_eq]; omega)⟩, fun z => absurd z (by decide), fun z => absurd z (by decide)⟩) (fun c hc => am_u_nc (by omega)) rfl (q_Ag.rf.u (by decide)) (fun c k h1 h2 => q_Tu_ne (by omega))⟩
set_option maxRecDepth 100000 in
set_option maxHeartbeats 4000000 in
theorem v_k_book (xs : List Int32) {T : q_T} {m : am_Mm} (hC : q_Rc T m) (hI : q_I T) (c : Int32) (k : Int32) : am_V xs 3 112 [.ref 0, .int c, .int k] m (am_qi (f_book T c k).1 (q_Q (f_book T c k).2 m)) := by
  have hY := hI.1.1
  have hB := hY.1
  have hl6 := hI.1.2.1
  have hn0 : T.1 153 0 < 7 := hB 153 0
  have hF : q_Fl 1 m m := q_Fl.rf
  have hR1 := hC.1
  have b35 : T.1 153 35 < 9 := hB 153 35
  refine am_V_of ky_112 (Nat.le_of_ble_eq_true rfl) ?_
  show am_P xs 2 k_book 0 [some (.ref 0), some (.int c), some (.int k)] [] m _
  refine w_iload_n (pc' := 1) rfl rfl rfl ?_
  refine w_iconst (pc' := 2) (-1) rfl rfl ic_m1 ?_
  refine w_ic_ne (t := 17) (pc' := 5) rfl (by decide) rfl (fun h2 => ?_) (fun h2 => ?_)
  · have hcn1 : ¬ c = -1 := h2
    refine w_iload_n (pc' := 18) rfl rfl rfl ?_
    refine w_cS1i (pc' := 21) (v_k_isCell xs m c) (by decide) rfl rfl rfl (Or.inl rfl) (Nat.le_of_ble_eq_true rfl) (fun m' hm' => ?_)
    rw [show m' = m from hm']
    clear hm' m'
    refine w_if_ne (t := 26) (pc' := 24) rfl (by decide) rfl (fun h21 => ?_) (fun h21 => ?_)
    · obtain ⟨j1, hj1, rfl⟩ := q_is_of (bB_n0.mp h21) (by omega)
      refine w_iload_n (pc' := 27) rfl rfl rfl ?_
      refine w_cS1i (pc' := 30) (v_k_isMark xs m k) (by decide) rfl rfl rfl (Or.inl rfl) (Nat.le_of_ble_eq_true rfl) (fun m' hm' => ?_)
      rw [show m' = m from hm']
      clear hm' m'
      refine w_if_ne (t := 36) (pc' := 33) rfl (by decide) rfl (fun h30 => ?_) (fun h30 => ?_)
      · obtain ⟨j2, hj2, rfl⟩ := q_is_of (bB_n0.mp h30) (by omega)
        refine w_aload_n (pc' := 37) rfl rfl rfl rfl ?_
        refine w_getC (pc' := 40) rfl rfl rfl sh_0 rfl ?_
        refine w_getC (pc' := 43) rfl rfl rfl sh_91 rfl ?_
        refine w_iload_n (pc' := 44) rfl rfl rfl ?_
        refine w_iload_n (pc' := 45) rfl rfl rfl ?_
        refine w_iconst (pc' := 46) 0 rfl rfl ic_0 ?_
        refine w_cV3i (pc' := 49) (v_ro_append xs (a := 100) (M := 8) (n := T.1 153 35) (Or.inr (Or.inr (Or.inl ⟨rfl, rfl⟩))) hC.2.2.1.2.2.2.2.1 (by omega) _ _ _) (by decide) rfl rfl rfl (Nat.le_of_ble_eq_true rfl) sh_100 rfl (fun m1 hm' => ?_)
        have hM := hm'
        refine w_if_eq (t := 65) (pc' := 52) rfl (by decide) rfl (fun h49 => ?_) (fun h49 => ?_)
        · have hge : ¬ T.1 153 35 < 8 := of_decide_eq_false (bB_0.mp h49)
          rw [if_neg hge] at hM
          rw [show m1 = m from hM]
          refine w_bipush (pc' := 67) (-4) rfl rfl bp_m4 ?_
          refine w_iret rfl rfl rfl ?_
          have hf : f_book T (nI j1) (nI j2) = (-4, T) := by simp [f_book, hcn1, q_is_nI (n := 16) hj1 (by omega), nI_clamp (show j1 < 2 ^ 31 by omega), q_is_nI (n := 8) hj2 (by omega), nI_clamp (show j2 < 2 ^ 31 by omega), (show T.1 153 35 = 8 by omega)]
          rw [hf]
          exact ⟨rfl, hC.Q hI (q_Fq.rf)⟩
        · have hlt := of_decide_eq_true (bB_n0.mp h49)
          rw [if_pos hlt] at hM
          refine w_aload_n (pc' := 53) rfl rfl rfl rfl ?_
          refine w_getC (pc' := 56) rfl rfl rfl sh_0 rfl ?_
          refine w_getC (pc' := 59) rfl rfl rfl sh_91 rfl ?_
          refine w_getI (pc' := 62) rfl rfl rfl sh_100 rfl ?_
          rw [show m1.1 100 4 = nI (T.1 153 35 + 1) from by rw [show m1 = _ from hM]; exact q_ap_4]
          refine w_goto (pc' := 67) rfl (by decide) ?_
          refine w_iret rfl rfl rfl ?_
          have hf : f_book T (nI j1) (nI j2) = (nI (T.1 153 35 + 1), q_Tu (q_Tu (q_Tu T 176 (T.1 153 35) j1) 153 35 (T.1 153 35 + 1)) 177 (T.1 153 35) j2) := by unfold f_book; rw [if_neg hcn1, if_pos (q_is_nI (by omega) (by omega)), if_pos (q_is_nI (by omega) (by omega)), if_neg (by omega), nI_clamp (by omega), nI_clamp (by omega)]
          rw [hf, show m1 = _ from hM]
          exact ⟨rfl, hC.h hI (hC.2.2.1.part 35 (by omega) (fun c k c1 c2 c3 => q_ap_ne (by omega) (by omega) (by omega) (by omega)) (fun c k _ _ _ => (q_Tu_ne (by omega)).trans ((q_Tu_ne (by omega)).trans (q_Tu_ne (by omega)))) (fun k hk => (q_Tu_ne (by omega)).trans ((q_Tu_ne (by omega)).trans (q_Tu_ne (by omega)))) ⟨fun z => absurd z (by decide), fun z => absurd z (by decide), fun _ => ⟨q_ap_4.trans (congrArg nI ((q_Tu_ne (by omega)).trans q_Tu_eq).symm), fun i hi => by
              rw [show (q_Tu (q_Tu (q_Tu T 176 (T.1 153 35) j1) 153 35 (T.1 153 35 + 1)) 177 (T.1 153 35) j2).1 153 35 = T.1 153 35 + 1 from (q_Tu_ne (by omega)).trans q_Tu_eq] at hi
              by_cases e : i = T.1 153 35
              · subst e
                exact ⟨q_ap_1.trans (congrArg nI ((q_Tu_ne (by omega)).trans ((q_Tu_ne (by omega)).trans q_Tu_eq)).symm), q_ap_2.trans (congrArg nI q_Tu_eq.symm)⟩
              · obtain ⟨a1, a2⟩ := hC.2.2.1.2.2.2.2.2 i (by omega)
                exact ⟨(q_ap_ne (by omega) (by omega) (by omega) (by omega)).trans (a1.trans (congrArg nI ((q_Tu_ne (by omega)).trans ((q_Tu_ne (by omega)).trans (q_Tu_ne (by omega)))).symm)), (q_ap_ne (by omega) (by omega) (by omega) (by omega)).trans (a2.trans (congrArg nI ((q_Tu_ne (by omega)).trans ((q_Tu_ne (by omega)).trans (q_Tu_ne (by omega)))).symm))⟩⟩⟩) (fun c hc => q_ap_nc (by omega)) rfl (((q_Ag.rf.u (by rw [q_pi_176 (k := T.1 153 35) (by omega)]; omega)).u (by decide)).u (by rw [q_pi_177 (k := T.1 153 35) (by omega)]; omega)) (fun c k h1 h2 => (q_Tu_ne (by omega)).trans ((q_Tu_ne (by omega)).trans (q_Tu_ne (by omega))))⟩
      · have hN3 := bB_0.mp h30
        refine w_bipush (pc' := 35) (-2) rfl rfl bp_m2 ?_
        refine w_iret rfl rfl rfl ?_
        have hf : f_book T (nI j1) k = (-2, T) := by simp [f_book, hcn1, q_is_nI (n := 16) hj1 (by omega), nI_clamp (show j1 < 2 ^ 31 by omega), hN3]
        rw [hf]
        exact ⟨rfl, hC.Q hI (q_Fq.rf)⟩
    · have hN4 := bB_0.mp h21
      refine w_iconst (pc' := 25) (-1) rfl rfl ic_m1 ?_
      refine w_iret rfl rfl rfl ?_
      have hf : f_book T c k = (-1, T) := by simp [f_book, hcn1, hN4]
      rw [hf]
      exact ⟨rfl, hC.Q hI (q_Fq.rf)⟩
  · obtain rfl : c = -1 := h2
    refine w_aload_n (pc' := 6) rfl rfl rfl rfl ?_
    refine w_getC (pc' := 9) rfl rfl rfl sh_0 rfl ?_
    refine w_getC (pc' := 12) rfl rfl rfl sh_91 rfl ?_
    refine w_cV0n (pc' := 15) (v_ro_clear xs (a := 100) (M := 8) (Or.inr (Or.inr (Or.inl ⟨rfl, rfl⟩)))) (by decide) rfl rfl rfl (Nat.le_of_ble_eq_true rfl) sh_100 rfl (fun m2 hm' => ?_)
    have hM := hm'
    refine w_iconst (pc' := 16) 0 rfl rfl ic_0 ?_
    refine w_iret rfl rfl rfl ?_
    have hf : f_book T (-1) k = (0, q_Tu T 153 35 0) := by unfold f_book; rw [if_pos rfl]
    rw [hf, show m2 = _ from hM]
    exact ⟨rfl, hC.h hI (hC.2.2.1.part 35 (by omega) (fun c k c1 c2 c3 => am_u_ne (by omega)) (fun c k _ _ _ => q_Tu_ne (by omega)) (fun k hk => q_Tu_ne (by omega)) ⟨fun z => absurd z (by decide), fun z => absurd z (by decide), fun _ => ⟨am_u_eq.trans (congrArg nI q_Tu_eq.symm), fun i hi => absurd hi (by rw [show (q_Tu T 153 35 0).1 153 35 = 0 from q_Tu_eq]; omega)⟩⟩) (fun c hc => am_u_nc (by omega)) rfl (q_Ag.rf.u (by decide)) (fun c k h1 h2 => q_Tu_ne (by omega))⟩
