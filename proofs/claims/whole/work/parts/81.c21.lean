theorem i8_nI : ∀ s, s < 128 → (nI s).toInt8.toInt32 = nI s := by decide +kernel
theorem q_Rc.x {T T' : q_T} {m m' : am_Mm} (h : q_Rc T m) (hI : q_I T) (hX : q_Rx T' m') (hm : ∀ c, (1 ≤ c ∧ c < 117) ∨ ((123 ≤ c ∧ c < 141) ∨ 153 ≤ c) → m'.1 c = m.1 c) (hm2 : ∀ c, 153 ≤ c → m'.2 c = m.2 c) (h21 : T'.2.1 = T.2.1) (hT : ∀ c k, ((154 ≤ c ∧ c ≤ 162) ∨ ((171 ≤ c ∧ c ≤ 177) ∨ c = 179)) ∨ (c = 153 ∧ (k = 0 ∨ k = 10 ∨ k = 11 ∨ k = 19 ∨ k = 28 ∨ k = 32 ∨ k = 35 ∨ k = 40)) → T'.1 c k = T.1 c k) : q_Q T' m m' := by
  obtain ⟨h1, h2', h3, h4, h5⟩ := h
  have b0 : T.1 153 0 < 7 := hI.1.1.1 153 0
  refine ⟨⟨h1.eq (fun c c1 c2 _ => hm c (by omega)) (fun c k hc => hT c k (by omega)) (by omega), h2'.eq (fun c c1 c2 => hm c (by omega)) h21 hI.1.2.1, h3.eq (fun c c1 c2 => hm c (by omega)) (fun c k hc => hT c k (by omega)), hX, fun hi => ?_⟩, fun c hc => ⟨hm c (by omega), hm2 c hc⟩⟩
  rw [hT 153 40 (by omega)] at hi
  have b1 : (q_und T).1 153 0 < 7 := (hI.2 hi).1.1 153 0
  have eu : ∀ c k, ((154 ≤ c ∧ c ≤ 162) ∨ (171 ≤ c ∧ c ≤ 177)) ∨ (c = 153 ∧ (k = 0 ∨ k = 10 ∨ k = 11 ∨ k = 19 ∨ k = 28 ∨ k = 32 ∨ k = 35)) → (q_und T').1 c k = (q_und T).1 c k := by
    intro c k hc
    show (if q_pi c k < 182 then T'.1 179 (q_pi c k) else T'.1 c k) = if q_pi c k < 182 then T.1 179 (q_pi c k) else T.1 c k
    rw [hT 179 _ (by omega), hT c k (by omega)]
  exact ⟨(h5 hi).1.eq (fun c c1 c2 _ => hm c (by omega)) (fun c k hc => eu c k (by omega)) (by omega), (h5 hi).2.eq (fun c c1 c2 => hm c (by omega)) (fun c k hc => eu c k (by omega))⟩
theorem q_Rx.feed {T : q_T} {m : am_Mm} {s : Nat} (h : q_Rx T m) : q_Rx (q_Tu (q_Tu T 153 12 (T.1 153 12 + 1)) 163 (T.1 153 12) s) (am_u (am_u m 118 (T.1 153 12) (nI s)) 117 1 (nI (T.1 153 12 + 1))) := by
  obtain ⟨a1, a2, a3, a4, a5, a6, a7⟩ := h
  have eT : ∀ c k, c ≠ 163 → ¬ (c = 153 ∧ k = 12) → (q_Tu (q_Tu T 153 12 (T.1 153 12 + 1)) 163 (T.1 153 12) s).1 c k = T.1 c k := fun c k x y => (q_Tu_ne (by omega)).trans (q_Tu_ne (by omega))
  have eM : ∀ c k, c ≠ 117 → c ≠ 118 → (am_u (am_u m 118 (T.1 153 12) (nI s)) 117 1 (nI (T.1 153 12 + 1))).1 c k = m.1 c k := fun c k x y => (am_u_ne (by omega)).trans (am_u_ne (by omega))
  have e12 : (q_Tu (q_Tu T 153 12 (T.1 153 12 + 1)) 163 (T.1 153 12) s).1 153 12 = T.1 153 12 + 1 := (q_Tu_ne (by omega)).trans q_Tu_eq
  unfold q_Rx
  rw [eT 153 38 (by decide) (by decide), eT 153 40 (by decide) (by decide), e12, eM 0 8 (by decide) (by decide), eM 0 5 (by decide) (by decide), eM 120 1 (by decide) (by decide)]
  refine ⟨a1, am_u_eq, fun i hi => ?_, a4, fun i h1 h2 => ?_, a6, fun t ht => ?_⟩
  · by_cases e : i = T.1 153 12
    · subst e
      exact ((am_u_ne (by omega)).trans am_u_eq).trans (congrArg nI q_Tu_eq.symm)
    · exact ((am_u_ne (by omega)).trans (am_u_ne (by omega))).trans ((a3 i (by omega)).trans (congrArg nI ((q_Tu_ne (by omega)).trans (q_Tu_ne (by omega))).symm))
  · rw [eM 121 i (by decide) (by decide), eT 178 i (by decide) (by omega)]
    exact a5 i h1 h2
  · rw [eM (141 + 2 * t) 0 (by omega) (by omega), eM (141 + 2 * t) 1 (by omega) (by omega), eT 182 t (by decide) (by omega), eT 183 t (by decide) (by omega)]
    exact a7 t ht
set_option maxRecDepth 100000 in
set_option maxHeartbeats 4000000 in
theorem v_tx_append (xs : List Int32) {m : am_Mm} {n s : Nat} (hn : m.1 117 1 = nI n) (hn1 : n ≤ 100) (hs : s < 128) : am_V xs 1 56 [.ref 117, .int (nI s)] m (am_qi (bB (decide (n < 100))) (· = if n < 100 then am_u (am_u m 118 n (nI s)) 117 1 (nI (n + 1)) else m)) := by
  refine am_V_of ky_56 (Nat.le_of_ble_eq_true rfl) ?_
  show am_P xs 0 tx_append 0 [some (.ref 117), some (.int (nI s))] [] m _
  refine w_aload_n (pc' := 1) rfl rfl rfl rfl ?_
  refine w_getI (pc' := 4) rfl rfl rfl sh_117 rfl ?_
  rw [show m.1 117 1 = nI n from hn]
  refine w_if_lt (t := 16) (pc' := 7) rfl (by decide) rfl (fun h4 => ?_) (fun h4 => ?_)
  · have g1 : n < 0 := (nI_ltI (a := n) (b := 0) (by omega) (by omega)).mp h4
    omega
  · have g2 : ¬ n < 0 := fun q => h4 ((nI_ltI (a := n) (b := 0) (by omega) (by omega)).mpr q)
    refine w_aload_n (pc' := 8) rfl rfl rfl rfl ?_
    refine w_getI (pc' := 11) rfl rfl rfl sh_117 rfl ?_
    rw [show m.1 117 1 = nI n from hn]
    refine w_bipush (pc' := 13) 100 rfl rfl bp_100 ?_
    refine w_ic_lt (t := 18) (pc' := 16) rfl (by decide) rfl (fun h13 => ?_) (fun h13 => ?_)
    · have g3 : n < 100 := (nI_ltI (a := n) (b := 100) (by omega) (by omega)).mp h13
      refine w_aload_n (pc' := 19) rfl rfl rfl rfl ?_
      refine w_getC (pc' := 22) rfl rfl rfl sh_117 rfl ?_
      refine w_aload_n (pc' := 23) rfl rfl rfl rfl ?_
      refine w_getI (pc' := 26) rfl rfl rfl sh_117 rfl ?_
      rw [show m.1 117 1 = nI n from hn]
      refine w_iload_n (pc' := 27) rfl rfl rfl ?_
      refine w_i2b (pc' := 28) rfl rfl ?_
      rw [i8_nI s hs]
      refine w_bast (j := (n)) (pc' := 29) rfl rfl sh_118 (Or.inl rfl) (i8_nI s hs) rfl (by omega) (by decide) ?_
      refine w_aload_n (pc' := 30) rfl rfl rfl rfl ?_
      refine w_dup (pc' := 31) rfl rfl rfl ?_
      refine w_getI (pc' := 34) rfl rfl rfl sh_117 rfl ?_
      rw [show (am_u m 118 n (nI s)).1 117 1 = nI n from (am_u_ne (by omega)).trans hn]
      refine w_iconst (pc' := 35) 1 rfl rfl ic_1 ?_
      refine w_iadd (pc' := 36) rfl rfl ?_
      rw [show nI (n) + (1 : Int32) = nI (n + 1) from nI_add _ _]
      refine w_putI (pc' := 39) rfl rfl rfl sh_117 rfl rfl rfl ?_
      refine w_iconst (pc' := 40) 1 rfl rfl ic_1 ?_
      refine w_iret rfl rfl (by first | rfl | exact am_nbB _) ?_
      rw [decide_eq_true (by omega)]
      exact ⟨rfl, (if_pos (by omega)).symm⟩
    · have g4 : ¬ n < 100 := fun q => h13 ((nI_ltI (a := n) (b := 100) (by omega) (by omega)).mpr q)
      refine w_iconst (pc' := 17) 0 rfl rfl ic_0 ?_
      refine w_iret rfl rfl (by first | rfl | exact am_nbB _) ?_
      rw [decide_eq_false (by omega)]
      exact ⟨rfl, (if_neg (by omega)).symm⟩
set_option maxRecDepth 100000 in
set_option maxHeartbeats 4000000 in
theorem v_k_feed (xs : List Int32) {T : q_T} {m : am_Mm} (hC : q_Rc T m) (hI : q_I T) (s : Int32) : am_V xs 3 55 [.ref 0, .int s] m (am_qi (f_feed T s).1 (q_Q (f_feed T s).2 m)) := by
  have hY := hI.1.1
  have hB := hY.1
  have hl6 := hI.1.2.1
  have hn0 : T.1 153 0 < 7 := hB 153 0
  have hF : q_Fl 1 m m := q_Fl.rf
  have hR1 := hC.1
  have b12 : T.1 153 12 < 101 := hB 153 12
  refine am_V_of ky_55 (Nat.le_of_ble_eq_true rfl) ?_
  show am_P xs 2 k_feed 0 [some (.ref 0), some (.int s)] [] m _
  refine w_iload_n (pc' := 1) rfl rfl rfl ?_
  refine w_if_lt (t := 10) (pc' := 4) rfl (by decide) rfl (fun h1 => ?_) (fun h1 => ?_)
  · have hnegs : s < 0 := h1
    refine w_bipush (pc' := 12) (-2) rfl rfl bp_m2 ?_
    refine w_iret rfl rfl rfl ?_
    have hf : f_feed T s = (-2, T) := by simp [f_feed, q_is_neg hnegs (n := 128) (by omega)]
    rw [hf]
    exact ⟨rfl, hC.Q hI (q_Fq.rf)⟩
  · obtain ⟨js, hjs, rfl⟩ := nI_of (x := s) h1
    refine w_iload_n (pc' := 5) rfl rfl rfl ?_
    refine w_bipush (pc' := 7) 127 rfl rfl bp_127 ?_
    refine w_ic_le (t := 13) (pc' := 10) rfl (by decide) rfl (fun h7 => ?_) (fun h7 => ?_)
    · have g1 : js ≤ 127 := (nI_leI (a := js) (b := 127) (by omega) (by omega)).mp h7
      refine w_aload_n (pc' := 14) rfl rfl rfl rfl ?_
      refine w_getC (pc' := 17) rfl rfl rfl sh_0 rfl ?_
      refine w_iload_n (pc' := 18) rfl rfl rfl ?_
      refine w_cV1i (pc' := 21) (v_tx_append xs (n := T.1 153 12) (s := js) hC.2.2.2.1.2.1 (by omega) (by omega)) (by decide) rfl rfl rfl (Nat.le_of_ble_eq_true rfl) sh_117 rfl (fun m1 hm' => ?_)
      have hM := hm'
      refine w_if_eq (t := 34) (pc' := 24) rfl (by decide) rfl (fun h21 => ?_) (fun h21 => ?_)
      · have hge : ¬ T.1 153 12 < 100 := of_decide_eq_false (bB_0.mp h21)
        rw [if_neg hge] at hM
        rw [show m1 = m from hM]
        refine w_bipush (pc' := 36) (-4) rfl rfl bp_m4 ?_
        refine w_iret rfl rfl rfl ?_
        have hf : f_feed T (nI js) = (-4, T) := by unfold f_feed; rw [if_pos (q_is_nI (by omega) (by omega)), if_pos (by omega)]
        rw [hf]
        exact ⟨rfl, hC.Q hI (q_Fq.rf)⟩
      · have hlt := of_decide_eq_true (bB_n0.mp h21)
        rw [if_pos hlt] at hM
        refine w_aload_n (pc' := 25) rfl rfl rfl rfl ?_
        refine w_getC (pc' := 28) rfl rfl rfl sh_0 rfl ?_
        refine w_getI (pc' := 31) rfl rfl rfl sh_117 rfl ?_
        rw [show m1.1 117 1 = nI (T.1 153 12 + 1) from by rw [show m1 = _ from hM]; exact am_u_eq]
        refine w_goto (pc' := 36) rfl (by decide) ?_
        refine w_iret rfl rfl rfl ?_
        have hf : f_feed T (nI js) = (nI (T.1 153 12 + 1), q_Tu (q_Tu T 153 12 (T.1 153 12 + 1)) 163 (T.1 153 12) js) := by unfold f_feed; rw [if_pos (q_is_nI (by omega) (by omega)), if_neg (by omega), nI_clamp (by omega)]
        rw [hf, show m1 = _ from hM]
        exact ⟨rfl, hC.x hI hC.2.2.2.1.feed (fun c hc => (am_u_nc (by omega)).trans (am_u_nc (by omega))) (fun c hc => rfl) rfl (fun c k hc => (q_Tu_ne (by omega)).trans (q_Tu_ne (by omega)))⟩
    · have g2 : ¬ js ≤ 127 := fun q => h7 ((nI_leI (a := js) (b := 127) (by omega) (by omega)).mpr q)
      refine w_bipush (pc' := 12) (-2) rfl rfl bp_m2 ?_
      refine w_iret rfl rfl rfl ?_
      have hf : f_feed T (nI js) = (-2, T) := by simp [f_feed, nI_clamp (show js < 2 ^ 31 by omega), q_is_big (n := 128) (j := js) (by omega) (by omega), g2, Nat.lt_of_not_le g2]
      rw [hf]
      exact ⟨rfl, hC.Q hI (q_Fq.rf)⟩
def q_pr (T : q_T) (a n : Int32) : Bool := q_is a 4 && (if 1 ≤ a.toNatClampNeg ∧ a.toNatClampNeg ≤ 2 then q_is n (T.1 153 0) else if a.toNatClampNeg = 3 then q_is n 16 else true)
theorem q_pr_iff {T : q_T} {a n : Int32} : (q_is a 4 = true ∧ (if 1 ≤ a.toNatClampNeg ∧ a.toNatClampNeg ≤ 2 then q_is n (T.1 153 0) else if a.toNatClampNeg = 3 then q_is n 16 else true) = true) ↔ q_pr T a n = true := by
  unfold q_pr
  rw [Bool.and_eq_true]
theorem q_pr_no {T : q_T} {a n : Int32} (h0 : ¬ a = 0) (h1 : ¬ a = 1) (h2 : ¬ a = 2) (h3 : ¬ a = 3) : q_pr T a n = false := by
  have e : q_is a 4 = false := Bool.eq_false_iff.mpr (fun z => by
    obtain ⟨i, hi, rfl⟩ := q_is_of z (by omega)
    rcases (show i = 0 ∨ i = 1 ∨ i = 2 ∨ i = 3 by omega) with rfl | rfl | rfl | rfl
    · exact h0 rfl
    · exact h1 rfl
    · exact h2 rfl
    · exact h3 rfl)
  unfold q_pr
  rw [e]
  rfl
theorem q_pr_0 {T : q_T} {n : Int32} : q_pr T 0 n = true := rfl
theorem q_pr_1 {T : q_T} {n : Int32} : q_pr T 1 n = q_is n (T.1 153 0) := rfl
theorem q_pr_2 {T : q_T} {n : Int32} : q_pr T 2 n = q_is n (T.1 153 0) := rfl
theorem q_pr_3 {T : q_T} {n : Int32} : q_pr T 3 n = q_is n 16 := rfl
/-- what a row of the PLAN is -/
theorem q_pr_of {T : q_T} {a n : Int32} (hB : q_Bd T) (h : q_pr T a n = true) : ∃ j, j < 4 ∧ a = nI j ∧ ((j = 1 ∨ j = 2) → n.toNatClampNeg < T.1 153 0) ∧ (¬ j = 0 → n = nI n.toNatClampNeg ∧ n.toNatClampNeg < 16) := by
  have b0 : T.1 153 0 < 7 := hB 153 0
  obtain ⟨h1, h2⟩ := q_pr_iff.mpr h
  obtain ⟨j, hj, rfl⟩ := q_is_of h1 (by omega)
  rw [nI_clamp (show j < 2 ^ 31 by omega)] at h2
  refine ⟨j, hj, rfl, fun z => ?_, fun z => ?_⟩
  · rw [if_pos (by omega)] at h2
    obtain ⟨i, hi, rfl⟩ := q_is_of h2 (by omega)
    rw [nI_clamp (show i < 2 ^ 31 by omega)]
    exact hi
  · by_cases e : j = 3
    · rw [if_neg (by omega), if_pos e] at h2
      obtain ⟨i, hi, rfl⟩ := q_is_of h2 (by omega)
      rw [nI_clamp (show i < 2 ^ 31 by omega)]
      exact ⟨rfl, hi⟩
    · rw [if_pos (by omega)] at h2
      obtain ⟨i, hi, rfl⟩ := q_is_of h2 (by omega)
      rw [nI_clamp (show i < 2 ^ 31 by omega)]
      exact ⟨rfl, by omega⟩
set_option maxRecDepth 100000 in
set_option maxHeartbeats 4000000 in
theorem v_isPlanRow (xs : List Int32) {T : q_T} {m : am_Mm} (hC : q_Rc T m) (hI : q_I T) (a n : Int32) : am_V xs 2 107 [.ref 0, .int a, .int n] m (am_qi (bB (q_pr T a n)) (· = m)) := by
  have hY := hI.1.1
  have hB := hY.1
  have hl6 := hI.1.2.1
  have hn0 : T.1 153 0 < 7 := hB 153 0
  have hR1 := hC.1
  refine am_V_of ky_107 (Nat.le_of_ble_eq_true rfl) ?_
  show am_P xs 1 k_isPlanRow 0 [some (.ref 0), some (.int a), some (.int n)] [] m _
  refine w_iload_n (pc' := 1) rfl rfl rfl ?_
  refine w_tsw (t := 56) rfl rfl (fun hD1 => ?_) (fun z1 hl1 hh1 hz1 => ?_)
  · have eD1_0 : ¬ a = 0 := fun q => by rw [q] at hD1; revert hD1; decide
    have eD1_1 : ¬ a = 1 := fun q => by rw [q] at hD1; revert hD1; decide
    have eD1_2 : ¬ a = 2 := fun q => by rw [q] at hD1; revert hD1; decide
    have eD1_3 : ¬ a = 3 := fun q => by rw [q] at hD1; revert hD1; decide
    refine w_iconst (pc' := 57) 0 rfl rfl ic_0 ?_
    refine w_iret rfl rfl (by first | rfl | exact am_nbB _) ?_
    rw [q_pr_no eD1_0 eD1_1 eD1_2 eD1_3]
    exact ⟨rfl, rfl⟩
  · rcases (show z1 = 0 ∨ z1 = 1 ∨ z1 = 2 ∨ z1 = 3 by omega) with rfl | rfl | rfl | rfl
    · refine ⟨31, 32, rfl, rfl, ?_⟩
      have e1 : a = 0 := ts_eq hz1 (by decide)
      refine w_iconst (pc' := 33) 1 rfl rfl ic_1 ?_
      refine w_iret rfl rfl (by first | rfl | exact am_nbB _) ?_
      rw [e1, q_pr_0]
      exact ⟨rfl, rfl⟩
    · refine ⟨33, 34, rfl, rfl, ?_⟩
      have e1 : a = 1 := ts_eq hz1 (by decide)
      rcases hqb : q_is n (T.1 153 0) with _ | _
      · have hqn : q_is n (T.1 153 0) = false := hqb
        refine w_aload_n (pc' := 35) rfl rfl rfl rfl ?_
        refine w_getC (pc' := 38) rfl rfl rfl sh_0 rfl ?_
        refine w_iload_n (pc' := 39) rfl rfl rfl ?_
        refine w_cV1a (pc' := 42) (v_la_drawerN xs q_L1 hR1 hB hqn) (by decide) rfl rfl rfl (Nat.le_of_ble_eq_true rfl) (shL q_L1) rfl (fun m' hm' => ?_)
        rw [show m' = m from hm']
        clear hm' m'
        refine w_ifnullN (pc' := 49) rfl (by decide) ?_
        refine w_iconst (pc' := 50) 0 rfl rfl ic_0 ?_
        refine w_iret rfl rfl (by first | rfl | exact am_nbB _) ?_
        rw [show q_pr T a n = false from by rw [e1]; exact hqn]
        exact ⟨rfl, rfl⟩
      · obtain ⟨jn, hjn, rfl⟩ := q_is_of hqb (by omega)
        refine w_aload_n (pc' := 35) rfl rfl rfl rfl ?_
        refine w_getC (pc' := 38) rfl rfl rfl sh_0 rfl ?_
        refine w_iload_n (pc' := 39) rfl rfl rfl ?_
        refine w_cV1a (pc' := 42) (v_la_drawerS xs q_L1 hR1 hB (p := jn) (by omega)) (by decide) rfl rfl rfl (Nat.le_of_ble_eq_true rfl) (shL q_L1) rfl (fun m' hm' => ?_)
        rw [show m' = m from hm']
        clear hm' m'
        refine w_ifnullR (pc' := 45) rfl rfl (by omega) ?_
        refine w_iconst (pc' := 46) 1 rfl rfl ic_1 ?_
        refine w_goto (pc' := 50) rfl (by decide) ?_
        refine w_iret rfl rfl (by first | rfl | exact am_nbB _) ?_
        rw [show q_pr T a (nI jn) = true from by rw [e1]; exact q_is_nI hjn (by omega)]
        exact ⟨rfl, rfl⟩
    · refine ⟨33, 34, rfl, rfl, ?_⟩
      have e1 : a = 2 := ts_eq hz1 (by decide)
      rcases hqb : q_is n (T.1 153 0) with _ | _
      · have hqn : q_is n (T.1 153 0) = false := hqb
        refine w_aload_n (pc' := 35) rfl rfl rfl rfl ?_
        refine w_getC (pc' := 38) rfl rfl rfl sh_0 rfl ?_
        refine w_iload_n (pc' := 39) rfl rfl rfl ?_
        refine w_cV1a (pc' := 42) (v_la_drawerN xs q_L1 hR1 hB hqn) (by decide) rfl rfl rfl (Nat.le_of_ble_eq_true rfl) (shL q_L1) rfl (fun m' hm' => ?_)
        rw [show m' = m from hm']
        clear hm' m'
        refine w_ifnullN (pc' := 49) rfl (by decide) ?_
        refine w_iconst (pc' := 50) 0 rfl rfl ic_0 ?_
        refine w_iret rfl rfl (by first | rfl | exact am_nbB _) ?_
        rw [show q_pr T a n = false from by rw [e1]; exact hqn]
        exact ⟨rfl, rfl⟩
      · obtain ⟨jn, hjn, rfl⟩ := q_is_of hqb (by omega)
        refine w_aload_n (pc' := 35) rfl rfl rfl rfl ?_
        refine w_getC (pc' := 38) rfl rfl rfl sh_0 rfl ?_
        refine w_iload_n (pc' := 39) rfl rfl rfl ?_
        refine w_cV1a (pc' := 42) (v_la_drawerS xs q_L1 hR1 hB (p := jn) (by omega)) (by decide) rfl rfl rfl (Nat.le_of_ble_eq_true rfl) (shL q_L1) rfl (fun m' hm' => ?_)
        rw [show m' = m from hm']
        clear hm' m'
        refine w_ifnullR (pc' := 45) rfl rfl (by omega) ?_
        refine w_iconst (pc' := 46) 1 rfl rfl ic_1 ?_
        refine w_goto (pc' := 50) rfl (by decide) ?_
        refine w_iret rfl rfl (by first | rfl | exact am_nbB _) ?_
        rw [show q_pr T a (nI jn) = true from by rw [e1]; exact q_is_nI hjn (by omega)]
        exact ⟨rfl, rfl⟩
    · refine ⟨50, 51, rfl, rfl, ?_⟩
      have e1 : a = 3 := ts_eq hz1 (by decide)
      refine w_iload_n (pc' := 52) rfl rfl rfl ?_
      refine w_cS1i (pc' := 55) (v_k_isCell xs m n) (by decide) rfl rfl rfl (Or.inl rfl) (Nat.le_of_ble_eq_true rfl) (fun m' hm' => ?_)
      rw [show m' = m from hm']
      clear hm' m'
      refine w_iret rfl rfl (by first | rfl | exact am_nbB _) ?_
      rw [e1, q_pr_3]
      exact ⟨rfl, rfl⟩
set_option maxRecDepth 100000 in
set_option maxHeartbeats 4000000 in
theorem v_k_plan (xs : List Int32) {T : q_T} {m : am_Mm} (hC : q_Rc T m) (hI : q_I T) (a : Int32) (n : Int32) : am_V xs 3 106 [.ref 0, .int a, .int n] m (am_qi (f_plan T a n).1 (q_Q (f_plan T a n).2 m)) := by
  have hY := hI.1.1
  have hB := hY.1
  have hl6 := hI.1.2.1
  have hn0 : T.1 153 0 < 7 := hB 153 0
  have hF : q_Fl 1 m m := q_Fl.rf
  have hR1 := hC.1
  have b32 : T.1 153 32 < 11 := hB 153 32
  refine am_V_of ky_106 (Nat.le_of_ble_eq_true rfl) ?_
  show am_P xs 2 k_plan 0 [some (.ref 0), some (.int a), some (.int n)] [] m _
  refine w_iload_n (pc' := 1) rfl rfl rfl ?_
  refine w_iconst (pc' := 2) (-1) rfl rfl ic_m1 ?_
  refine w_ic_ne (t := 17) (pc' := 5) rfl (by decide) rfl (fun h2 => ?_) (fun h2 => ?_)
  · have han1 : ¬ a = -1 := h2
    refine w_aload_n (pc' := 18) rfl rfl rfl rfl ?_
    refine w_iload_n (pc' := 19) rfl rfl rfl ?_
    refine w_iload_n (pc' := 20) rfl rfl rfl ?_
    refine w_cV2i (pc' := 23) (v_isPlanRow xs hC hI a n) (by decide) rfl rfl rfl (Nat.le_of_ble_eq_true rfl) sh_0 rfl (fun m' hm' => ?_)
    rw [show m' = m from hm']
    clear hm' m'
    refine w_if_ne (t := 28) (pc' := 26) rfl (by decide) rfl (fun h23 => ?_) (fun h23 => ?_)
    · have hpr := bB_n0.mp h23
      obtain ⟨ja, hja, rfl, hj12, hjn⟩ := q_pr_of hB hpr
      refine w_aload_n (pc' := 29) rfl rfl rfl rfl ?_
      refine w_getC (pc' := 32) rfl rfl rfl sh_0 rfl ?_
      refine w_getC (pc' := 35) rfl rfl rfl sh_91 rfl ?_
      refine w_iload_n (pc' := 36) rfl rfl rfl ?_
      refine w_iload_n (pc' := 37) rfl rfl rfl ?_
      refine w_iconst (pc' := 38) 0 rfl rfl ic_0 ?_
      refine w_cV3i (pc' := 41) (v_ro_append xs (a := 96) (M := 10) (n := T.1 153 32) (Or.inr (Or.inl ⟨rfl, rfl⟩)) hC.2.2.1.2.2.1 (by omega) _ _ _) (by decide) rfl rfl rfl (Nat.le_of_ble_eq_true rfl) sh_96 rfl (fun m1 hm' => ?_)
      have hM := hm'
      refine w_if_eq (t := 57) (pc' := 44) rfl (by decide) rfl (fun h41 => ?_) (fun h41 => ?_)
      · have hge : ¬ T.1 153 32 < 10 := of_decide_eq_false (bB_0.mp h41)
        rw [if_neg hge] at hM
        rw [show m1 = m from hM]
        refine w_bipush (pc' := 59) (-4) rfl rfl bp_m4 ?_
        refine w_iret rfl rfl rfl ?_
        have hf : f_plan T (nI ja) n = (-4, T) := by unfold f_plan; rw [if_neg han1, if_pos (q_pr_iff.mpr hpr), if_pos (by omega)]
        rw [hf]
        exact ⟨rfl, hC.Q hI q_Fq.rf⟩
      · have hlt := of_decide_eq_true (bB_n0.mp h41)
        rw [if_pos hlt] at hM
        refine w_aload_n (pc' := 45) rfl rfl rfl rfl ?_
        refine w_getC (pc' := 48) rfl rfl rfl sh_0 rfl ?_
        refine w_getC (pc' := 51) rfl rfl rfl sh_91 rfl ?_
        refine w_getI (pc' := 54) rfl rfl rfl sh_96 rfl ?_
        rw [show m1.1 96 4 = nI (T.1 153 32 + 1) from by rw [show m1 = _ from hM]; exact q_ap_4]
        refine w_goto (pc' := 59) rfl (by decide) ?_
        refine w_iret rfl rfl rfl ?_
        have hf : f_plan T (nI ja) n = (nI (T.1 153 32 + 1), q_Tu (q_Tu (q_Tu T 174 (T.1 153 32) ja) 153 32 (T.1 153 32 + 1)) 175 (T.1 153 32) (if ja = 0 then 0 else n.toNatClampNeg)) := by unfold f_plan; rw [if_neg han1, if_pos (q_pr_iff.mpr hpr), if_neg (by omega), nI_clamp (by omega)]
        rw [hf, show m1 = _ from hM]
        exact ⟨rfl, hC.h hI (hC.2.2.1.part 32 (by omega) (fun c k c1 c2 c3 => q_ap_ne (by omega) (by omega) (by omega) (by omega)) (fun c k _ _ _ => (q_Tu_ne (by omega)).trans ((q_Tu_ne (by omega)).trans (q_Tu_ne (by omega)))) (fun k hk => (q_Tu_ne (by omega)).trans ((q_Tu_ne (by omega)).trans (q_Tu_ne (by omega)))) ⟨fun z => absurd z (by decide), fun _ => ⟨q_ap_4.trans (congrArg nI ((q_Tu_ne (by omega)).trans q_Tu_eq).symm), fun i hi => by
            rw [show (q_Tu (q_Tu (q_Tu T 174 (T.1 153 32) ja) 153 32 (T.1 153 32 + 1)) 175 (T.1 153 32) (if ja = 0 then 0 else n.toNatClampNeg)).1 153 32 = T.1 153 32 + 1 from (q_Tu_ne (by omega)).trans q_Tu_eq] at hi
            have e174 : (q_Tu (q_Tu (q_Tu T 174 (T.1 153 32) ja) 153 32 (T.1 153 32 + 1)) 175 (T.1 153 32) (if ja = 0 then 0 else n.toNatClampNeg)).1 174 i = if i = T.1 153 32 then ja else T.1 174 i := by
              by_cases e : i = T.1 153 32
              · rw [if_pos e, e]
                exact (q_Tu_ne (by omega)).trans ((q_Tu_ne (by omega)).trans q_Tu_eq)
              · rw [if_neg e]
                exact (q_Tu_ne (by omega)).trans ((q_Tu_ne (by omega)).trans (q_Tu_ne (by omega)))
            rw [e174]
            by_cases e : i = T.1 153 32
            · subst e
              rw [if_pos rfl]
              refine ⟨q_ap_1, fun z => ?_⟩
              rw [show (q_Tu (q_Tu (q_Tu T 174 (T.1 153 32) ja) 153 32 (T.1 153 32 + 1)) 175 (T.1 153 32) (if ja = 0 then 0 else n.toNatClampNeg)).1 175 (T.1 153 32) = n.toNatClampNeg from q_Tu_eq.trans (if_neg z)]
              exact q_ap_2.trans (hjn z).1
            · rw [if_neg e]
              obtain ⟨a1, a2⟩ := hC.2.2.1.2.2.2.1 i (by omega)
              exact ⟨(q_ap_ne (by omega) (by omega) (by omega) (by omega)).trans a1, fun z => (q_ap_ne (by omega) (by omega) (by omega) (by omega)).trans ((a2 z).trans (congrArg nI ((q_Tu_ne (by omega)).trans ((q_Tu_ne (by omega)).trans (q_Tu_ne (by omega)))).symm))⟩⟩, fun z => absurd z (by decide)⟩) (fun c hc => q_ap_nc (by omega)) rfl (((q_Ag.rf.u (by rw [q_pi_174 (k := T.1 153 32) (by omega)]; omega)).u (by decide)).u (by rw [q_pi_175 (k := T.1 153 32) (by omega)]; omega)) (fun c k h1 h2 => (q_Tu_ne (by omega)).trans ((q_Tu_ne (by omega)).trans (q_Tu_ne (by omega))))⟩
    · have hpr := bB_0.mp h23
      refine w_iconst (pc' := 27) (-1) rfl rfl ic_m1 ?_
      refine w_iret rfl rfl rfl ?_
      have hf : f_plan T a n = (-1, T) := by unfold f_plan; rw [if_neg han1, if_neg (fun z => by rw [q_pr_iff.mp z] at hpr; exact absurd hpr (by decide))]
      rw [hf]
      exact ⟨rfl, hC.Q hI q_Fq.rf⟩
  · obtain rfl : a = -1 := h2
    refine w_aload_n (pc' := 6) rfl rfl rfl rfl ?_
    refine w_getC (pc' := 9) rfl rfl rfl sh_0 rfl ?_
    refine w_getC (pc' := 12) rfl rfl rfl sh_91 rfl ?_
    refine w_cV0n (pc' := 15) (v_ro_clear xs (a := 96) (M := 10) (Or.inr (Or.inl ⟨rfl, rfl⟩))) (by decide) rfl rfl rfl (Nat.le_of_ble_eq_true rfl) sh_96 rfl (fun m2 hm' => ?_)
    have hM := hm'
    refine w_iconst (pc' := 16) 0 rfl rfl ic_0 ?_
    refine w_iret rfl rfl rfl ?_
    have hf : f_plan T (-1) n = (0, q_Tu T 153 32 0) := by unfold f_plan; rw [if_pos rfl]
    rw [hf, show m2 = _ from hM]
    exact ⟨rfl, hC.h hI (hC.2.2.1.part 32 (by omega) (fun c k c1 c2 c3 => am_u_ne (by omega)) (fun c k _ _ _ => q_Tu_ne (by omega)) (fun k hk => q_Tu_ne (by omega)) ⟨fun z => absurd z (by decide), fun _ => ⟨am_u_eq.trans (congrArg nI q_Tu_eq.symm), fun i hi => absurd hi (by rw [show (q_Tu T 153 32 0).1 153 32 = 0 from q_Tu_eq]; omega)⟩, fun z => absurd z (by decide)⟩) (fun c hc => am_u_nc (by omega)) rfl (q_Ag.rf.u (by decide)) (fun c k h1 h2 => q_Tu_ne (by omega))⟩
