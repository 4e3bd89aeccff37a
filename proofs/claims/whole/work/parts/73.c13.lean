theorem q_Fl.lt {m m' : am_Mm} (h : q_Fl 61 m m') {c : Nat} (hc : c < 61 ∨ 91 ≤ c) : m'.1 c = m.1 c := h.1 c (by omega)
set_option maxRecDepth 100000 in
set_option maxHeartbeats 4000000 in
theorem v_tryAt (xs : List Int32) {T : q_T} {m0 m : am_Mm} (hC : q_Rc T m0) (hI : q_I T) (hF : q_Fl 61 m0 m) {p x : Nat} (hp : p < T.1 153 0) (hx : x < 16) : am_V xs 4 33 [.ref 0, .int (nI p), .int (nI x)] m (am_qn (fun m' => q_Rl 61 (q_Tu T 156 p x) m' ∧ q_Fl 61 m0 m')) := by
  have hF0 := hF
  have hY := hI.1.1
  have hB := hY.1
  have hl6 := hI.1.2.1
  have hn0 : T.1 153 0 < 7 := hB 153 0
  refine am_V_of ky_33 (Nat.le_of_ble_eq_true rfl) ?_
  show am_P xs 3 k_tryAt 0 [some (.ref 0), some (.int (nI p)), some (.int (nI x))] [] m _
  refine w_aload_n (pc' := 1) rfl rfl rfl rfl ?_
  refine w_getC (pc' := 4) rfl rfl rfl sh_0 rfl ?_
  refine w_aload_n (pc' := 5) rfl rfl rfl rfl ?_
  refine w_getC (pc' := 8) rfl rfl rfl sh_0 rfl ?_
  refine w_cV1n (pc' := 11) (v_la_copyFrom xs q_L1 q_L61 (Or.inl (by omega)) (hC.1.fl hF (Or.inl (by omega)) (by omega)) hB) (by decide) rfl rfl rfl (Nat.le_of_ble_eq_true rfl) (shL q_L61) rfl (fun m1 hm' => ?_)
  obtain ⟨hR_1, hF_1⟩ := hm'
  have hF_1 := hF.tr hF_1
  refine w_aload_n (pc' := 12) rfl rfl rfl rfl ?_
  refine w_getC (pc' := 15) rfl rfl rfl sh_0 rfl ?_
  refine w_iload_n (pc' := 16) rfl rfl rfl ?_
  refine w_iload_n (pc' := 17) rfl rfl rfl ?_
  refine w_cV2n (pc' := 20) (v_la_putAt xs q_L61 hR_1 hY.1 (p := p) (x := x) (by omega) (by omega)) (by decide) rfl rfl rfl (Nat.le_of_ble_eq_true rfl) (shL q_L61) rfl (fun m2 hm' => ?_)
  obtain ⟨hR_2, hF_2⟩ := hm'
  have hF_2 := hF_1.tr hF_2
  refine w_vret rfl rfl ?_
  exact ⟨rfl, hR_2, hF_2⟩
set_option maxRecDepth 100000 in
set_option maxHeartbeats 4000000 in
theorem lp_kmarksOf (xs : List Int32) {T : q_T} {m0 : am_Mm} (hC : q_Rc T m0) (hI : q_I T) {c : Nat} (hc : c < 16) : ∀ (r k : Nat), k + r = 8 → ∀ (a : Int32) (m : am_Mm), q_Fl 61 m0 m → am_P xs 10 k_marksOf 4 [some (.ref 0), some (.int (nI c)), some (.int a), some (.int (nI k))] [] m (am_qi (bto T 162 c r k a) (fun m' => q_Fl 61 m0 m')) := by
  intro r
  induction r with
  | zero =>
    intro k hk a m hF
    have hF0 := hF
    have hY := hI.1.1
    have hB := hY.1
    have hl6 := hI.1.2.1
    have hn0 : T.1 153 0 < 7 := hB 153 0
    refine w_iload_n (pc' := 5) rfl rfl rfl ?_
    refine w_bipush (pc' := 7) 8 rfl rfl bp_8 ?_
    refine w_ic_ge (t := 49) (pc' := 10) rfl (by decide) rfl (fun h7 => ?_) (fun h7 => ?_)
    · have g1 : 8 ≤ k := (nI_leI (a := 8) (b := k) (by omega) (by omega)).mp h7
      refine w_iload_n (pc' := 50) rfl rfl rfl ?_
      refine w_iret rfl rfl rfl ?_
      exact ⟨rfl, hF⟩
    · have g2 : ¬ 8 ≤ k := fun q => h7 ((nI_leI (a := 8) (b := k) (by omega) (by omega)).mpr q)
      omega
  | succ r ih =>
    intro k hk a m hF
    have hF0 := hF
    have hY := hI.1.1
    have hB := hY.1
    have hl6 := hI.1.2.1
    have hn0 : T.1 153 0 < 7 := hB 153 0
    refine w_iload_n (pc' := 5) rfl rfl rfl ?_
    refine w_bipush (pc' := 7) 8 rfl rfl bp_8 ?_
    refine w_ic_ge (t := 49) (pc' := 10) rfl (by decide) rfl (fun h7 => ?_) (fun h7 => ?_)
    · have g1 : 8 ≤ k := (nI_leI (a := 8) (b := k) (by omega) (by omega)).mp h7
      omega
    · have g2 : ¬ 8 ≤ k := fun q => h7 ((nI_leI (a := 8) (b := k) (by omega) (by omega)).mpr q)
      refine w_aload_n (pc' := 11) rfl rfl rfl rfl ?_
      refine w_getC (pc' := 14) rfl rfl rfl sh_0 rfl ?_
      refine w_aload_n (pc' := 15) rfl rfl rfl rfl ?_
      refine w_getC (pc' := 18) rfl rfl rfl sh_0 rfl ?_
      refine w_cV1n (pc' := 21) (v_la_copyFrom xs q_L1 q_L61 (Or.inl (by omega)) (hC.1.fl hF (Or.inl (by omega)) (by omega)) hB) (by decide) rfl rfl rfl (Nat.le_of_ble_eq_true rfl) (shL q_L61) rfl (fun m1 hm' => ?_)
      obtain ⟨hR_1, hF_1⟩ := hm'
      have hF_1 := hF.tr hF_1
      refine w_aload_n (pc' := 22) rfl rfl rfl rfl ?_
      refine w_getC (pc' := 25) rfl rfl rfl sh_0 rfl ?_
      refine w_iload_n (pc' := 26) rfl rfl rfl ?_
      refine w_iload_n (pc' := 27) rfl rfl rfl ?_
      refine w_cV2n (pc' := 30) (v_la_setMark xs q_L61 hR_1 hY.1 (c := c) (x := k) (by omega) (by omega)) (by decide) rfl rfl rfl (Nat.le_of_ble_eq_true rfl) (shL q_L61) rfl (fun m2 hm' => ?_)
      obtain ⟨hR_2, hF_2⟩ := hm'
      have hF_2 := hF_1.tr hF_2
      refine w_aload_n (pc' := 31) rfl rfl rfl rfl ?_
      refine w_cV0i (pc' := 34) (v_so xs (hC.2.2.1.eq (fun c c1 c2 => hF_2.lt (by omega)) (fun _ _ _ => rfl)) hB (hC.2.1.fl2 hF_2 rfl (by omega) hl6) hl6 hI.1.2.2.1 hR_2 (hY.u (c := 162) (k := c) (x := k) (show _ < 8 by omega) (by decide) (by decide)) (fun c j hc => q_Tu_ne (by omega)) rfl (q_Tu_ne (by omega))) (by decide) rfl rfl rfl (Nat.le_of_ble_eq_true rfl) sh_0 rfl (fun m3 hm' => ?_)
      have hF_3 := hF_2.tr hm'
      refine w_if_eq (t := 43) (pc' := 37) rfl (by decide) rfl (fun h34 => ?_) (fun h34 => ?_)
      · have hb3 : f_sn (q_Tu T 162 c k) = false := bB_0.mp h34
        refine w_iinc3 (pc' := 46) 1 rfl rfl ic_1 rfl ?_
        rw [nI_inc]
        refine w_goto (pc' := 4) rfl (by decide) ?_
        rw [show bto T 162 c (r + 1) k a = bto T 162 c r (k + 1) _ from congrArg (bto T 162 c r (k + 1)) (if_neg (by rw [hb3]; decide))]
        exact ih (k + 1) (by omega) _ _ hF_3
      · have hb4 : f_sn (q_Tu T 162 c k) = true := bB_n0.mp h34
        refine w_iload_n (pc' := 38) rfl rfl rfl ?_
        refine w_iconst (pc' := 39) 1 rfl rfl ic_1 ?_
        refine w_iload_n (pc' := 40) rfl rfl rfl ?_
        refine w_ishl (pc' := 41) rfl rfl ?_
        refine w_ior (pc' := 42) rfl rfl ?_
        refine w_ist2 (pc' := 43) rfl rfl rfl ?_
        refine w_iinc3 (pc' := 46) 1 rfl rfl ic_1 rfl ?_
        rw [nI_inc]
        refine w_goto (pc' := 4) rfl (by decide) ?_
        rw [show bto T 162 c (r + 1) k a = bto T 162 c r (k + 1) _ from congrArg (bto T 162 c r (k + 1)) (if_pos hb4)]
        exact ih (k + 1) (by omega) _ _ hF_3
set_option maxRecDepth 100000 in
set_option maxHeartbeats 4000000 in
theorem v_kmarksOf (xs : List Int32) {T : q_T} {m : am_Mm} (hC : q_Rc T m) (hI : q_I T) {c : Nat} (hc : c < 16) : am_V xs 11 81 [.ref 0, .int (nI c)] m (am_qi (bto T 162 c 8 0 0) (fun m' => q_Fl 61 m m')) := by
  refine am_V_of ky_81 (Nat.le_of_ble_eq_true rfl) ?_
  show am_P xs 10 k_marksOf 0 [some (.ref 0), some (.int (nI c)), none, none] [] m _
  refine w_iconst (pc' := 1) 0 rfl rfl ic_0 ?_
  refine w_ist2 (pc' := 2) rfl rfl rfl ?_
  refine w_iconst (pc' := 3) 0 rfl rfl ic_0 ?_
  refine w_ist3 (pc' := 4) rfl rfl rfl ?_
  exact lp_kmarksOf xs hC hI hc 8 0 (by omega) 0 m q_Fl.rf
set_option maxRecDepth 100000 in
set_option maxHeartbeats 4000000 in
theorem lp_kplacesOf (xs : List Int32) {T : q_T} {m0 : am_Mm} (hC : q_Rc T m0) (hI : q_I T) {p : Nat} (hp : p < T.1 153 0) : ∀ (r k : Nat), k + r = 16 → ∀ (a : Int32) (m : am_Mm), q_Fl 61 m0 m → am_P xs 10 k_placesOf 4 [some (.ref 0), some (.ref (1 + 6 + 4 * p)), some (.int a), some (.int (nI k))] [] m (am_qi (bto T 156 p r k a) (fun m' => q_Fl 61 m0 m')) := by
  intro r
  induction r with
  | zero =>
    intro k hk a m hF
    have hF0 := hF
    have hY := hI.1.1
    have hB := hY.1
    have hl6 := hI.1.2.1
    have hn0 : T.1 153 0 < 7 := hB 153 0
    refine w_iload_n (pc' := 5) rfl rfl rfl ?_
    refine w_bipush (pc' := 7) 16 rfl rfl bp_16 ?_
    refine w_ic_ge (t := 38) (pc' := 10) rfl (by decide) rfl (fun h7 => ?_) (fun h7 => ?_)
    · have g1 : 16 ≤ k := (nI_leI (a := 16) (b := k) (by omega) (by omega)).mp h7
      refine w_iload_n (pc' := 39) rfl rfl rfl ?_
      refine w_iret rfl rfl rfl ?_
      exact ⟨rfl, hF⟩
    · have g2 : ¬ 16 ≤ k := fun q => h7 ((nI_leI (a := 16) (b := k) (by omega) (by omega)).mpr q)
      omega
  | succ r ih =>
    intro k hk a m hF
    have hF0 := hF
    have hY := hI.1.1
    have hB := hY.1
    have hl6 := hI.1.2.1
    have hn0 : T.1 153 0 < 7 := hB 153 0
    refine w_iload_n (pc' := 5) rfl rfl rfl ?_
    refine w_bipush (pc' := 7) 16 rfl rfl bp_16 ?_
    refine w_ic_ge (t := 38) (pc' := 10) rfl (by decide) rfl (fun h7 => ?_) (fun h7 => ?_)
    · have g1 : 16 ≤ k := (nI_leI (a := 16) (b := k) (by omega) (by omega)).mp h7
      omega
    · have g2 : ¬ 16 ≤ k := fun q => h7 ((nI_leI (a := 16) (b := k) (by omega) (by omega)).mpr q)
      refine w_aload_n (pc' := 11) rfl rfl rfl rfl ?_
      refine w_aload_n (pc' := 12) rfl rfl rfl rfl ?_
      refine w_getC (pc' := 15) rfl rfl rfl (shD q_L1 (p := p) (by omega)) rfl ?_
      refine w_iload_n (pc' := 16) rfl rfl rfl ?_
      refine w_cV2n (pc' := 19) (v_tryAt xs hC hI hF (p := p) (x := k) (by omega) (by omega)) (by decide) rfl rfl rfl (Nat.le_of_ble_eq_true rfl) sh_0 rfl (fun m1 hm' => ?_)
      obtain ⟨hR_1, hF_1⟩ := hm'
      refine w_aload_n (pc' := 20) rfl rfl rfl rfl ?_
      refine w_cV0i (pc' := 23) (v_so xs (hC.2.2.1.eq (fun c c1 c2 => hF_1.lt (by omega)) (fun _ _ _ => rfl)) hB (hC.2.1.fl2 hF_1 rfl (by omega) hl6) hl6 hI.1.2.2.1 hR_1 (hY.u (c := 156) (k := p) (x := k) (show _ < 16 by omega) (by decide) (by decide)) (fun c j hc => q_Tu_ne (by omega)) rfl (q_Tu_ne (by omega))) (by decide) rfl rfl rfl (Nat.le_of_ble_eq_true rfl) sh_0 rfl (fun m2 hm' => ?_)
      have hF_2 := hF_1.tr hm'
      refine w_if_eq (t := 32) (pc' := 26) rfl (by decide) rfl (fun h23 => ?_) (fun h23 => ?_)
      · have hb3 : f_sn (q_Tu T 156 p k) = false := bB_0.mp h23
        refine w_iinc3 (pc' := 35) 1 rfl rfl ic_1 rfl ?_
        rw [nI_inc]
        refine w_goto (pc' := 4) rfl (by decide) ?_
        rw [show bto T 156 p (r + 1) k a = bto T 156 p r (k + 1) _ from congrArg (bto T 156 p r (k + 1)) (if_neg (by rw [hb3]; decide))]
        exact ih (k + 1) (by omega) _ _ hF_2
      · have hb4 : f_sn (q_Tu T 156 p k) = true := bB_n0.mp h23
        refine w_iload_n (pc' := 27) rfl rfl rfl ?_
        refine w_iconst (pc' := 28) 1 rfl rfl ic_1 ?_
        refine w_iload_n (pc' := 29) rfl rfl rfl ?_
        refine w_ishl (pc' := 30) rfl rfl ?_
        refine w_ior (pc' := 31) rfl rfl ?_
        refine w_ist2 (pc' := 32) rfl rfl rfl ?_
        refine w_iinc3 (pc' := 35) 1 rfl rfl ic_1 rfl ?_
        rw [nI_inc]
        refine w_goto (pc' := 4) rfl (by decide) ?_
        rw [show bto T 156 p (r + 1) k a = bto T 156 p r (k + 1) _ from congrArg (bto T 156 p r (k + 1)) (if_pos hb4)]
        exact ih (k + 1) (by omega) _ _ hF_2
set_option maxRecDepth 100000 in
set_option maxHeartbeats 4000000 in
theorem v_kplacesOf (xs : List Int32) {T : q_T} {m : am_Mm} (hC : q_Rc T m) (hI : q_I T) {p : Nat} (hp : p < T.1 153 0) : am_V xs 11 32 [.ref 0, .ref (1 + 6 + 4 * p)] m (am_qi (bto T 156 p 16 0 0) (fun m' => q_Fl 61 m m')) := by
  refine am_V_of ky_32 (Nat.le_of_ble_eq_true rfl) ?_
  show am_P xs 10 k_placesOf 0 [some (.ref 0), some (.ref (1 + 6 + 4 * p)), none, none] [] m _
  refine w_iconst (pc' := 1) 0 rfl rfl ic_0 ?_
  refine w_ist2 (pc' := 2) rfl rfl rfl ?_
  refine w_iconst (pc' := 3) 0 rfl rfl ic_0 ?_
  refine w_ist3 (pc' := 4) rfl rfl rfl ?_
  exact lp_kplacesOf xs hC hI hp 16 0 (by omega) 0 m q_Fl.rf
set_option maxRecDepth 100000 in
set_option maxHeartbeats 4000000 in
theorem lp_kpossible (xs : List Int32) {T : q_T} {m0 : am_Mm} (hC : q_Rc T m0) (hI : q_I T) {p : Nat} (hp : p < T.1 153 0) : ∀ (r k : Nat), k + r = 10 → ∀ (a : Int32) (m : am_Mm), q_Fl 61 m0 m → am_P xs 10 k_possibleNumbers 4 [some (.ref 0), some (.int (nI p)), some (.int a), some (.int (nI k))] [] m (am_qi (bto T 155 p r k a) (fun m' => q_Fl 61 m0 m')) := by
  intro r
  induction r with
  | zero =>
    intro k hk a m hF
    have hF0 := hF
    have hY := hI.1.1
    have hB := hY.1
    have hl6 := hI.1.2.1
    have hn0 : T.1 153 0 < 7 := hB 153 0
    refine w_iload_n (pc' := 5) rfl rfl rfl ?_
    refine w_bipush (pc' := 7) 9 rfl rfl bp_9 ?_
    refine w_ic_gt (t := 49) (pc' := 10) rfl (by decide) rfl (fun h7 => ?_) (fun h7 => ?_)
    · have g1 : 9 < k := (nI_ltI (a := 9) (b := k) (by omega) (by omega)).mp h7
      refine w_iload_n (pc' := 50) rfl rfl rfl ?_
      refine w_iret rfl rfl rfl ?_
      exact ⟨rfl, hF⟩
    · have g2 : ¬ 9 < k := fun q => h7 ((nI_ltI (a := 9) (b := k) (by omega) (by omega)).mpr q)
      omega
  | succ r ih =>
    intro k hk a m hF
    have hF0 := hF
    have hY := hI.1.1
    have hB := hY.1
    have hl6 := hI.1.2.1
    have hn0 : T.1 153 0 < 7 := hB 153 0
    refine w_iload_n (pc' := 5) rfl rfl rfl ?_
    refine w_bipush (pc' := 7) 9 rfl rfl bp_9 ?_
    refine w_ic_gt (t := 49) (pc' := 10) rfl (by decide) rfl (fun h7 => ?_) (fun h7 => ?_)
    · have g1 : 9 < k := (nI_ltI (a := 9) (b := k) (by omega) (by omega)).mp h7
      omega
    · have g2 : ¬ 9 < k := fun q => h7 ((nI_ltI (a := 9) (b := k) (by omega) (by omega)).mpr q)
      refine w_aload_n (pc' := 11) rfl rfl rfl rfl ?_
      refine w_getC (pc' := 14) rfl rfl rfl sh_0 rfl ?_
      refine w_aload_n (pc' := 15) rfl rfl rfl rfl ?_
      refine w_getC (pc' := 18) rfl rfl rfl sh_0 rfl ?_
      refine w_cV1n (pc' := 21) (v_la_copyFrom xs q_L1 q_L61 (Or.inl (by omega)) (hC.1.fl hF (Or.inl (by omega)) (by omega)) hB) (by decide) rfl rfl rfl (Nat.le_of_ble_eq_true rfl) (shL q_L61) rfl (fun m1 hm' => ?_)
      obtain ⟨hR_1, hF_1⟩ := hm'
      have hF_1 := hF.tr hF_1
      refine w_aload_n (pc' := 22) rfl rfl rfl rfl ?_
      refine w_getC (pc' := 25) rfl rfl rfl sh_0 rfl ?_
      refine w_iload_n (pc' := 26) rfl rfl rfl ?_
      refine w_iload_n (pc' := 27) rfl rfl rfl ?_
      refine w_cV2n (pc' := 30) (v_la_setNumber xs q_L61 hR_1 hY.1 (p := p) (x := k) (by omega)) (by decide) rfl rfl rfl (Nat.le_of_ble_eq_true rfl) (shL q_L61) rfl (fun m2 hm' => ?_)
      obtain ⟨hR_2, hF_2⟩ := hm'
      have hF_2 := hF_1.tr hF_2
      refine w_aload_n (pc' := 31) rfl rfl rfl rfl ?_
      refine w_cV0i (pc' := 34) (v_so xs (hC.2.2.1.eq (fun c c1 c2 => hF_2.lt (by omega)) (fun _ _ _ => rfl)) hB (hC.2.1.fl2 hF_2 rfl (by omega) hl6) hl6 hI.1.2.2.1 hR_2 (hY.u (c := 155) (k := p) (x := k) (show _ < 10 by omega) (by decide) (by decide)) (fun c j hc => q_Tu_ne (by omega)) rfl (q_Tu_ne (by omega))) (by decide) rfl rfl rfl (Nat.le_of_ble_eq_true rfl) sh_0 rfl (fun m3 hm' => ?_)
      have hF_3 := hF_2.tr hm'
      refine w_if_eq (t := 43) (pc' := 37) rfl (by decide) rfl (fun h34 => ?_) (fun h34 => ?_)
      · have hb3 : f_sn (q_Tu T 155 p k) = false := bB_0.mp h34
        refine w_iinc3 (pc' := 46) 1 rfl rfl ic_1 rfl ?_
        rw [nI_inc]
        refine w_goto (pc' := 4) rfl (by decide) ?_
        rw [show bto T 155 p (r + 1) k a = bto T 155 p r (k + 1) _ from congrArg (bto T 155 p r (k + 1)) (if_neg (by rw [hb3]; decide))]
        exact ih (k + 1) (by omega) _ _ hF_3
      · have hb4 : f_sn (q_Tu T 155 p k) = true := bB_n0.mp h34
        refine w_iload_n (pc' := 38) rfl rfl rfl ?_
        refine w_iconst (pc' := 39) 1 rfl rfl ic_1 ?_
        refine w_iload_n (pc' := 40) rfl rfl rfl ?_
        refine w_ishl (pc' := 41) rfl rfl ?_
        refine w_ior (pc' := 42) rfl rfl ?_
        refine w_ist2 (pc' := 43) rfl rfl rfl ?_
        refine w_iinc3 (pc' := 46) 1 rfl rfl ic_1 rfl ?_
        rw [nI_inc]
        refine w_goto (pc' := 4) rfl (by decide) ?_
        rw [show bto T 155 p (r + 1) k a = bto T 155 p r (k + 1) _ from congrArg (bto T 155 p r (k + 1)) (if_pos hb4)]
        exact ih (k + 1) (by omega) _ _ hF_3
set_option maxRecDepth 100000 in
set_option maxHeartbeats 4000000 in
theorem v_kpossible (xs : List Int32) {T : q_T} {m : am_Mm} (hC : q_Rc T m) (hI : q_I T) {p : Nat} (hp : p < T.1 153 0) : am_V xs 11 98 [.ref 0, .int (nI p)] m (am_qi (bto T 155 p 10 0 0) (fun m' => q_Fl 61 m m')) := by
  refine am_V_of ky_98 (Nat.le_of_ble_eq_true rfl) ?_
  show am_P xs 10 k_possibleNumbers 0 [some (.ref 0), some (.int (nI p)), none, none] [] m _
  refine w_iconst (pc' := 1) 0 rfl rfl ic_0 ?_
  refine w_ist2 (pc' := 2) rfl rfl rfl ?_
  refine w_iconst (pc' := 3) 0 rfl rfl ic_0 ?_
  refine w_ist3 (pc' := 4) rfl rfl rfl ?_
  exact lp_kpossible xs hC hI hp 10 0 (by omega) 0 m q_Fl.rf
set_option maxRecDepth 100000 in
set_option maxHeartbeats 4000000 in
theorem lp_klanding (xs : List Int32) {T : q_T} {m0 : am_Mm} (hC : q_Rc T m0) (hI : q_I T) {p n : Nat} (hp : p < T.1 153 0) (hn : n < 100) : ∀ (r k : Nat), k + r = 16 → ∀ (f : Nat) (mo : Int32) (m : am_Mm), f < 16 → q_Fl 61 m0 m → ∀ (l6 : Option Value), am_P xs 9 k_landing 8 [some (.ref 0), some (.int (nI p)), some (.int (nI n)), some (.int (nI f)), some (.int mo), some (.int (nI k)), l6] [] m (am_qi (nI (lan T p n r k mo f)) (fun m' => q_Fl 61 m0 m')) := by
  intro r
  induction r with
  | zero =>
    intro k hk f mo m hf hF l6
    have hF0 := hF
    have hY := hI.1.1
    have hB := hY.1
    have hl6 := hI.1.2.1
    have hn0 : T.1 153 0 < 7 := hB 153 0
    refine w_iload (pc' := 10) rfl rfl rfl ?_
    refine w_bipush (pc' := 12) 16 rfl rfl bp_16 ?_
    refine w_ic_ge (t := 62) (pc' := 15) rfl (by decide) rfl (fun h12 => ?_) (fun h12 => ?_)
    · have g1 : 16 ≤ k := (nI_leI (a := 16) (b := k) (by omega) (by omega)).mp h12
      refine w_iload_n (pc' := 63) rfl rfl rfl ?_
      refine w_iret rfl rfl rfl ?_
      exact ⟨rfl, hF⟩
    · have g2 : ¬ 16 ≤ k := fun q => h12 ((nI_leI (a := 16) (b := k) (by omega) (by omega)).mpr q)
      omega
  | succ r ih =>
    intro k hk f mo m hf hF l6
    have hF0 := hF
    have hY := hI.1.1
    have hB := hY.1
    have hl6 := hI.1.2.1
    have hn0 : T.1 153 0 < 7 := hB 153 0
    refine w_iload (pc' := 10) rfl rfl rfl ?_
    refine w_bipush (pc' := 12) 16 rfl rfl bp_16 ?_
    refine w_ic_ge (t := 62) (pc' := 15) rfl (by decide) rfl (fun h12 => ?_) (fun h12 => ?_)
    · have g1 : 16 ≤ k := (nI_leI (a := 16) (b := k) (by omega) (by omega)).mp h12
      omega
    · have g2 : ¬ 16 ≤ k := fun q => h12 ((nI_leI (a := 16) (b := k) (by omega) (by omega)).mpr q)
      refine w_aload_n (pc' := 16) rfl rfl rfl rfl ?_
      refine w_iload_n (pc' := 17) rfl rfl rfl ?_
      refine w_iload (pc' := 19) rfl rfl rfl ?_
      refine w_cV2n (pc' := 22) (v_tryAt xs hC hI hF (p := p) (x := k) (by omega) (by omega)) (by decide) rfl rfl rfl (Nat.le_of_ble_eq_true rfl) sh_0 rfl (fun m1 hm' => ?_)
      obtain ⟨hR_1, hF_1⟩ := hm'
      refine w_aload_n (pc' := 23) rfl rfl rfl rfl ?_
      refine w_getC (pc' := 26) rfl rfl rfl sh_0 rfl ?_
      refine w_iload_n (pc' := 27) rfl rfl rfl ?_
      refine w_cV1n (pc' := 30) (v_la_hoursGo xs q_L61 (n := n) (h0 := 0) hR_1 (hY.u (c := 156) (k := p) (x := k) (show _ < 16 by omega) (by decide) (by decide)) (hC.2.1.fl2 hF_1 rfl (by omega) hl6) hl6 (by omega)) (by decide) rfl rfl rfl (Nat.le_of_ble_eq_true rfl) (shL q_L61) rfl (fun m2 hm' => ?_)
      obtain ⟨hR_2, hF_2⟩ := hm'
      have hF_2 := hF_1.tr hF_2
      have hG_2 := f_gn_inv (n) 0 (q_Tu T 156 p k) (hY.u (c := 156) (k := p) (x := k) (show _ < 16 by omega) (by decide) (by decide)) (by omega)
      refine w_aload_n (pc' := 31) rfl rfl rfl rfl ?_
      refine w_getC (pc' := 34) rfl rfl rfl sh_0 rfl ?_
      refine w_getI (pc' := 37) rfl rfl rfl (shL q_L61) rfl ?_
      have b3 : (f_gn (n) (q_Tu T 156 p k)).1 153 10 < 65536 := hG_2.1.1 153 (10)
      rw [show m2.1 61 1 = nI ((f_gn (n) (q_Tu T 156 p k)).1 153 10) from hR_2.2.1]
      refine w_cS1i (pc' := 40) (v_bitCount xs m2 _) (by decide) rfl rfl rfl (Or.inl rfl) (Nat.le_of_ble_eq_true rfl) (fun m' hm' => ?_)
      rw [show m' = m2 from hm']
      clear hm' m'
      refine w_ist6 (pc' := 42) rfl rfl rfl ?_
      refine w_iload (pc' := 44) rfl rfl rfl ?_
      refine w_iload (pc' := 46) rfl rfl rfl ?_
      refine w_ic_le (t := 56) (pc' := 49) rfl (by decide) rfl (fun h46 => ?_) (fun h46 => ?_)
      · have hgt : ¬ mo < f_db n (q_Tu T 156 p k) := Int32.not_lt.mpr h46
        refine w_iinc5 (pc' := 59) 1 rfl rfl ic_1 rfl ?_
        rw [nI_inc]
        refine w_goto (pc' := 8) rfl (by decide) ?_
        rw [show lan T p n (r + 1) k mo f = lan T p n r (k + 1) mo f from if_neg hgt]
        exact ih (k + 1) (by omega) _ _ _ (by omega) hF_2 _
      · have hgt : mo < f_db n (q_Tu T 156 p k) := Int32.not_le.mp h46
        refine w_iload (pc' := 51) rfl rfl rfl ?_
        refine w_ist4 (pc' := 53) rfl rfl rfl ?_
        refine w_iload (pc' := 55) rfl rfl rfl ?_
        refine w_ist3 (pc' := 56) rfl rfl rfl ?_
        refine w_iinc5 (pc' := 59) 1 rfl rfl ic_1 rfl ?_
        rw [nI_inc]
        refine w_goto (pc' := 8) rfl (by decide) ?_
        rw [show lan T p n (r + 1) k mo f = lan T p n r (k + 1) (f_db n (q_Tu T 156 p k)) k from if_pos hgt]
        exact ih (k + 1) (by omega) _ _ _ (by omega) hF_2 _
set_option maxRecDepth 100000 in
set_option maxHeartbeats 4000000 in
theorem v_klanding (xs : List Int32) {T : q_T} {m : am_Mm} (hC : q_Rc T m) (hI : q_I T) {p n : Nat} (hp : p < T.1 153 0) (hn : n < 100) : am_V xs 10 93 [.ref 0, .int (nI p), .int (nI n)] m (am_qi (nI (f_lan T p n)) (fun m' => q_Fl 61 m m')) := by
  refine am_V_of ky_93 (Nat.le_of_ble_eq_true rfl) ?_
  show am_P xs 9 k_landing 0 [some (.ref 0), some (.int (nI p)), some (.int (nI n)), none, none, none, none] [] m _
  refine w_iconst (pc' := 1) 0 rfl rfl ic_0 ?_
  refine w_ist3 (pc' := 2) rfl rfl rfl ?_
  refine w_iconst (pc' := 3) (-1) rfl rfl ic_m1 ?_
  refine w_ist4 (pc' := 5) rfl rfl rfl ?_
  refine w_iconst (pc' := 6) 0 rfl rfl ic_0 ?_
  refine w_ist5 (pc' := 8) rfl rfl rfl ?_
  exact lp_klanding xs hC hI hp hn 16 0 (by omega) 0 (-1) m (by omega) q_Fl.rf none
theorem f_gn_1' {T : q_T} : f_gn 1 T = f_gh T := rfl
/-- WHOLE from a state that has come to an hour -/
def whx : Nat → Nat → q_T → Int32
  | 0, _, _ => -5
  | r + 1, k, T => if T.1 153 10 = 65535 then nI k else whx r (k + 1) (f_gh T)
theorem who_whx : ∀ (r k : Nat) (T U : q_T), wsn k T = U → who r k T = whx r k U := by
  intro r
  induction r with
  | zero => exact fun _ _ _ _ => rfl
  | succ r ih =>
    intro k T U h
    rw [who, whx, h]
    split
    · rfl
    · exact ih (k + 1) U (f_gh U) (if_neg (by omega))
set_option maxRecDepth 100000 in
set_option maxHeartbeats 4000000 in
theorem lp_kwhole (xs : List Int32) {T : q_T} {m0 : am_Mm} (hC : q_Rc T m0) (hI : q_I T) : ∀ (r k : Nat), k + r = 61 → ∀ (U : q_T) (m : am_Mm) (h0 : Nat), q_Rl 61 U m → q_Fl 61 m0 m → q_Y h0 U → U.2 = T.2 → h0 + r ≤ 100 → am_P xs 8 k_whole 13 [some (.ref 0), some (.int (nI k))] [] m (am_qi (whx r k U) (fun m' => q_Fl 61 m0 m')) := by
  intro r
  induction r with
  | zero =>
    intro k hk U m h0 hR hF hY hT2 hr
    have hB := hY.1
    have hl6 := hI.1.2.1
    refine w_iload_n (pc' := 14) rfl rfl rfl ?_
    refine w_bipush (pc' := 16) 60 rfl rfl bp_60 ?_
    refine w_ic_gt (t := 48) (pc' := 19) rfl (by decide) rfl (fun h16 => ?_) (fun h16 => ?_)
    · have g1 : 60 < k := (nI_ltI (a := 60) (b := k) (by omega) (by omega)).mp h16
      refine w_bipush (pc' := 50) (-5) rfl rfl bp_m5 ?_
      refine w_iret rfl rfl rfl ?_
      exact ⟨rfl, hF⟩
    · have g2 : ¬ 60 < k := fun q => h16 ((nI_ltI (a := 60) (b := k) (by omega) (by omega)).mpr q)
      omega
  | succ r ih =>
    intro k hk U m h0 hR hF hY hT2 hr
    have hB := hY.1
    have hl6 := hI.1.2.1
    refine w_iload_n (pc' := 14) rfl rfl rfl ?_
    refine w_bipush (pc' := 16) 60 rfl rfl bp_60 ?_
    refine w_ic_gt (t := 48) (pc' := 19) rfl (by decide) rfl (fun h16 => ?_) (fun h16 => ?_)
    · have g1 : 60 < k := (nI_ltI (a := 60) (b := k) (by omega) (by omega)).mp h16
      omega
    · have g2 : ¬ 60 < k := fun q => h16 ((nI_ltI (a := 60) (b := k) (by omega) (by omega)).mpr q)
      refine w_aload_n (pc' := 20) rfl rfl rfl rfl ?_
      refine w_getC (pc' := 23) rfl rfl rfl sh_0 rfl ?_
      refine w_getI (pc' := 26) rfl rfl rfl (shL q_L61) rfl ?_
      have b3 : U.1 153 10 < 65536 := hB 153 (10)
      rw [show m.1 61 1 = nI (U.1 153 10) from hR.2.1]
      refine w_ldc_w (pc' := 29) rfl rfl rfl rfl ?_
      refine w_ic_ne (t := 34) (pc' := 32) rfl (by decide) rfl (fun h29 => ?_) (fun h29 => ?_)
      · have g4 : ¬ (U.1 153 10) = 65535 := fun q => h29 ((nI_eq (a := (U.1 153 10)) (b := 65535) (by omega) (by omega)).mpr q)
        refine w_aload_n (pc' := 35) rfl rfl rfl rfl ?_
        refine w_getC (pc' := 38) rfl rfl rfl sh_0 rfl ?_
        refine w_iconst (pc' := 39) 1 rfl rfl ic_1 ?_
        refine w_cV1n (pc' := 42) (v_la_hoursGo xs q_L61 (n := 1) (h0 := h0) hR hY (hC.2.1.fl2 hF hT2 (by omega) (by rw [hT2]; exact hl6)) (by rw [hT2]; exact hl6) (by omega)) (by decide) rfl rfl rfl (Nat.le_of_ble_eq_true rfl) (shL q_L61) rfl (fun m1 hm' => ?_)
        obtain ⟨hR_1, hF_1⟩ := hm'
        have hR_1 : q_Rl 61 (f_gh U) m1 := hR_1
        have hF_1 := hF.tr hF_1
        refine w_iinc1 (pc' := 45) 1 rfl rfl ic_1 rfl ?_
        rw [nI_inc]
        refine w_goto (pc' := 13) rfl (by decide) ?_
        rw [show whx (r + 1) k U = whx r (k + 1) (f_gh U) from if_neg (by omega)]
        exact ih (k + 1) (by omega) (f_gh U) m1 (h0 + 1) hR_1 hF_1 (f_gh_Y hY (by omega)) ((f_gh_As hY (by omega)).1.trans hT2) (by omega)
      · have g5 : (U.1 153 10) = 65535 := (nI_eq (a := (U.1 153 10)) (b := 65535) (by omega) (by omega)).mp h29
        refine w_iload_n (pc' := 33) rfl rfl rfl ?_
        refine w_iret rfl rfl rfl ?_
        rw [show whx (r + 1) k U = nI k from if_pos (by omega)]
        exact ⟨rfl, hF⟩
set_option maxRecDepth 100000 in
set_option maxHeartbeats 4000000 in
theorem v_kwhole (xs : List Int32) {T : q_T} {m : am_Mm} (hC : q_Rc T m) (hI : q_I T) : am_V xs 9 83 [.ref 0] m (am_qi (f_who T) (fun m' => q_Fl 61 m m')) := by
  have hY := hI.1.1
  have hB := hY.1
  have hl6 := hI.1.2.1
  have hn0 : T.1 153 0 < 7 := hB 153 0
  have hF : q_Fl 61 m m := q_Fl.rf
  refine am_V_of ky_83 (Nat.le_of_ble_eq_true rfl) ?_
  show am_P xs 8 k_whole 0 [some (.ref 0), none] [] m _
  refine w_aload_n (pc' := 1) rfl rfl rfl rfl ?_
  refine w_getC (pc' := 4) rfl rfl rfl sh_0 rfl ?_
  refine w_aload_n (pc' := 5) rfl rfl rfl rfl ?_
  refine w_getC (pc' := 8) rfl rfl rfl sh_0 rfl ?_
  refine w_cV1n (pc' := 11) (v_la_copyFrom xs q_L1 q_L61 (Or.inl (by omega)) (hC.1.fl hF (Or.inl (by omega)) (by omega)) hB) (by decide) rfl rfl rfl (Nat.le_of_ble_eq_true rfl) (shL q_L61) rfl (fun m1 hm' => ?_)
  obtain ⟨hR_1, hF_1⟩ := hm'
  have hF_1 := hF.tr hF_1
  refine w_iconst (pc' := 12) 0 rfl rfl ic_0 ?_
  refine w_ist1 (pc' := 13) rfl rfl rfl ?_
  rw [show f_who T = whx 61 0 T from who_whx 61 0 T T (if_pos rfl)]
  exact lp_kwhole xs hC hI 61 0 (by omega) T m1 0 hR_1 hF_1 hY rfl (by omega)
