theorem und_im {T : q_T} {c k : Nat} (hc : ¬ c = 179) (h40 : ¬ (c = 153 ∧ k = 40)) : (q_und (q_im (q_Tu T 153 40 1))).1 c k = T.1 c k := by
  show (if q_pi c k < 182 then (q_im (q_Tu T 153 40 1)).1 179 (q_pi c k) else (q_im (q_Tu T 153 40 1)).1 c k) = _
  split
  · rename_i e
    show (if 179 = 179 ∧ q_pi c k < 182 then (q_Tu T 153 40 1).1 (q_kp (q_pi c k)).1 (q_kp (q_pi c k)).2 else _) = _
    rw [if_pos ⟨rfl, e⟩, q_kp_pi c k e]
    exact q_Tu_ne h40
  · show (if c = 179 ∧ k < 182 then _ else (q_Tu T 153 40 1).1 c k) = _
    rw [if_neg (fun q => hc q.1)]
    exact q_Tu_ne h40
theorem im_o {T : q_T} {c k : Nat} (hc : ¬ c = 179) (h40 : ¬ (c = 153 ∧ k = 40)) : (q_im (q_Tu T 153 40 1)).1 c k = T.1 c k := by
  show (if c = 179 ∧ k < 182 then _ else (q_Tu T 153 40 1).1 c k) = _
  rw [if_neg (fun q => hc q.1)]
  exact q_Tu_ne h40
theorem im_40 {T : q_T} : (q_im (q_Tu T 153 40 1)).1 153 40 = 1 := by
  show (if 153 = 179 ∧ 40 < 182 then (q_Tu T 153 40 1).1 (q_kp 40).1 (q_kp 40).2 else (q_Tu T 153 40 1).1 153 40) = _
  rw [if_neg (by omega)]
  exact q_Tu_eq
theorem und_und {T : q_T} : q_und (q_und T) = q_und T := by
  refine Prod.ext ?_ rfl
  funext c k
  show (if q_pi c k < 182 then (if q_pi 179 (q_pi c k) < 182 then T.1 179 (q_pi 179 (q_pi c k)) else T.1 179 (q_pi c k)) else (q_und T).1 c k) = (q_und T).1 c k
  split
  · rename_i e
    rw [if_neg (show ¬ q_pi 179 (q_pi c k) < 182 from (show ¬ 999 < 182 by omega))]
    exact (if_pos e).symm
  · rfl
theorem und_o {T : q_T} {c k : Nat} (h : q_pi c k = 999) : (q_und T).1 c k = T.1 c k := if_neg (by omega)
theorem und_x {T : q_T} {c k : Nat} (h : (c = 163 ∨ c = 178 ∨ c = 182 ∨ c = 183) ∨ (c = 153 ∧ (k = 12 ∨ k = 38 ∨ k = 40))) : (q_und T).1 c k = T.1 c k := by
  rcases h with (rfl | rfl | rfl | rfl) | ⟨rfl, rfl | rfl | rfl⟩ <;> exact und_o rfl
set_option maxRecDepth 100000 in
set_option maxHeartbeats 4000000 in
theorem v_k_image (xs : List Int32) {T : q_T} {m : am_Mm} (hC : q_Rc T m) (hI : q_I T) : am_V xs 6 117 [.ref 0] m (am_qi (f_image T).1 (q_Q (f_image T).2 m)) := by
  have hY := hI.1.1
  have hB := hY.1
  have hl6 := hI.1.2.1
  have hn0 : T.1 153 0 < 7 := hB 153 0
  have hF : q_Fl 1 m m := q_Fl.rf
  have hR1 := hC.1
  refine am_V_of ky_117 (Nat.le_of_ble_eq_true rfl) ?_
  show am_P xs 5 k_image 0 [some (.ref 0)] [] m _
  refine w_aload_n (pc' := 1) rfl rfl rfl rfl ?_
  refine w_getC (pc' := 4) rfl rfl rfl sh_0 rfl ?_
  refine w_aload_n (pc' := 5) rfl rfl rfl rfl ?_
  refine w_getC (pc' := 8) rfl rfl rfl sh_0 rfl ?_
  refine w_cV1n (pc' := 11) (v_la_copyFrom xs q_L1 q_L31 (Or.inl (by omega)) hC.1 hB) (by decide) rfl rfl rfl (Nat.le_of_ble_eq_true rfl) sh_31 rfl (fun m1 hm' => ?_)
  obtain ⟨hR_1, hF_1⟩ := hm'
  refine w_aload_n (pc' := 12) rfl rfl rfl rfl ?_
  refine w_getC (pc' := 15) rfl rfl rfl sh_0 rfl ?_
  refine w_aload_n (pc' := 16) rfl rfl rfl rfl ?_
  refine w_getC (pc' := 19) rfl rfl rfl sh_0 rfl ?_
  refine w_cV1n (pc' := 22) (v_bhcopy104 xs (hC.2.2.1.eq (fun c c1 c2 => hF_1.1 c (by omega)) (fun _ _ _ => rfl)) hB) (by decide) rfl rfl rfl (Nat.le_of_ble_eq_true rfl) sh_104 rfl (fun m2 hm' => ?_)
  obtain ⟨hH_2, hX_2, hY_2⟩ := hm'
  refine w_aload_n (pc' := 23) rfl rfl rfl rfl ?_
  refine w_iconst (pc' := 24) 1 rfl rfl ic_1 ?_
  refine w_putB (pc' := 27) rfl rfl rfl sh_0 rfl rfl (by decide) rfl ?_
  refine w_any (fun q => (∀ c, c ≠ 0 → q.1 c = m2.1 c) ∧ ((∀ k, k ≠ 5 → q.1 0 k = m2.1 0 k) ∧ (q.1 0 5 = nI 1 ∧ q.2 = m2.2))) ⟨fun c hc => am_u_nc hc, fun k hk => am_u_ne (by omega), am_u_eq, rfl⟩ (fun m3 hm3 => ?_)
  obtain ⟨z1, z2, z3, z4⟩ := hm3
  have e1 : ∀ c, c ≠ 0 → ¬ (31 ≤ c ∧ c < 61) → ¬ (105 ≤ c ∧ c < 117) → m3.1 c = m.1 c := fun c a1 a2 a3 => (z1 c a1).trans ((hX_2 c a3).trans (hF_1.1 c (by omega)))
  have e0 : ∀ k, k ≠ 5 → m3.1 0 k = m.1 0 k := fun k hk => (z2 k hk).trans (congrFun ((hX_2 0 (by omega)).trans (hF_1.1 0 (by omega))) k)
  have e2 : m3.2 = m.2 := z4.trans (hY_2.trans hF_1.2)
  refine w_aload_n (pc' := 28) rfl rfl rfl rfl ?_
  refine w_getC (pc' := 31) rfl rfl rfl sh_0 rfl ?_
  refine w_getI (pc' := 34) rfl rfl rfl (shL q_L1) rfl ?_
  rw [show m3.1 1 5 = nI (T.1 153 0) from (congrFun (e1 1 (by omega) (by omega) (by omega)) 5).trans hC.1.1]
  refine w_iret rfl rfl rfl ?_
  show am_qi _ _ _ _
  rw [show f_image T = (nI (T.1 153 0), q_im (q_Tu T 153 40 1)) from rfl]
  obtain ⟨x1, x2, x3, x4, x5, x6, x7⟩ := hC.2.2.2.1
  refine ⟨rfl, ⟨hC.1.eq (fun c c1 c2 _ => e1 c (by omega) (by omega) (by omega)) (fun c k hc => im_o (by omega) (by omega)) (by omega), hC.2.1.eq (fun c c1 c2 => e1 c (by omega) (by omega) (by omega)) rfl hl6, hC.2.2.1.eq (fun c c1 c2 => e1 c (by omega) (by omega) (by omega)) (fun c k hc => im_o (by omega) (by omega)), ?_, fun _ => ?_⟩, fun c hc => ⟨e1 c (by omega) (by omega) (by omega), by rw [e2]⟩⟩
  · unfold q_Rx
    rw [im_40, im_o (c := 153) (k := 12) (by omega) (by omega), im_o (c := 153) (k := 38) (by omega) (by omega), e1 117 (by omega) (by omega) (by omega), e1 118 (by omega) (by omega) (by omega), e1 120 (by omega) (by omega) (by omega), e1 121 (by omega) (by omega) (by omega), e0 8 (by omega)]
    refine ⟨x1, x2, fun i hi => ?_, x4, fun i h1 h2 => ?_, z3, fun t ht => ?_⟩
    · rw [im_o (by omega) (by omega)]
      exact x3 i hi
    · rw [im_o (by omega) (by omega)]
      exact x5 i h1 h2
    · rw [im_o (by omega) (by omega), im_o (by omega) (by omega), e1 (141 + 2 * t) (by omega) (by omega) (by omega), e2]
      exact x7 t ht
  · refine ⟨hR_1.eq (fun c c1 c2 _ => (z1 c (by omega)).trans (hX_2 c (by omega))) (fun c k hc => und_im (by omega) (by omega)) (by omega), hH_2.eq (fun c c1 c2 => z1 c (by omega)) (fun c k hc => und_im (by omega) (by omega))⟩
set_option maxRecDepth 100000 in
set_option maxHeartbeats 4000000 in
theorem v_k_undo (xs : List Int32) {T : q_T} {m : am_Mm} (hC : q_Rc T m) (hI : q_I T) : am_V xs 6 120 [.ref 0] m (am_qi (f_undo T).1 (q_Q (f_undo T).2 m)) := by
  have hY := hI.1.1
  have hB := hY.1
  have hl6 := hI.1.2.1
  have hn0 : T.1 153 0 < 7 := hB 153 0
  have hF : q_Fl 1 m m := q_Fl.rf
  have hR1 := hC.1
  have b40 : T.1 153 40 < 2 := hB 153 40
  refine am_V_of ky_120 (Nat.le_of_ble_eq_true rfl) ?_
  show am_P xs 5 k_undo 0 [some (.ref 0)] [] m _
  refine w_aload_n (pc' := 1) rfl rfl rfl rfl ?_
  refine w_getB (pc' := 4) rfl rfl rfl sh_0 rfl ?_
  rw [show m.1 0 5 = nI (T.1 153 40) from hC.2.2.2.1.2.2.2.2.2.1, am_b_n (by omega)]
  refine w_if_ne (t := 10) (pc' := 7) rfl (by decide) rfl (fun h4 => ?_) (fun h4 => ?_)
  · have h40 : T.1 153 40 = 1 := by
      have z : ¬ T.1 153 40 = 0 := fun q => h4 ((nI_eq (a := T.1 153 40) (b := 0) (by omega) (by omega)).mpr q)
      omega
    have hBu : q_Bd (q_und T) := (hI.2 h40).1.1
    have b1 : (q_und T).1 153 0 < 7 := hBu 153 0
    refine w_aload_n (pc' := 11) rfl rfl rfl rfl ?_
    refine w_getC (pc' := 14) rfl rfl rfl sh_0 rfl ?_
    refine w_aload_n (pc' := 15) rfl rfl rfl rfl ?_
    refine w_getC (pc' := 18) rfl rfl rfl sh_0 rfl ?_
    refine w_cV1n (pc' := 21) (v_la_copyFrom xs q_L31 q_L1 (Or.inr (by omega)) (hC.2.2.2.2 h40).1 hBu) (by decide) rfl rfl rfl (Nat.le_of_ble_eq_true rfl) (shL q_L1) rfl (fun m1 hm' => ?_)
    obtain ⟨hR_1, hF_1⟩ := hm'
    refine w_aload_n (pc' := 22) rfl rfl rfl rfl ?_
    refine w_getC (pc' := 25) rfl rfl rfl sh_0 rfl ?_
    refine w_aload_n (pc' := 26) rfl rfl rfl rfl ?_
    refine w_getC (pc' := 29) rfl rfl rfl sh_0 rfl ?_
    refine w_cV1n (pc' := 32) (v_bhcopy91 xs ((hC.2.2.2.2 h40).2.eq (fun c c1 c2 => hF_1.1 c (by omega)) (fun _ _ _ => rfl)) hBu) (by decide) rfl rfl rfl (Nat.le_of_ble_eq_true rfl) sh_91 rfl (fun m2 hm' => ?_)
    obtain ⟨hH_2, hX_2, hY_2⟩ := hm'
    have hR2 : q_Rl 1 (q_und T) m2 := hR_1.eq (fun c c1 c2 _ => hX_2 c (by omega)) (fun _ _ _ => rfl) (by omega)
    have e1 : ∀ c, ¬ (1 ≤ c ∧ c < 31) → ¬ (92 ≤ c ∧ c < 104) → m2.1 c = m.1 c := fun c a1 a2 => (hX_2 c a2).trans (hF_1.1 c (by omega))
    have e2 : m2.2 = m.2 := hY_2.trans hF_1.2
    refine w_aload_n (pc' := 33) rfl rfl rfl rfl ?_
    refine w_getC (pc' := 36) rfl rfl rfl sh_0 rfl ?_
    refine w_getI (pc' := 39) rfl rfl rfl (shL q_L1) rfl ?_
    rw [show m2.1 1 5 = nI ((q_und T).1 153 0) from hR2.1]
    refine w_iret rfl rfl rfl ?_
    have hf : f_undo T = (nI ((q_und T).1 153 0), q_und T) := by unfold f_undo; rw [if_neg (by omega)]
    rw [hf]
    refine ⟨rfl, ⟨hR2, hC.2.1.eq (fun c c1 c2 => e1 c (by omega) (by omega)) rfl hl6, hH_2, hC.2.2.2.1.eq (fun c hc => ⟨e1 c (by omega) (by omega), by rw [e2]⟩) rfl (fun c k hc => und_x hc), fun _ => ?_⟩, fun c hc => ⟨e1 c (by omega) (by omega), by rw [e2]⟩⟩
    rw [und_und]
    exact ⟨(hC.2.2.2.2 h40).1.eq (fun c c1 c2 _ => e1 c (by omega) (by omega)) (fun _ _ _ => rfl) (by omega), (hC.2.2.2.2 h40).2.eq (fun c c1 c2 => e1 c (by omega) (by omega)) (fun _ _ _ => rfl)⟩
  · have h40 : T.1 153 40 = 0 := (nI_eq (a := T.1 153 40) (b := 0) (by omega) (by omega)).mp (by first | exact h4 | exact Decidable.not_not.mp h4)
    refine w_bipush (pc' := 9) (-3) rfl rfl bp_m3 ?_
    refine w_iret rfl rfl rfl ?_
    have hf : f_undo T = (-3, T) := by unfold f_undo; rw [if_pos h40]
    rw [hf]
    exact ⟨rfl, hC.Q hI (q_Fq.rf)⟩
