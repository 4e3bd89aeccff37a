def q_Tr (T T' : q_T) (n : Nat) : Prop := (∀ c k, c ≠ 178 → ¬ (c = 153 ∧ k = 38) → T'.1 c k = T.1 c k) ∧ (T'.1 153 38 ≤ T.1 153 38 + n ∧ T'.2 = T.2)
theorem q_Tr.rf {T : q_T} : q_Tr T T 0 := ⟨fun _ _ _ _ => rfl, Nat.le_refl _, rfl⟩
theorem q_Tr.tr {T T' T'' : q_T} {n n' : Nat} (h : q_Tr T T' n) (h' : q_Tr T' T'' n') : q_Tr T T'' (n + n') := ⟨fun c k a b => (h'.1 c k a b).trans (h.1 c k a b), by
  have := h.2.1
  have := h'.2.1
  omega, h'.2.2.trans h.2.2⟩
theorem q_Tr.le {T T' : q_T} {n n' : Nat} (h : q_Tr T T' n) (hn : n ≤ n') : q_Tr T T' n' := ⟨h.1, by
  have := h.2.1
  omega, h.2.2⟩
def q_ran (T : q_T) (b : Nat) : q_T := q_Tu (if T.1 153 38 < 20 then q_Tu T 178 (T.1 153 38) b else T) 153 38 (T.1 153 38 + 1)
theorem q_Tu_ne {T : q_T} {c k c' k' x : Nat} (h : ¬ (c' = c ∧ k' = k)) : (q_Tu T c k x).1 c' k' = T.1 c' k' := if_neg h
theorem q_Tu_eq {T : q_T} {c k x : Nat} : (q_Tu T c k x).1 c k = x := if_pos ⟨rfl, rfl⟩
theorem q_ran_tr (T : q_T) (b : Nat) : q_Tr T (q_ran T b) 1 := by
  refine ⟨fun c k h1 h2 => ?_, ?_, ?_⟩
  · unfold q_ran
    rw [q_Tu_ne h2]
    split
    · exact q_Tu_ne (fun q => h1 q.1)
    · rfl
  · unfold q_ran
    rw [q_Tu_eq]
    exact Nat.le_refl _
  · unfold q_ran
    split <;> rfl
def f_w0 (T : q_T) (p : Nat) (x : Int32) : Int32 × q_T := (x + nI p, q_ran T 10)
def f_w2 (T : q_T) (p : Nat) (x : Int32) : Int32 × q_T := f_w0 (q_ran T 30) p (x * 3)
def f_w4 (T : q_T) (p : Nat) (x : Int32) : Int32 × q_T := (-(f_w0 (q_ran T 50) p x).1, (f_w0 (q_ran T 50) p x).2)
def f_w6 (T : q_T) (p : Nat) (x : Int32) : Int32 × q_T := ((f_w0 (q_ran T 71) p x).1 ^^^ nI (T.1 155 p), (f_w0 (q_ran T 71) p x).2)
def f_wp (k : Nat) (T : q_T) (p : Nat) (x : Int32) : Int32 × q_T := match k with
  | 2 => f_w2 T p x
  | 5 => f_w2 T p x
  | 4 => f_w4 T p x
  | 6 => f_w6 T p x
  | _ => f_w0 T p x
theorem f_w0_tr (T : q_T) (p : Nat) (x : Int32) : q_Tr T (f_w0 T p x).2 2 := (q_ran_tr T 10).le (by omega)
theorem f_w2_tr (T : q_T) (p : Nat) (x : Int32) : q_Tr T (f_w2 T p x).2 2 := (q_ran_tr T 30).tr (q_ran_tr _ 10)
theorem f_w4_tr (T : q_T) (p : Nat) (x : Int32) : q_Tr T (f_w4 T p x).2 2 := (q_ran_tr T 50).tr (q_ran_tr _ 10)
theorem f_w6_tr (T : q_T) (p : Nat) (x : Int32) : q_Tr T (f_w6 T p x).2 2 := (q_ran_tr T 71).tr (q_ran_tr _ 10)
theorem f_wp_tr (k : Nat) (T : q_T) (p : Nat) (x : Int32) : q_Tr T (f_wp k T p x).2 2 := by
  unfold f_wp
  split
  · exact f_w2_tr T p x
  · exact f_w2_tr T p x
  · exact f_w4_tr T p x
  · exact f_w6_tr T p x
  · exact f_w0_tr T p x
set_option maxRecDepth 100000 in
set_option maxHeartbeats 4000000 in
theorem v_m_ran (xs : List Int32) {T : q_T} {m : am_Mm} (h : q_Rm T m) (ht : T.1 153 38 < 99) (b : Nat) : am_V xs 1 213 [.ref 153, .int (nI b)] m (am_qn (q_G (q_ran T b) m)) := by
  have hF : q_FC m m := q_FC.rf
  refine am_V_of ky_213 (Nat.le_of_ble_eq_true rfl) ?_
  show am_P xs 0 m_ran 0 [some (.ref 153), some (.int (nI b))] [] m _
  refine w_aload_n (pc' := 1) rfl rfl rfl rfl ?_
  refine w_getI (pc' := 4) rfl rfl rfl sh_153 rfl ?_
  rw [show m.1 153 38 = nI (T.1 153 (38)) from (rf_38 h :)]
  refine w_bipush (pc' := 6) 20 rfl rfl bp_20 ?_
  refine w_ic_ge (t := 19) (pc' := 9) rfl (by decide) rfl (fun h6 => ?_) (fun h6 => ?_)
  · have g1 : 20 ≤ (T.1 153 (38)) := (nI_leI (a := 20) (b := (T.1 153 (38))) (by omega) (by omega)).mp h6
    refine w_aload_n (pc' := 20) rfl rfl rfl rfl ?_
    refine w_dup (pc' := 21) rfl rfl rfl ?_
    refine w_getI (pc' := 24) rfl rfl rfl sh_153 rfl ?_
    rw [show m.1 153 38 = nI (T.1 153 (38)) from (rf_38 h :)]
    refine w_iconst (pc' := 25) 1 rfl rfl ic_1 ?_
    refine w_iadd (pc' := 26) rfl rfl ?_
    rw [show nI ((T.1 153 (38))) + (1 : Int32) = nI ((T.1 153 (38)) + 1) from nI_add _ _]
    refine w_putI (pc' := 29) rfl rfl rfl sh_153 rfl rfl rfl ?_
    refine w_gen (h.u (c := 153) (k := 38) (x := (T.1 153 (38)) + 1) rfl (y := _) (show _ = q_enc _ _ _ from rfl)) (hF.u (by decide)) (fun m1 h_1 hF_1 => ?_)
    refine w_vret rfl rfl ?_
    rw [show q_ran T b = (q_Tu T 153 (38) ((T.1 153 (38)) + 1)) by simp [q_ran, g1, Nat.not_lt.mpr g1]]
    exact ⟨rfl, h_1, hF_1⟩
  · have g2 : ¬ 20 ≤ (T.1 153 (38)) := fun q => h6 ((nI_leI (a := 20) (b := (T.1 153 (38))) (by omega) (by omega)).mpr q)
    refine w_aload_n (pc' := 10) rfl rfl rfl rfl ?_
    refine w_getC (pc' := 13) rfl rfl rfl sh_153 rfl ?_
    refine w_aload_n (pc' := 14) rfl rfl rfl rfl ?_
    refine w_getI (pc' := 17) rfl rfl rfl sh_153 rfl ?_
    rw [show m.1 153 38 = nI (T.1 153 (38)) from (rf_38 h :)]
    refine w_iload_n (pc' := 18) rfl rfl rfl ?_
    refine w_iast (j := ((T.1 153 (38)))) (pc' := 19) rfl rfl sh_178 rfl (by omega) (by decide) ?_
    refine w_gen (h.u (c := 178) (k := (T.1 153 (38))) (x := b) rfl (y := _) (show _ = q_enc _ _ _ from rfl)) (hF.u (by decide)) (fun m2 h_2 hF_2 => ?_)
    refine w_aload_n (pc' := 20) rfl rfl rfl rfl ?_
    refine w_dup (pc' := 21) rfl rfl rfl ?_
    refine w_getI (pc' := 24) rfl rfl rfl sh_153 rfl ?_
    rw [show m2.1 153 38 = nI (T.1 153 (38)) from (rf_38 h_2 :)]
    refine w_iconst (pc' := 25) 1 rfl rfl ic_1 ?_
    refine w_iadd (pc' := 26) rfl rfl ?_
    rw [show nI ((T.1 153 (38))) + (1 : Int32) = nI ((T.1 153 (38)) + 1) from nI_add _ _]
    refine w_putI (pc' := 29) rfl rfl rfl sh_153 rfl rfl rfl ?_
    refine w_gen (h_2.u (c := 153) (k := 38) (x := (T.1 153 (38)) + 1) rfl (y := _) (show _ = q_enc _ _ _ from rfl)) (hF_2.u (by decide)) (fun m3 h_3 hF_3 => ?_)
    refine w_vret rfl rfl ?_
    rw [show q_ran T b = (q_Tu (q_Tu T 178 ((T.1 153 (38))) (b)) 153 (38) ((T.1 153 (38)) + 1)) by simp [q_ran, g2, Nat.lt_of_not_le g2]]
    exact ⟨rfl, h_3, hF_3⟩
set_option maxRecDepth 100000 in
set_option maxHeartbeats 4000000 in
theorem v_w0 (xs : List Int32) {T : q_T} {m : am_Mm} (h : q_Rm T m) {p : Nat} (hp : p < 6) (hk : T.1 154 p < 7) (ht : T.1 153 38 < 90) (x : Int32) : am_V xs 2 212 [.ref 153, .int (nI p), .int (nI 0), .int x] m (am_qi (f_w0 T p x).1 (q_G (f_w0 T p x).2 m)) := by
  have hF : q_FC m m := q_FC.rf
  have t_0 : q_Tr T T 0 := q_Tr.rf
  refine am_V_of ky_212 (Nat.le_of_ble_eq_true rfl) ?_
  show am_P xs 1 m_weeps 0 [some (.ref 153), some (.int (nI p)), some (.int (nI 0)), some (.int x)] [] m _
  refine w_iload_n (pc' := 1) rfl rfl rfl ?_
  refine w_tsw (t := 106) rfl rfl (fun hD => absurd hD (by decide)) (fun z _ _ hz => ?_)
  obtain rfl : (0 : Int) = z := (show (nI 0).toInt = 0 by decide).symm.trans hz
  refine ⟨95, 96, rfl, rfl, ?_⟩
  refine w_aload_n (pc' := 97) rfl rfl rfl rfl ?_
  refine w_bipush (pc' := 99) 10 rfl rfl bp_10 ?_
  refine w_cV1n (pc' := 102) (v_m_ran xs h (by have := t_0.2.1; omega) 10) (by decide) rfl rfl rfl (Nat.le_of_ble_eq_true rfl) sh_153 rfl (fun m1 hm' => ?_)
  obtain ⟨h_1, hG_1⟩ := hm'
  have hF_1 := hF.tr hG_1
  have t_1 := t_0.tr (q_ran_tr T 10)
  refine w_iload_n (pc' := 103) rfl rfl rfl ?_
  refine w_iload_n (pc' := 104) rfl rfl rfl ?_
  refine w_iadd (pc' := 105) rfl rfl ?_
  refine w_iret rfl rfl rfl ?_
  exact ⟨rfl, h_1, hF_1⟩
set_option maxRecDepth 100000 in
set_option maxHeartbeats 4000000 in
theorem v_w1 (xs : List Int32) {T : q_T} {m : am_Mm} (h : q_Rm T m) {p : Nat} (hp : p < 6) (hk : T.1 154 p < 7) (ht : T.1 153 38 < 90) (x : Int32) : am_V xs 3 212 [.ref 153, .int (nI p), .int (nI 1), .int x] m (am_qi (f_w0 T p x).1 (q_G (f_w0 T p x).2 m)) := by
  have hF : q_FC m m := q_FC.rf
  have t_0 : q_Tr T T 0 := q_Tr.rf
  refine am_V_of ky_212 (Nat.le_of_ble_eq_true rfl) ?_
  show am_P xs 2 m_weeps 0 [some (.ref 153), some (.int (nI p)), some (.int (nI 1)), some (.int x)] [] m _
  refine w_iload_n (pc' := 1) rfl rfl rfl ?_
  refine w_tsw (t := 106) rfl rfl (fun hD => absurd hD (by decide)) (fun z _ _ hz => ?_)
  obtain rfl : (1 : Int) = z := (show (nI 1).toInt = 1 by decide).symm.trans hz
  refine ⟨105, 106, rfl, rfl, ?_⟩
  refine w_aload_n (pc' := 107) rfl rfl rfl rfl ?_
  refine w_iload_n (pc' := 108) rfl rfl rfl ?_
  refine w_iload_n (pc' := 109) rfl rfl rfl ?_
  refine w_cS1i (pc' := 112) (v_m_above xs _ (k := 1) (by omega)) (by decide) rfl rfl rfl (Or.inl rfl) (Nat.le_of_ble_eq_true rfl) (fun m' hm' => ?_)
  rw [show m' = m from hm']
  clear hm' m'
  rw [show f_ab 1 = 0 from rfl]
  refine w_iload_n (pc' := 113) rfl rfl rfl ?_
  refine w_cV3i (pc' := 116) (v_w0 xs h hp (by rw [t_0.1 154 p (by decide) (by omega)]; exact hk) (by have := t_0.2.1; omega) x) (by decide) rfl rfl rfl (Nat.le_of_ble_eq_true rfl) sh_153 rfl (fun m1 hm' => ?_)
  obtain ⟨h_1, hG_1⟩ := hm'
  have hF_1 := hF.tr hG_1
  have t_1 := t_0.tr (f_w0_tr T p x)
  refine w_iret rfl rfl rfl ?_
  exact ⟨rfl, h_1, hF_1⟩
set_option maxRecDepth 100000 in
set_option maxHeartbeats 4000000 in
theorem v_w3 (xs : List Int32) {T : q_T} {m : am_Mm} (h : q_Rm T m) {p : Nat} (hp : p < 6) (hk : T.1 154 p < 7) (ht : T.1 153 38 < 90) (x : Int32) : am_V xs 3 212 [.ref 153, .int (nI p), .int (nI 3), .int x] m (am_qi (f_w0 T p x).1 (q_G (f_w0 T p x).2 m)) := by
  have hF : q_FC m m := q_FC.rf
  have t_0 : q_Tr T T 0 := q_Tr.rf
  refine am_V_of ky_212 (Nat.le_of_ble_eq_true rfl) ?_
  show am_P xs 2 m_weeps 0 [some (.ref 153), some (.int (nI p)), some (.int (nI 3)), some (.int x)] [] m _
  refine w_iload_n (pc' := 1) rfl rfl rfl ?_
  refine w_tsw (t := 106) rfl rfl (fun hD => absurd hD (by decide)) (fun z _ _ hz => ?_)
  obtain rfl : (3 : Int) = z := (show (nI 3).toInt = 3 by decide).symm.trans hz
  refine ⟨105, 106, rfl, rfl, ?_⟩
  refine w_aload_n (pc' := 107) rfl rfl rfl rfl ?_
  refine w_iload_n (pc' := 108) rfl rfl rfl ?_
  refine w_iload_n (pc' := 109) rfl rfl rfl ?_
  refine w_cS1i (pc' := 112) (v_m_above xs _ (k := 3) (by omega)) (by decide) rfl rfl rfl (Or.inl rfl) (Nat.le_of_ble_eq_true rfl) (fun m' hm' => ?_)
  rw [show m' = m from hm']
  clear hm' m'
  rw [show f_ab 3 = 0 from rfl]
  refine w_iload_n (pc' := 113) rfl rfl rfl ?_
  refine w_cV3i (pc' := 116) (v_w0 xs h hp (by rw [t_0.1 154 p (by decide) (by omega)]; exact hk) (by have := t_0.2.1; omega) x) (by decide) rfl rfl rfl (Nat.le_of_ble_eq_true rfl) sh_153 rfl (fun m1 hm' => ?_)
  obtain ⟨h_1, hG_1⟩ := hm'
  have hF_1 := hF.tr hG_1
  have t_1 := t_0.tr (f_w0_tr T p x)
  refine w_iret rfl rfl rfl ?_
  exact ⟨rfl, h_1, hF_1⟩
set_option maxRecDepth 100000 in
set_option maxHeartbeats 4000000 in
theorem v_w2 (xs : List Int32) {T : q_T} {m : am_Mm} (h : q_Rm T m) {p : Nat} (hp : p < 6) (hk : T.1 154 p < 7) (ht : T.1 153 38 < 89) (x : Int32) : am_V xs 3 212 [.ref 153, .int (nI p), .int (nI 2), .int x] m (am_qi (f_w2 T p x).1 (q_G (f_w2 T p x).2 m)) := by
  have hF : q_FC m m := q_FC.rf
  have t_0 : q_Tr T T 0 := q_Tr.rf
  refine am_V_of ky_212 (Nat.le_of_ble_eq_true rfl) ?_
  show am_P xs 2 m_weeps 0 [some (.ref 153), some (.int (nI p)), some (.int (nI 2)), some (.int x)] [] m _
  refine w_iload_n (pc' := 1) rfl rfl rfl ?_
  refine w_tsw (t := 106) rfl rfl (fun hD => absurd hD (by decide)) (fun z _ _ hz => ?_)
  obtain rfl : (2 : Int) = z := (show (nI 2).toInt = 2 by decide).symm.trans hz
  refine ⟨43, 44, rfl, rfl, ?_⟩
  refine w_aload_n (pc' := 45) rfl rfl rfl rfl ?_
  refine w_bipush (pc' := 47) 30 rfl rfl bp_30 ?_
  refine w_cV1n (pc' := 50) (v_m_ran xs h (by have := t_0.2.1; omega) 30) (by decide) rfl rfl rfl (Nat.le_of_ble_eq_true rfl) sh_153 rfl (fun m1 hm' => ?_)
  obtain ⟨h_1, hG_1⟩ := hm'
  have hF_1 := hF.tr hG_1
  have t_1 := t_0.tr (q_ran_tr T 30)
  refine w_aload_n (pc' := 51) rfl rfl rfl rfl ?_
  refine w_iload_n (pc' := 52) rfl rfl rfl ?_
  refine w_iconst (pc' := 53) 0 rfl rfl ic_0 ?_
  refine w_iload_n (pc' := 54) rfl rfl rfl ?_
  refine w_iconst (pc' := 55) 3 rfl rfl ic_3 ?_
  refine w_imul (pc' := 56) rfl rfl ?_
  refine w_cV3i (pc' := 59) (v_w0 xs h_1 hp (by rw [t_1.1 154 p (by decide) (by omega)]; exact hk) (by have := t_1.2.1; omega) (x * 3)) (by decide) rfl rfl rfl (Nat.le_of_ble_eq_true rfl) sh_153 rfl (fun m2 hm' => ?_)
  obtain ⟨h_2, hG_2⟩ := hm'
  have hF_2 := hF_1.tr hG_2
  have t_2 := t_1.tr (f_w0_tr (q_ran T 30) p (x * 3))
  refine w_iret rfl rfl rfl ?_
  exact ⟨rfl, h_2, hF_2⟩
set_option maxRecDepth 100000 in
set_option maxHeartbeats 4000000 in
theorem v_w4 (xs : List Int32) {T : q_T} {m : am_Mm} (h : q_Rm T m) {p : Nat} (hp : p < 6) (hk : T.1 154 p < 7) (ht : T.1 153 38 < 89) (x : Int32) : am_V xs 4 212 [.ref 153, .int (nI p), .int (nI 4), .int x] m (am_qi (f_w4 T p x).1 (q_G (f_w4 T p x).2 m)) := by
  have hF : q_FC m m := q_FC.rf
  have t_0 : q_Tr T T 0 := q_Tr.rf
  refine am_V_of ky_212 (Nat.le_of_ble_eq_true rfl) ?_
  show am_P xs 3 m_weeps 0 [some (.ref 153), some (.int (nI p)), some (.int (nI 4)), some (.int x)] [] m _
  refine w_iload_n (pc' := 1) rfl rfl rfl ?_
  refine w_tsw (t := 106) rfl rfl (fun hD => absurd hD (by decide)) (fun z _ _ hz => ?_)
  obtain rfl : (4 : Int) = z := (show (nI 4).toInt = 4 by decide).symm.trans hz
  refine ⟨59, 60, rfl, rfl, ?_⟩
  refine w_aload_n (pc' := 61) rfl rfl rfl rfl ?_
  refine w_bipush (pc' := 63) 50 rfl rfl bp_50 ?_
  refine w_cV1n (pc' := 66) (v_m_ran xs h (by have := t_0.2.1; omega) 50) (by decide) rfl rfl rfl (Nat.le_of_ble_eq_true rfl) sh_153 rfl (fun m1 hm' => ?_)
  obtain ⟨h_1, hG_1⟩ := hm'
  have hF_1 := hF.tr hG_1
  have t_1 := t_0.tr (q_ran_tr T 50)
  refine w_aload_n (pc' := 67) rfl rfl rfl rfl ?_
  refine w_iload_n (pc' := 68) rfl rfl rfl ?_
  refine w_iconst (pc' := 69) 1 rfl rfl ic_1 ?_
  refine w_iload_n (pc' := 70) rfl rfl rfl ?_
  refine w_cV3i (pc' := 73) (v_w1 xs h_1 hp (by rw [t_1.1 154 p (by decide) (by omega)]; exact hk) (by have := t_1.2.1; omega) x) (by decide) rfl rfl rfl (Nat.le_of_ble_eq_true rfl) sh_153 rfl (fun m2 hm' => ?_)
  obtain ⟨h_2, hG_2⟩ := hm'
  have hF_2 := hF_1.tr hG_2
  have t_2 := t_1.tr (f_w0_tr (q_ran T 50) p x)
  refine w_ineg (pc' := 74) rfl rfl ?_
  refine w_iret rfl rfl rfl ?_
  exact ⟨rfl, h_2, hF_2⟩
set_option maxRecDepth 100000 in
set_option maxHeartbeats 4000000 in
theorem v_w5 (xs : List Int32) {T : q_T} {m : am_Mm} (h : q_Rm T m) {p : Nat} (hp : p < 6) (hk : T.1 154 p < 7) (ht : T.1 153 38 < 89) (x : Int32) : am_V xs 4 212 [.ref 153, .int (nI p), .int (nI 5), .int x] m (am_qi (f_w2 T p x).1 (q_G (f_w2 T p x).2 m)) := by
  have hF : q_FC m m := q_FC.rf
  have t_0 : q_Tr T T 0 := q_Tr.rf
  refine am_V_of ky_212 (Nat.le_of_ble_eq_true rfl) ?_
  show am_P xs 3 m_weeps 0 [some (.ref 153), some (.int (nI p)), some (.int (nI 5)), some (.int x)] [] m _
  refine w_iload_n (pc' := 1) rfl rfl rfl ?_
  refine w_tsw (t := 106) rfl rfl (fun hD => absurd hD (by decide)) (fun z _ _ hz => ?_)
  obtain rfl : (5 : Int) = z := (show (nI 5).toInt = 5 by decide).symm.trans hz
  refine ⟨105, 106, rfl, rfl, ?_⟩
  refine w_aload_n (pc' := 107) rfl rfl rfl rfl ?_
  refine w_iload_n (pc' := 108) rfl rfl rfl ?_
  refine w_iload_n (pc' := 109) rfl rfl rfl ?_
  refine w_cS1i (pc' := 112) (v_m_above xs _ (k := 5) (by omega)) (by decide) rfl rfl rfl (Or.inl rfl) (Nat.le_of_ble_eq_true rfl) (fun m' hm' => ?_)
  rw [show m' = m from hm']
  clear hm' m'
  rw [show f_ab 5 = 2 from rfl]
  refine w_iload_n (pc' := 113) rfl rfl rfl ?_
  refine w_cV3i (pc' := 116) (v_w2 xs h hp (by rw [t_0.1 154 p (by decide) (by omega)]; exact hk) (by have := t_0.2.1; omega) x) (by decide) rfl rfl rfl (Nat.le_of_ble_eq_true rfl) sh_153 rfl (fun m1 hm' => ?_)
  obtain ⟨h_1, hG_1⟩ := hm'
  have hF_1 := hF.tr hG_1
  have t_1 := t_0.tr (f_w2_tr T p x)
  refine w_iret rfl rfl rfl ?_
  exact ⟨rfl, h_1, hF_1⟩
set_option maxRecDepth 100000 in
set_option maxHeartbeats 4000000 in
theorem v_w6 (xs : List Int32) {T : q_T} {m : am_Mm} (h : q_Rm T m) {p : Nat} (hp : p < 6) (hk : T.1 154 p < 7) (ht : T.1 153 38 < 89) (x : Int32) : am_V xs 4 212 [.ref 153, .int (nI p), .int (nI 6), .int x] m (am_qi (f_w6 T p x).1 (q_G (f_w6 T p x).2 m)) := by
  have hF : q_FC m m := q_FC.rf
  have t_0 : q_Tr T T 0 := q_Tr.rf
  refine am_V_of ky_212 (Nat.le_of_ble_eq_true rfl) ?_
  show am_P xs 3 m_weeps 0 [some (.ref 153), some (.int (nI p)), some (.int (nI 6)), some (.int x)] [] m _
  refine w_iload_n (pc' := 1) rfl rfl rfl ?_
  refine w_tsw (t := 106) rfl rfl (fun hD => absurd hD (by decide)) (fun z _ _ hz => ?_)
  obtain rfl : (6 : Int) = z := (show (nI 6).toInt = 6 by decide).symm.trans hz
  refine ⟨74, 75, rfl, rfl, ?_⟩
  refine w_aload_n (pc' := 76) rfl rfl rfl rfl ?_
  refine w_bipush (pc' := 78) 71 rfl rfl bp_71 ?_
  refine w_cV1n (pc' := 81) (v_m_ran xs h (by have := t_0.2.1; omega) 71) (by decide) rfl rfl rfl (Nat.le_of_ble_eq_true rfl) sh_153 rfl (fun m1 hm' => ?_)
  obtain ⟨h_1, hG_1⟩ := hm'
  have hF_1 := hF.tr hG_1
  have t_1 := t_0.tr (q_ran_tr T 71)
  refine w_aload_n (pc' := 82) rfl rfl rfl rfl ?_
  refine w_iload_n (pc' := 83) rfl rfl rfl ?_
  refine w_iconst (pc' := 84) 3 rfl rfl ic_3 ?_
  refine w_iload_n (pc' := 85) rfl rfl rfl ?_
  refine w_cV3i (pc' := 88) (v_w3 xs h_1 hp (by rw [t_1.1 154 p (by decide) (by omega)]; exact hk) (by have := t_1.2.1; omega) x) (by decide) rfl rfl rfl (Nat.le_of_ble_eq_true rfl) sh_153 rfl (fun m2 hm' => ?_)
  obtain ⟨h_2, hG_2⟩ := hm'
  have hF_2 := hF_1.tr hG_2
  have t_2 := t_1.tr (f_w0_tr (q_ran T 71) p x)
  refine w_aload_n (pc' := 89) rfl rfl rfl rfl ?_
  refine w_getC (pc' := 92) rfl rfl rfl sh_153 rfl ?_
  refine w_iload_n (pc' := 93) rfl rfl rfl ?_
  refine w_iald (j := (p)) (pc' := 94) rfl rfl sh_155 rfl (by omega) (by decide) ?_
  rw [show m2.1 155 p = nI (T.1 155 p) from (rd_155 h_2 _).trans (congrArg nI (t_2.1 155 p (by decide) (by omega)))]
  refine w_ixor (pc' := 95) rfl rfl ?_
  refine w_iret rfl rfl rfl ?_
  exact ⟨rfl, h_2, hF_2⟩
theorem v_wp (xs : List Int32) {T : q_T} {m : am_Mm} (h : q_Rm T m) {p : Nat} (hp : p < 6) (hk : T.1 154 p < 7) (ht : T.1 153 38 < 89) (k : Nat) (hk7 : k < 7) (x : Int32) : am_V xs 4 212 [.ref 153, .int (nI p), .int (nI k), .int x] m (am_qi (f_wp k T p x).1 (q_G (f_wp k T p x).2 m)) := by
  rcases (show k = 0 ∨ k = 1 ∨ k = 2 ∨ k = 3 ∨ k = 4 ∨ k = 5 ∨ k = 6 by omega) with rfl | rfl | rfl | rfl | rfl | rfl | rfl
  · exact (v_w0 xs h hp hk (by omega) x).up (by decide)
  · exact (v_w1 xs h hp hk (by omega) x).up (by decide)
  · exact (v_w2 xs h hp hk (by omega) x).up (by decide)
  · exact (v_w3 xs h hp hk (by omega) x).up (by decide)
  · exact (v_w4 xs h hp hk (by omega) x).up (by decide)
  · exact (v_w5 xs h hp hk (by omega) x).up (by decide)
  · exact (v_w6 xs h hp hk (by omega) x).up (by decide)
def f_d0 (T : q_T) (p : Nat) (x : Int32) : Int32 × q_T := ((f_wp (T.1 154 p) (q_ran T 11) p x).1 - nI (T.1 155 p), (f_wp (T.1 154 p) (q_ran T 11) p x).2)
def f_d1 (T : q_T) (p : Nat) (x : Int32) : Int32 × q_T := ((f_d0 (q_ran T 20) p x).1 ^^^ 6, (f_d0 (q_ran T 20) p x).2)
def f_d4 (T : q_T) (p : Nat) (x : Int32) : Int32 × q_T := f_d1 (q_ran T 51) p (x + 1)
def f_d6 (T : q_T) (p : Nat) (x : Int32) : Int32 × q_T := ((f_d0 (q_ran T 70) p x).1 + (f_w0 (f_d0 (q_ran T 70) p x).2 p 2).1, (f_w0 (f_d0 (q_ran T 70) p x).2 p 2).2)
def f_dp (k : Nat) (T : q_T) (p : Nat) (x : Int32) : Int32 × q_T := match k with
  | 1 => f_d1 T p x
  | 4 => f_d4 T p x
  | 6 => f_d6 T p x
  | _ => f_d0 T p x
theorem f_d0_tr (T : q_T) (p : Nat) (x : Int32) : q_Tr T (f_d0 T p x).2 3 := (q_ran_tr T 11).tr (f_wp_tr _ _ p x)
theorem f_d1_tr (T : q_T) (p : Nat) (x : Int32) : q_Tr T (f_d1 T p x).2 4 := (q_ran_tr T 20).tr (f_d0_tr _ p x)
theorem f_d4_tr (T : q_T) (p : Nat) (x : Int32) : q_Tr T (f_d4 T p x).2 5 := (q_ran_tr T 51).tr (f_d1_tr _ p _)
theorem f_d6_tr (T : q_T) (p : Nat) (x : Int32) : q_Tr T (f_d6 T p x).2 6 := ((q_ran_tr T 70).tr (f_d0_tr _ p x)).tr (f_w0_tr _ p 2)
theorem f_dp_tr (k : Nat) (T : q_T) (p : Nat) (x : Int32) : q_Tr T (f_dp k T p x).2 6 := by
  unfold f_dp
  split
  · exact (f_d1_tr T p x).le (by omega)
  · exact (f_d4_tr T p x).le (by omega)
  · exact f_d6_tr T p x
  · exact (f_d0_tr T p x).le (by omega)
def f_t0 (T : q_T) (p : Nat) (x : Int32) : Int32 × q_T := ((f_dp (T.1 154 p) (q_ran T 12) p x).1 * 2, (f_dp (T.1 154 p) (q_ran T 12) p x).2)
def f_t3 (T : q_T) (p : Nat) (x : Int32) : Int32 × q_T := ((f_t0 (q_ran T 40) p x).1 + (f_dp (T.1 154 p) (f_t0 (q_ran T 40) p x).2 p 1).1, (f_dp (T.1 154 p) (f_t0 (q_ran T 40) p x).2 p 1).2)
def f_t5 (T : q_T) (p : Nat) (x : Int32) : Int32 × q_T := f_t0 (q_ran T 60) p (x - nI p)
def f_tp (k : Nat) (T : q_T) (p : Nat) (x : Int32) : Int32 × q_T := match k with
  | 3 => f_t3 T p x
  | 6 => f_t3 T p x
  | 5 => f_t5 T p x
  | _ => f_t0 T p x
theorem f_t0_tr (T : q_T) (p : Nat) (x : Int32) : q_Tr T (f_t0 T p x).2 7 := (q_ran_tr T 12).tr (f_dp_tr _ _ p x)
theorem f_t3_tr (T : q_T) (p : Nat) (x : Int32) : q_Tr T (f_t3 T p x).2 14 := ((q_ran_tr T 40).tr (f_t0_tr _ p x)).tr (f_dp_tr _ _ p 1)
theorem f_t5_tr (T : q_T) (p : Nat) (x : Int32) : q_Tr T (f_t5 T p x).2 8 := (q_ran_tr T 60).tr (f_t0_tr _ p _)
theorem f_tp_tr (k : Nat) (T : q_T) (p : Nat) (x : Int32) : q_Tr T (f_tp k T p x).2 14 := by
  unfold f_tp
  split
  · exact f_t3_tr T p x
  · exact f_t3_tr T p x
  · exact (f_t5_tr T p x).le (by omega)
  · exact (f_t0_tr T p x).le (by omega)
set_option maxRecDepth 100000 in
set_option maxHeartbeats 4000000 in
theorem v_d0 (xs : List Int32) {T : q_T} {m : am_Mm} (h : q_Rm T m) {p : Nat} (hp : p < 6) (hk : T.1 154 p < 7) (ht : T.1 153 38 < 88) (x : Int32) : am_V xs 5 215 [.ref 153, .int (nI p), .int (nI 0), .int x] m (am_qi (f_d0 T p x).1 (q_G (f_d0 T p x).2 m)) := by
  have hF : q_FC m m := q_FC.rf
  have t_0 : q_Tr T T 0 := q_Tr.rf
  refine am_V_of ky_215 (Nat.le_of_ble_eq_true rfl) ?_
  show am_P xs 4 m_draws 0 [some (.ref 153), some (.int (nI p)), some (.int (nI 0)), some (.int x), none] [] m _
  refine w_iload_n (pc' := 1) rfl rfl rfl ?_
  refine w_tsw (t := 129) rfl rfl (fun hD => absurd hD (by decide)) (fun z _ _ hz => ?_)
  obtain rfl : (0 : Int) = z := (show (nI 0).toInt = 0 by decide).symm.trans hz
  refine ⟨102, 103, rfl, rfl, ?_⟩
  refine w_aload_n (pc' := 104) rfl rfl rfl rfl ?_
  refine w_bipush (pc' := 106) 11 rfl rfl bp_11 ?_
  refine w_cV1n (pc' := 109) (v_m_ran xs h (by have := t_0.2.1; omega) 11) (by decide) rfl rfl rfl (Nat.le_of_ble_eq_true rfl) sh_153 rfl (fun m1 hm' => ?_)
  obtain ⟨h_1, hG_1⟩ := hm'
  have hF_1 := hF.tr hG_1
  have t_1 := t_0.tr (q_ran_tr T 11)
  refine w_aload_n (pc' := 110) rfl rfl rfl rfl ?_
  refine w_iload_n (pc' := 111) rfl rfl rfl ?_
  refine w_aload_n (pc' := 112) rfl rfl rfl rfl ?_
  refine w_getC (pc' := 115) rfl rfl rfl sh_153 rfl ?_
  refine w_iload_n (pc' := 116) rfl rfl rfl ?_
  refine w_iald (j := (p)) (pc' := 117) rfl rfl sh_154 rfl (by omega) (by decide) ?_
  rw [show m1.1 154 p = nI (T.1 154 p) from (rd_154 h_1 _).trans (congrArg nI (t_1.1 154 p (by decide) (by omega)))]
  refine w_iload_n (pc' := 118) rfl rfl rfl ?_
  refine w_cV3i (pc' := 121) (v_wp xs h_1 hp (by rw [t_1.1 154 p (by decide) (by omega)]; exact hk) (by have := t_1.2.1; omega) (T.1 154 p) hk x) (by decide) rfl rfl rfl (Nat.le_of_ble_eq_true rfl) sh_153 rfl (fun m2 hm' => ?_)
  obtain ⟨h_2, hG_2⟩ := hm'
  have hF_2 := hF_1.tr hG_2
  have t_2 := t_1.tr (f_wp_tr (T.1 154 p) (q_ran T 11) p x)
  refine w_aload_n (pc' := 122) rfl rfl rfl rfl ?_
  refine w_getC (pc' := 125) rfl rfl rfl sh_153 rfl ?_
  refine w_iload_n (pc' := 126) rfl rfl rfl ?_
  refine w_iald (j := (p)) (pc' := 127) rfl rfl sh_155 rfl (by omega) (by decide) ?_
  rw [show m2.1 155 p = nI (T.1 155 p) from (rd_155 h_2 _).trans (congrArg nI (t_2.1 155 p (by decide) (by omega)))]
  refine w_isub (pc' := 128) rfl rfl ?_
  refine w_iret rfl rfl rfl ?_
  exact ⟨rfl, h_2, hF_2⟩
set_option maxRecDepth 100000 in
set_option maxHeartbeats 4000000 in
theorem v_d1 (xs : List Int32) {T : q_T} {m : am_Mm} (h : q_Rm T m) {p : Nat} (hp : p < 6) (hk : T.1 154 p < 7) (ht : T.1 153 38 < 87) (x : Int32) : am_V xs 6 215 [.ref 153, .int (nI p), .int (nI 1), .int x] m (am_qi (f_d1 T p x).1 (q_G (f_d1 T p x).2 m)) := by
  have hF : q_FC m m := q_FC.rf
  have t_0 : q_Tr T T 0 := q_Tr.rf
  refine am_V_of ky_215 (Nat.le_of_ble_eq_true rfl) ?_
  show am_P xs 5 m_draws 0 [some (.ref 153), some (.int (nI p)), some (.int (nI 1)), some (.int x), none] [] m _
  refine w_iload_n (pc' := 1) rfl rfl rfl ?_
  refine w_tsw (t := 129) rfl rfl (fun hD => absurd hD (by decide)) (fun z _ _ hz => ?_)
  obtain rfl : (1 : Int) = z := (show (nI 1).toInt = 1 by decide).symm.trans hz
  refine ⟨43, 44, rfl, rfl, ?_⟩
  refine w_aload_n (pc' := 45) rfl rfl rfl rfl ?_
  refine w_bipush (pc' := 47) 20 rfl rfl bp_20 ?_
  refine w_cV1n (pc' := 50) (v_m_ran xs h (by have := t_0.2.1; omega) 20) (by decide) rfl rfl rfl (Nat.le_of_ble_eq_true rfl) sh_153 rfl (fun m1 hm' => ?_)
  obtain ⟨h_1, hG_1⟩ := hm'
  have hF_1 := hF.tr hG_1
  have t_1 := t_0.tr (q_ran_tr T 20)
  refine w_aload_n (pc' := 51) rfl rfl rfl rfl ?_
  refine w_iload_n (pc' := 52) rfl rfl rfl ?_
  refine w_iconst (pc' := 53) 0 rfl rfl ic_0 ?_
  refine w_iload_n (pc' := 54) rfl rfl rfl ?_
  refine w_cV3i (pc' := 57) (v_d0 xs h_1 hp (by rw [t_1.1 154 p (by decide) (by omega)]; exact hk) (by have := t_1.2.1; omega) x) (by decide) rfl rfl rfl (Nat.le_of_ble_eq_true rfl) sh_153 rfl (fun m2 hm' => ?_)
  obtain ⟨h_2, hG_2⟩ := hm'
  have hF_2 := hF_1.tr hG_2
  have t_2 := t_1.tr (f_d0_tr (q_ran T 20) p x)
  refine w_bipush (pc' := 59) 6 rfl rfl bp_6 ?_
  refine w_ixor (pc' := 60) rfl rfl ?_
  refine w_iret rfl rfl rfl ?_
  exact ⟨rfl, h_2, hF_2⟩
set_option maxRecDepth 100000 in
set_option maxHeartbeats 4000000 in
theorem v_d2 (xs : List Int32) {T : q_T} {m : am_Mm} (h : q_Rm T m) {p : Nat} (hp : p < 6) (hk : T.1 154 p < 7) (ht : T.1 153 38 < 88) (x : Int32) : am_V xs 6 215 [.ref 153, .int (nI p), .int (nI 2), .int x] m (am_qi (f_d0 T p x).1 (q_G (f_d0 T p x).2 m)) := by
  have hF : q_FC m m := q_FC.rf
  have t_0 : q_Tr T T 0 := q_Tr.rf
  refine am_V_of ky_215 (Nat.le_of_ble_eq_true rfl) ?_
  show am_P xs 5 m_draws 0 [some (.ref 153), some (.int (nI p)), some (.int (nI 2)), some (.int x), none] [] m _
  refine w_iload_n (pc' := 1) rfl rfl rfl ?_
  refine w_tsw (t := 129) rfl rfl (fun hD => absurd hD (by decide)) (fun z _ _ hz => ?_)
  obtain rfl : (2 : Int) = z := (show (nI 2).toInt = 2 by decide).symm.trans hz
  refine ⟨128, 129, rfl, rfl, ?_⟩
  refine w_aload_n (pc' := 130) rfl rfl rfl rfl ?_
  refine w_iload_n (pc' := 131) rfl rfl rfl ?_
  refine w_iload_n (pc' := 132) rfl rfl rfl ?_
  refine w_cS1i (pc' := 135) (v_m_above xs _ (k := 2) (by omega)) (by decide) rfl rfl rfl (Or.inl rfl) (Nat.le_of_ble_eq_true rfl) (fun m' hm' => ?_)
  rw [show m' = m from hm']
  clear hm' m'
  rw [show f_ab 2 = 0 from rfl]
  refine w_iload_n (pc' := 136) rfl rfl rfl ?_
  refine w_cV3i (pc' := 139) (v_d0 xs h hp (by rw [t_0.1 154 p (by decide) (by omega)]; exact hk) (by have := t_0.2.1; omega) x) (by decide) rfl rfl rfl (Nat.le_of_ble_eq_true rfl) sh_153 rfl (fun m1 hm' => ?_)
  obtain ⟨h_1, hG_1⟩ := hm'
  have hF_1 := hF.tr hG_1
  have t_1 := t_0.tr (f_d0_tr T p x)
  refine w_iret rfl rfl rfl ?_
  exact ⟨rfl, h_1, hF_1⟩
set_option maxRecDepth 100000 in
set_option maxHeartbeats 4000000 in
theorem v_d3 (xs : List Int32) {T : q_T} {m : am_Mm} (h : q_Rm T m) {p : Nat} (hp : p < 6) (hk : T.1 154 p < 7) (ht : T.1 153 38 < 88) (x : Int32) : am_V xs 6 215 [.ref 153, .int (nI p), .int (nI 3), .int x] m (am_qi (f_d0 T p x).1 (q_G (f_d0 T p x).2 m)) := by
  have hF : q_FC m m := q_FC.rf
  have t_0 : q_Tr T T 0 := q_Tr.rf
  refine am_V_of ky_215 (Nat.le_of_ble_eq_true rfl) ?_
  show am_P xs 5 m_draws 0 [some (.ref 153), some (.int (nI p)), some (.int (nI 3)), some (.int x), none] [] m _
  refine w_iload_n (pc' := 1) rfl rfl rfl ?_
  refine w_tsw (t := 129) rfl rfl (fun hD => absurd hD (by decide)) (fun z _ _ hz => ?_)
  obtain rfl : (3 : Int) = z := (show (nI 3).toInt = 3 by decide).symm.trans hz
  refine ⟨128, 129, rfl, rfl, ?_⟩
  refine w_aload_n (pc' := 130) rfl rfl rfl rfl ?_
  refine w_iload_n (pc' := 131) rfl rfl rfl ?_
  refine w_iload_n (pc' := 132) rfl rfl rfl ?_
  refine w_cS1i (pc' := 135) (v_m_above xs _ (k := 3) (by omega)) (by decide) rfl rfl rfl (Or.inl rfl) (Nat.le_of_ble_eq_true rfl) (fun m' hm' => ?_)
  rw [show m' = m from hm']
  clear hm' m'
  rw [show f_ab 3 = 0 from rfl]
  refine w_iload_n (pc' := 136) rfl rfl rfl ?_
  refine w_cV3i (pc' := 139) (v_d0 xs h hp (by rw [t_0.1 154 p (by decide) (by omega)]; exact hk) (by have := t_0.2.1; omega) x) (by decide) rfl rfl rfl (Nat.le_of_ble_eq_true rfl) sh_153 rfl (fun m1 hm' => ?_)
  obtain ⟨h_1, hG_1⟩ := hm'
  have hF_1 := hF.tr hG_1
  have t_1 := t_0.tr (f_d0_tr T p x)
  refine w_iret rfl rfl rfl ?_
  exact ⟨rfl, h_1, hF_1⟩
set_option maxRecDepth 100000 in
set_option maxHeartbeats 4000000 in
theorem v_d4 (xs : List Int32) {T : q_T} {m : am_Mm} (h : q_Rm T m) {p : Nat} (hp : p < 6) (hk : T.1 154 p < 7) (ht : T.1 153 38 < 86) (x : Int32) : am_V xs 7 215 [.ref 153, .int (nI p), .int (nI 4), .int x] m (am_qi (f_d4 T p x).1 (q_G (f_d4 T p x).2 m)) := by
  have hF : q_FC m m := q_FC.rf
  have t_0 : q_Tr T T 0 := q_Tr.rf
  refine am_V_of ky_215 (Nat.le_of_ble_eq_true rfl) ?_
  show am_P xs 6 m_draws 0 [some (.ref 153), some (.int (nI p)), some (.int (nI 4)), some (.int x), none] [] m _
  refine w_iload_n (pc' := 1) rfl rfl rfl ?_
  refine w_tsw (t := 129) rfl rfl (fun hD => absurd hD (by decide)) (fun z _ _ hz => ?_)
  obtain rfl : (4 : Int) = z := (show (nI 4).toInt = 4 by decide).symm.trans hz
  refine ⟨60, 61, rfl, rfl, ?_⟩
  refine w_aload_n (pc' := 62) rfl rfl rfl rfl ?_
  refine w_bipush (pc' := 64) 51 rfl rfl bp_51 ?_
  refine w_cV1n (pc' := 67) (v_m_ran xs h (by have := t_0.2.1; omega) 51) (by decide) rfl rfl rfl (Nat.le_of_ble_eq_true rfl) sh_153 rfl (fun m1 hm' => ?_)
  obtain ⟨h_1, hG_1⟩ := hm'
  have hF_1 := hF.tr hG_1
  have t_1 := t_0.tr (q_ran_tr T 51)
  refine w_aload_n (pc' := 68) rfl rfl rfl rfl ?_
  refine w_iload_n (pc' := 69) rfl rfl rfl ?_
  refine w_iconst (pc' := 70) 1 rfl rfl ic_1 ?_
  refine w_iload_n (pc' := 71) rfl rfl rfl ?_
  refine w_iconst (pc' := 72) 1 rfl rfl ic_1 ?_
  refine w_iadd (pc' := 73) rfl rfl ?_
  refine w_cV3i (pc' := 76) (v_d1 xs h_1 hp (by rw [t_1.1 154 p (by decide) (by omega)]; exact hk) (by have := t_1.2.1; omega) (x + 1)) (by decide) rfl rfl rfl (Nat.le_of_ble_eq_true rfl) sh_153 rfl (fun m2 hm' => ?_)
  obtain ⟨h_2, hG_2⟩ := hm'
  have hF_2 := hF_1.tr hG_2
  have t_2 := t_1.tr (f_d1_tr (q_ran T 51) p (x + 1))
  refine w_iret rfl rfl rfl ?_
  exact ⟨rfl, h_2, hF_2⟩
set_option maxRecDepth 100000 in
set_option maxHeartbeats 4000000 in
theorem v_d5 (xs : List Int32) {T : q_T} {m : am_Mm} (h : q_Rm T m) {p : Nat} (hp : p < 6) (hk : T.1 154 p < 7) (ht : T.1 153 38 < 88) (x : Int32) : am_V xs 7 215 [.ref 153, .int (nI p), .int (nI 5), .int x] m (am_qi (f_d0 T p x).1 (q_G (f_d0 T p x).2 m)) := by
  have hF : q_FC m m := q_FC.rf
  have t_0 : q_Tr T T 0 := q_Tr.rf
  refine am_V_of ky_215 (Nat.le_of_ble_eq_true rfl) ?_
  show am_P xs 6 m_draws 0 [some (.ref 153), some (.int (nI p)), some (.int (nI 5)), some (.int x), none] [] m _
  refine w_iload_n (pc' := 1) rfl rfl rfl ?_
  refine w_tsw (t := 129) rfl rfl (fun hD => absurd hD (by decide)) (fun z _ _ hz => ?_)
  obtain rfl : (5 : Int) = z := (show (nI 5).toInt = 5 by decide).symm.trans hz
  refine ⟨128, 129, rfl, rfl, ?_⟩
  refine w_aload_n (pc' := 130) rfl rfl rfl rfl ?_
  refine w_iload_n (pc' := 131) rfl rfl rfl ?_
  refine w_iload_n (pc' := 132) rfl rfl rfl ?_
  refine w_cS1i (pc' := 135) (v_m_above xs _ (k := 5) (by omega)) (by decide) rfl rfl rfl (Or.inl rfl) (Nat.le_of_ble_eq_true rfl) (fun m' hm' => ?_)
  rw [show m' = m from hm']
  clear hm' m'
  rw [show f_ab 5 = 2 from rfl]
  refine w_iload_n (pc' := 136) rfl rfl rfl ?_
  refine w_cV3i (pc' := 139) (v_d2 xs h hp (by rw [t_0.1 154 p (by decide) (by omega)]; exact hk) (by have := t_0.2.1; omega) x) (by decide) rfl rfl rfl (Nat.le_of_ble_eq_true rfl) sh_153 rfl (fun m1 hm' => ?_)
  obtain ⟨h_1, hG_1⟩ := hm'
  have hF_1 := hF.tr hG_1
  have t_1 := t_0.tr (f_d0_tr T p x)
  refine w_iret rfl rfl rfl ?_
  exact ⟨rfl, h_1, hF_1⟩
set_option maxRecDepth 100000 in
set_option maxHeartbeats 4000000 in
theorem v_d6 (xs : List Int32) {T : q_T} {m : am_Mm} (h : q_Rm T m) {p : Nat} (hp : p < 6) (hk : T.1 154 p < 7) (ht : T.1 153 38 < 86) (x : Int32) : am_V xs 7 215 [.ref 153, .int (nI p), .int (nI 6), .int x] m (am_qi (f_d6 T p x).1 (q_G (f_d6 T p x).2 m)) := by
  have hF : q_FC m m := q_FC.rf
  have t_0 : q_Tr T T 0 := q_Tr.rf
  refine am_V_of ky_215 (Nat.le_of_ble_eq_true rfl) ?_
  show am_P xs 6 m_draws 0 [some (.ref 153), some (.int (nI p)), some (.int (nI 6)), some (.int x), none] [] m _
  refine w_iload_n (pc' := 1) rfl rfl rfl ?_
  refine w_tsw (t := 129) rfl rfl (fun hD => absurd hD (by decide)) (fun z _ _ hz => ?_)
  obtain rfl : (6 : Int) = z := (show (nI 6).toInt = 6 by decide).symm.trans hz
  refine ⟨76, 77, rfl, rfl, ?_⟩
  refine w_aload_n (pc' := 78) rfl rfl rfl rfl ?_
  refine w_bipush (pc' := 80) 70 rfl rfl bp_70 ?_
  refine w_cV1n (pc' := 83) (v_m_ran xs h (by have := t_0.2.1; omega) 70) (by decide) rfl rfl rfl (Nat.le_of_ble_eq_true rfl) sh_153 rfl (fun m1 hm' => ?_)
  obtain ⟨h_1, hG_1⟩ := hm'
  have hF_1 := hF.tr hG_1
  have t_1 := t_0.tr (q_ran_tr T 70)
  refine w_aload_n (pc' := 84) rfl rfl rfl rfl ?_
  refine w_iload_n (pc' := 85) rfl rfl rfl ?_
  refine w_iconst (pc' := 86) 3 rfl rfl ic_3 ?_
  refine w_iload_n (pc' := 87) rfl rfl rfl ?_
  refine w_cV3i (pc' := 90) (v_d3 xs h_1 hp (by rw [t_1.1 154 p (by decide) (by omega)]; exact hk) (by have := t_1.2.1; omega) x) (by decide) rfl rfl rfl (Nat.le_of_ble_eq_true rfl) sh_153 rfl (fun m2 hm' => ?_)
  obtain ⟨h_2, hG_2⟩ := hm'
  have hF_2 := hF_1.tr hG_2
  have t_2 := t_1.tr (f_d0_tr (q_ran T 70) p x)
  refine w_ist4 (pc' := 92) rfl rfl rfl ?_
  refine w_iload (pc' := 94) rfl rfl rfl ?_
  refine w_aload_n (pc' := 95) rfl rfl rfl rfl ?_
  refine w_iload_n (pc' := 96) rfl rfl rfl ?_
  refine w_iconst (pc' := 97) 3 rfl rfl ic_3 ?_
  refine w_iconst (pc' := 98) 2 rfl rfl ic_2 ?_
  refine w_cV3i (pc' := 101) (v_w3 xs h_2 hp (by rw [t_2.1 154 p (by decide) (by omega)]; exact hk) (by have := t_2.2.1; omega) 2) (by decide) rfl rfl rfl (Nat.le_of_ble_eq_true rfl) sh_153 rfl (fun m3 hm' => ?_)
  obtain ⟨h_3, hG_3⟩ := hm'
  have hF_3 := hF_2.tr hG_3
  have t_3 := t_2.tr (f_w0_tr (f_d0 (q_ran T 70) p x).2 p 2)
  refine w_iadd (pc' := 102) rfl rfl ?_
  refine w_iret rfl rfl rfl ?_
  exact ⟨rfl, h_3, hF_3⟩
theorem v_dp (xs : List Int32) {T : q_T} {m : am_Mm} (h : q_Rm T m) {p : Nat} (hp : p < 6) (hk : T.1 154 p < 7) (ht : T.1 153 38 < 86) (k : Nat) (hk7 : k < 7) (x : Int32) : am_V xs 7 215 [.ref 153, .int (nI p), .int (nI k), .int x] m (am_qi (f_dp k T p x).1 (q_G (f_dp k T p x).2 m)) := by
  rcases (show k = 0 ∨ k = 1 ∨ k = 2 ∨ k = 3 ∨ k = 4 ∨ k = 5 ∨ k = 6 by omega) with rfl | rfl | rfl | rfl | rfl | rfl | rfl
  · exact (v_d0 xs h hp hk (by omega) x).up (by decide)
  · exact (v_d1 xs h hp hk (by omega) x).up (by decide)
  · exact (v_d2 xs h hp hk (by omega) x).up (by decide)
  · exact (v_d3 xs h hp hk (by omega) x).up (by decide)
  · exact (v_d4 xs h hp hk (by omega) x).up (by decide)
  · exact (v_d5 xs h hp hk (by omega) x).up (by decide)
  · exact (v_d6 xs h hp hk (by omega) x).up (by decide)
set_option maxRecDepth 100000 in
set_option maxHeartbeats 4000000 in
theorem v_t0 (xs : List Int32) {T : q_T} {m : am_Mm} (h : q_Rm T m) {p : Nat} (hp : p < 6) (hk : T.1 154 p < 7) (ht : T.1 153 38 < 85) (x : Int32) : am_V xs 8 216 [.ref 153, .int (nI p), .int (nI 0), .int x] m (am_qi (f_t0 T p x).1 (q_G (f_t0 T p x).2 m)) := by
  have hF : q_FC m m := q_FC.rf
  have t_0 : q_Tr T T 0 := q_Tr.rf
  refine am_V_of ky_216 (Nat.le_of_ble_eq_true rfl) ?_
  show am_P xs 7 m_tells 0 [some (.ref 153), some (.int (nI p)), some (.int (nI 0)), some (.int x), none] [] m _
  refine w_iload_n (pc' := 1) rfl rfl rfl ?_
  refine w_lsw (off := 82) (pc' := 83) rfl (by decide) (by decide) rfl ?_
  refine w_aload_n (pc' := 84) rfl rfl rfl rfl ?_
  refine w_bipush (pc' := 86) 12 rfl rfl bp_12 ?_
  refine w_cV1n (pc' := 89) (v_m_ran xs h (by have := t_0.2.1; omega) 12) (by decide) rfl rfl rfl (Nat.le_of_ble_eq_true rfl) sh_153 rfl (fun m1 hm' => ?_)
  obtain ⟨h_1, hG_1⟩ := hm'
  have hF_1 := hF.tr hG_1
  have t_1 := t_0.tr (q_ran_tr T 12)
  refine w_aload_n (pc' := 90) rfl rfl rfl rfl ?_
  refine w_iload_n (pc' := 91) rfl rfl rfl ?_
  refine w_aload_n (pc' := 92) rfl rfl rfl rfl ?_
  refine w_getC (pc' := 95) rfl rfl rfl sh_153 rfl ?_
  refine w_iload_n (pc' := 96) rfl rfl rfl ?_
  refine w_iald (j := (p)) (pc' := 97) rfl rfl sh_154 rfl (by omega) (by decide) ?_
  rw [show m1.1 154 p = nI (T.1 154 p) from (rd_154 h_1 _).trans (congrArg nI (t_1.1 154 p (by decide) (by omega)))]
  refine w_iload_n (pc' := 98) rfl rfl rfl ?_
  refine w_cV3i (pc' := 101) (v_dp xs h_1 hp (by rw [t_1.1 154 p (by decide) (by omega)]; exact hk) (by have := t_1.2.1; omega) (T.1 154 p) hk x) (by decide) rfl rfl rfl (Nat.le_of_ble_eq_true rfl) sh_153 rfl (fun m2 hm' => ?_)
  obtain ⟨h_2, hG_2⟩ := hm'
  have hF_2 := hF_1.tr hG_2
  have t_2 := t_1.tr (f_dp_tr (T.1 154 p) (q_ran T 12) p x)
  refine w_iconst (pc' := 102) 2 rfl rfl ic_2 ?_
  refine w_imul (pc' := 103) rfl rfl ?_
  refine w_iret rfl rfl rfl ?_
  exact ⟨rfl, h_2, hF_2⟩
set_option maxRecDepth 100000 in
set_option maxHeartbeats 4000000 in
theorem v_t1 (xs : List Int32) {T : q_T} {m : am_Mm} (h : q_Rm T m) {p : Nat} (hp : p < 6) (hk : T.1 154 p < 7) (ht : T.1 153 38 < 85) (x : Int32) : am_V xs 9 216 [.ref 153, .int (nI p), .int (nI 1), .int x] m (am_qi (f_t0 T p x).1 (q_G (f_t0 T p x).2 m)) := by
  have hF : q_FC m m := q_FC.rf
  have t_0 : q_Tr T T 0 := q_Tr.rf
  refine am_V_of ky_216 (Nat.le_of_ble_eq_true rfl) ?_
  show am_P xs 8 m_tells 0 [some (.ref 153), some (.int (nI p)), some (.int (nI 1)), some (.int x), none] [] m _
  refine w_iload_n (pc' := 1) rfl rfl rfl ?_
  refine w_lsw (off := 103) (pc' := 104) rfl (by decide) (by decide) rfl ?_
  refine w_aload_n (pc' := 105) rfl rfl rfl rfl ?_
  refine w_iload_n (pc' := 106) rfl rfl rfl ?_
  refine w_iload_n (pc' := 107) rfl rfl rfl ?_
  refine w_cS1i (pc' := 110) (v_m_above xs _ (k := 1) (by omega)) (by decide) rfl rfl rfl (Or.inl rfl) (Nat.le_of_ble_eq_true rfl) (fun m' hm' => ?_)
  rw [show m' = m from hm']
  clear hm' m'
  rw [show f_ab 1 = 0 from rfl]
  refine w_iload_n (pc' := 111) rfl rfl rfl ?_
  refine w_cV3i (pc' := 114) (v_t0 xs h hp (by rw [t_0.1 154 p (by decide) (by omega)]; exact hk) (by have := t_0.2.1; omega) x) (by decide) rfl rfl rfl (Nat.le_of_ble_eq_true rfl) sh_153 rfl (fun m1 hm' => ?_)
  obtain ⟨h_1, hG_1⟩ := hm'
  have hF_1 := hF.tr hG_1
  have t_1 := t_0.tr (f_t0_tr T p x)
  refine w_iret rfl rfl rfl ?_
  exact ⟨rfl, h_1, hF_1⟩
set_option maxRecDepth 100000 in
set_option maxHeartbeats 4000000 in
theorem v_t2 (xs : List Int32) {T : q_T} {m : am_Mm} (h : q_Rm T m) {p : Nat} (hp : p < 6) (hk : T.1 154 p < 7) (ht : T.1 153 38 < 85) (x : Int32) : am_V xs 9 216 [.ref 153, .int (nI p), .int (nI 2), .int x] m (am_qi (f_t0 T p x).1 (q_G (f_t0 T p x).2 m)) := by
  have hF : q_FC m m := q_FC.rf
  have t_0 : q_Tr T T 0 := q_Tr.rf
  refine am_V_of ky_216 (Nat.le_of_ble_eq_true rfl) ?_
  show am_P xs 8 m_tells 0 [some (.ref 153), some (.int (nI p)), some (.int (nI 2)), some (.int x), none] [] m _
  refine w_iload_n (pc' := 1) rfl rfl rfl ?_
  refine w_lsw (off := 103) (pc' := 104) rfl (by decide) (by decide) rfl ?_
  refine w_aload_n (pc' := 105) rfl rfl rfl rfl ?_
  refine w_iload_n (pc' := 106) rfl rfl rfl ?_
  refine w_iload_n (pc' := 107) rfl rfl rfl ?_
  refine w_cS1i (pc' := 110) (v_m_above xs _ (k := 2) (by omega)) (by decide) rfl rfl rfl (Or.inl rfl) (Nat.le_of_ble_eq_true rfl) (fun m' hm' => ?_)
  rw [show m' = m from hm']
  clear hm' m'
  rw [show f_ab 2 = 0 from rfl]
  refine w_iload_n (pc' := 111) rfl rfl rfl ?_
  refine w_cV3i (pc' := 114) (v_t0 xs h hp (by rw [t_0.1 154 p (by decide) (by omega)]; exact hk) (by have := t_0.2.1; omega) x) (by decide) rfl rfl rfl (Nat.le_of_ble_eq_true rfl) sh_153 rfl (fun m1 hm' => ?_)
  obtain ⟨h_1, hG_1⟩ := hm'
  have hF_1 := hF.tr hG_1
  have t_1 := t_0.tr (f_t0_tr T p x)
  refine w_iret rfl rfl rfl ?_
  exact ⟨rfl, h_1, hF_1⟩
set_option maxRecDepth 100000 in
set_option maxHeartbeats 4000000 in
theorem v_t3 (xs : List Int32) {T : q_T} {m : am_Mm} (h : q_Rm T m) {p : Nat} (hp : p < 6) (hk : T.1 154 p < 7) (ht : T.1 153 38 < 78) (x : Int32) : am_V xs 9 216 [.ref 153, .int (nI p), .int (nI 3), .int x] m (am_qi (f_t3 T p x).1 (q_G (f_t3 T p x).2 m)) := by
  have hF : q_FC m m := q_FC.rf
  have t_0 : q_Tr T T 0 := q_Tr.rf
  refine am_V_of ky_216 (Nat.le_of_ble_eq_true rfl) ?_
  show am_P xs 8 m_tells 0 [some (.ref 153), some (.int (nI p)), some (.int (nI 3)), some (.int x), none] [] m _
  refine w_iload_n (pc' := 1) rfl rfl rfl ?_
  refine w_lsw (off := 35) (pc' := 36) rfl (by decide) (by decide) rfl ?_
  refine w_aload_n (pc' := 37) rfl rfl rfl rfl ?_
  refine w_bipush (pc' := 39) 40 rfl rfl bp_40 ?_
  refine w_cV1n (pc' := 42) (v_m_ran xs h (by have := t_0.2.1; omega) 40) (by decide) rfl rfl rfl (Nat.le_of_ble_eq_true rfl) sh_153 rfl (fun m1 hm' => ?_)
  obtain ⟨h_1, hG_1⟩ := hm'
  have hF_1 := hF.tr hG_1
  have t_1 := t_0.tr (q_ran_tr T 40)
  refine w_aload_n (pc' := 43) rfl rfl rfl rfl ?_
  refine w_iload_n (pc' := 44) rfl rfl rfl ?_
  refine w_iconst (pc' := 45) 0 rfl rfl ic_0 ?_
  refine w_iload_n (pc' := 46) rfl rfl rfl ?_
  refine w_cV3i (pc' := 49) (v_t0 xs h_1 hp (by rw [t_1.1 154 p (by decide) (by omega)]; exact hk) (by have := t_1.2.1; omega) x) (by decide) rfl rfl rfl (Nat.le_of_ble_eq_true rfl) sh_153 rfl (fun m2 hm' => ?_)
  obtain ⟨h_2, hG_2⟩ := hm'
  have hF_2 := hF_1.tr hG_2
  have t_2 := t_1.tr (f_t0_tr (q_ran T 40) p x)
  refine w_ist4 (pc' := 51) rfl rfl rfl ?_
  refine w_iload (pc' := 53) rfl rfl rfl ?_
  refine w_aload_n (pc' := 54) rfl rfl rfl rfl ?_
  refine w_iload_n (pc' := 55) rfl rfl rfl ?_
  refine w_aload_n (pc' := 56) rfl rfl rfl rfl ?_
  refine w_getC (pc' := 59) rfl rfl rfl sh_153 rfl ?_
  refine w_iload_n (pc' := 60) rfl rfl rfl ?_
  refine w_iald (j := (p)) (pc' := 61) rfl rfl sh_154 rfl (by omega) (by decide) ?_
  rw [show m2.1 154 p = nI (T.1 154 p) from (rd_154 h_2 _).trans (congrArg nI (t_2.1 154 p (by decide) (by omega)))]
  refine w_iconst (pc' := 62) 1 rfl rfl ic_1 ?_
  refine w_cV3i (pc' := 65) (v_dp xs h_2 hp (by rw [t_2.1 154 p (by decide) (by omega)]; exact hk) (by have := t_2.2.1; omega) (T.1 154 p) hk 1) (by decide) rfl rfl rfl (Nat.le_of_ble_eq_true rfl) sh_153 rfl (fun m3 hm' => ?_)
  obtain ⟨h_3, hG_3⟩ := hm'
  have hF_3 := hF_2.tr hG_3
  have t_3 := t_2.tr (f_dp_tr (T.1 154 p) (f_t0 (q_ran T 40) p x).2 p 1)
  refine w_iadd (pc' := 66) rfl rfl ?_
  refine w_iret rfl rfl rfl ?_
  exact ⟨rfl, h_3, hF_3⟩
set_option maxRecDepth 100000 in
set_option maxHeartbeats 4000000 in
theorem v_t4 (xs : List Int32) {T : q_T} {m : am_Mm} (h : q_Rm T m) {p : Nat} (hp : p < 6) (hk : T.1 154 p < 7) (ht : T.1 153 38 < 85) (x : Int32) : am_V xs 10 216 [.ref 153, .int (nI p), .int (nI 4), .int x] m (am_qi (f_t0 T p x).1 (q_G (f_t0 T p x).2 m)) := by
  have hF : q_FC m m := q_FC.rf
  have t_0 : q_Tr T T 0 := q_Tr.rf
  refine am_V_of ky_216 (Nat.le_of_ble_eq_true rfl) ?_
  show am_P xs 9 m_tells 0 [some (.ref 153), some (.int (nI p)), some (.int (nI 4)), some (.int x), none] [] m _
  refine w_iload_n (pc' := 1) rfl rfl rfl ?_
  refine w_lsw (off := 103) (pc' := 104) rfl (by decide) (by decide) rfl ?_
  refine w_aload_n (pc' := 105) rfl rfl rfl rfl ?_
  refine w_iload_n (pc' := 106) rfl rfl rfl ?_
  refine w_iload_n (pc' := 107) rfl rfl rfl ?_
  refine w_cS1i (pc' := 110) (v_m_above xs _ (k := 4) (by omega)) (by decide) rfl rfl rfl (Or.inl rfl) (Nat.le_of_ble_eq_true rfl) (fun m' hm' => ?_)
  rw [show m' = m from hm']
  clear hm' m'
  rw [show f_ab 4 = 1 from rfl]
  refine w_iload_n (pc' := 111) rfl rfl rfl ?_
  refine w_cV3i (pc' := 114) (v_t1 xs h hp (by rw [t_0.1 154 p (by decide) (by omega)]; exact hk) (by have := t_0.2.1; omega) x) (by decide) rfl rfl rfl (Nat.le_of_ble_eq_true rfl) sh_153 rfl (fun m1 hm' => ?_)
  obtain ⟨h_1, hG_1⟩ := hm'
  have hF_1 := hF.tr hG_1
  have t_1 := t_0.tr (f_t0_tr T p x)
  refine w_iret rfl rfl rfl ?_
  exact ⟨rfl, h_1, hF_1⟩
set_option maxRecDepth 100000 in
set_option maxHeartbeats 4000000 in
theorem v_t5 (xs : List Int32) {T : q_T} {m : am_Mm} (h : q_Rm T m) {p : Nat} (hp : p < 6) (hk : T.1 154 p < 7) (ht : T.1 153 38 < 84) (x : Int32) : am_V xs 10 216 [.ref 153, .int (nI p), .int (nI 5), .int x] m (am_qi (f_t5 T p x).1 (q_G (f_t5 T p x).2 m)) := by
  have hF : q_FC m m := q_FC.rf
  have t_0 : q_Tr T T 0 := q_Tr.rf
  refine am_V_of ky_216 (Nat.le_of_ble_eq_true rfl) ?_
  show am_P xs 9 m_tells 0 [some (.ref 153), some (.int (nI p)), some (.int (nI 5)), some (.int x), none] [] m _
  refine w_iload_n (pc' := 1) rfl rfl rfl ?_
  refine w_lsw (off := 66) (pc' := 67) rfl (by decide) (by decide) rfl ?_
  refine w_aload_n (pc' := 68) rfl rfl rfl rfl ?_
  refine w_bipush (pc' := 70) 60 rfl rfl bp_60 ?_
  refine w_cV1n (pc' := 73) (v_m_ran xs h (by have := t_0.2.1; omega) 60) (by decide) rfl rfl rfl (Nat.le_of_ble_eq_true rfl) sh_153 rfl (fun m1 hm' => ?_)
  obtain ⟨h_1, hG_1⟩ := hm'
  have hF_1 := hF.tr hG_1
  have t_1 := t_0.tr (q_ran_tr T 60)
  refine w_aload_n (pc' := 74) rfl rfl rfl rfl ?_
  refine w_iload_n (pc' := 75) rfl rfl rfl ?_
  refine w_iconst (pc' := 76) 2 rfl rfl ic_2 ?_
  refine w_iload_n (pc' := 77) rfl rfl rfl ?_
  refine w_iload_n (pc' := 78) rfl rfl rfl ?_
  refine w_isub (pc' := 79) rfl rfl ?_
  refine w_cV3i (pc' := 82) (v_t2 xs h_1 hp (by rw [t_1.1 154 p (by decide) (by omega)]; exact hk) (by have := t_1.2.1; omega) (x - nI p)) (by decide) rfl rfl rfl (Nat.le_of_ble_eq_true rfl) sh_153 rfl (fun m2 hm' => ?_)
  obtain ⟨h_2, hG_2⟩ := hm'
  have hF_2 := hF_1.tr hG_2
  have t_2 := t_1.tr (f_t0_tr (q_ran T 60) p (x - nI p))
  refine w_iret rfl rfl rfl ?_
  exact ⟨rfl, h_2, hF_2⟩
set_option maxRecDepth 100000 in
set_option maxHeartbeats 4000000 in
theorem v_t6 (xs : List Int32) {T : q_T} {m : am_Mm} (h : q_Rm T m) {p : Nat} (hp : p < 6) (hk : T.1 154 p < 7) (ht : T.1 153 38 < 78) (x : Int32) : am_V xs 10 216 [.ref 153, .int (nI p), .int (nI 6), .int x] m (am_qi (f_t3 T p x).1 (q_G (f_t3 T p x).2 m)) := by
  have hF : q_FC m m := q_FC.rf
  have t_0 : q_Tr T T 0 := q_Tr.rf
  refine am_V_of ky_216 (Nat.le_of_ble_eq_true rfl) ?_
  show am_P xs 9 m_tells 0 [some (.ref 153), some (.int (nI p)), some (.int (nI 6)), some (.int x), none] [] m _
  refine w_iload_n (pc' := 1) rfl rfl rfl ?_
  refine w_lsw (off := 103) (pc' := 104) rfl (by decide) (by decide) rfl ?_
  refine w_aload_n (pc' := 105) rfl rfl rfl rfl ?_
  refine w_iload_n (pc' := 106) rfl rfl rfl ?_
  refine w_iload_n (pc' := 107) rfl rfl rfl ?_
  refine w_cS1i (pc' := 110) (v_m_above xs _ (k := 6) (by omega)) (by decide) rfl rfl rfl (Or.inl rfl) (Nat.le_of_ble_eq_true rfl) (fun m' hm' => ?_)
  rw [show m' = m from hm']
  clear hm' m'
  rw [show f_ab 6 = 3 from rfl]
  refine w_iload_n (pc' := 111) rfl rfl rfl ?_
  refine w_cV3i (pc' := 114) (v_t3 xs h hp (by rw [t_0.1 154 p (by decide) (by omega)]; exact hk) (by have := t_0.2.1; omega) x) (by decide) rfl rfl rfl (Nat.le_of_ble_eq_true rfl) sh_153 rfl (fun m1 hm' => ?_)
  obtain ⟨h_1, hG_1⟩ := hm'
  have hF_1 := hF.tr hG_1
  have t_1 := t_0.tr (f_t3_tr T p x)
  refine w_iret rfl rfl rfl ?_
  exact ⟨rfl, h_1, hF_1⟩
theorem v_tp (xs : List Int32) {T : q_T} {m : am_Mm} (h : q_Rm T m) {p : Nat} (hp : p < 6) (hk : T.1 154 p < 7) (ht : T.1 153 38 < 78) (k : Nat) (hk7 : k < 7) (x : Int32) : am_V xs 10 216 [.ref 153, .int (nI p), .int (nI k), .int x] m (am_qi (f_tp k T p x).1 (q_G (f_tp k T p x).2 m)) := by
  rcases (show k = 0 ∨ k = 1 ∨ k = 2 ∨ k = 3 ∨ k = 4 ∨ k = 5 ∨ k = 6 by omega) with rfl | rfl | rfl | rfl | rfl | rfl | rfl
  · exact (v_t0 xs h hp hk (by omega) x).up (by decide)
  · exact (v_t1 xs h hp hk (by omega) x).up (by decide)
  · exact (v_t2 xs h hp hk (by omega) x).up (by decide)
  · exact (v_t3 xs h hp hk (by omega) x).up (by decide)
  · exact (v_t4 xs h hp hk (by omega) x).up (by decide)
  · exact (v_t5 xs h hp hk (by omega) x).up (by decide)
  · exact (v_t6 xs h hp hk (by omega) x).up (by decide)
def f_act (T : q_T) (d a x : Int32) : Int32 × q_T := if q_is d (T.1 153 0) = true ∧ q_is a 3 = true then (if a.toNatClampNeg = 0 then f_wp (T.1 154 d.toNatClampNeg) (q_Tu T 153 38 0) d.toNatClampNeg x else if a.toNatClampNeg = 1 then f_dp (T.1 154 d.toNatClampNeg) (q_Tu T 153 38 0) d.toNatClampNeg x else f_tp (T.1 154 d.toNatClampNeg) (q_Tu T 153 38 0) d.toNatClampNeg x) else (0, q_Tu T 153 38 0)
set_option maxRecDepth 100000 in
set_option maxHeartbeats 4000000 in
theorem v_m_act (xs : List Int32) {T : q_T} {m : am_Mm} (h : q_Rm T m) (hB : q_Bd T) (d a x : Int32) : am_V xs 12 211 [.ref 153, .int d, .int a, .int x] m (am_qi (f_act T d a x).1 (q_G (f_act T d a x).2 m)) := by
  have hF : q_FC m m := q_FC.rf
  have hn : T.1 153 0 < 7 := hB 153 0
  have t_0 : q_Tr (q_Tu T 153 38 0) (q_Tu T 153 38 0) 0 := q_Tr.rf
  refine am_V_of ky_211 (Nat.le_of_ble_eq_true rfl) ?_
  show am_P xs 11 m_act 0 [some (.ref 153), some (.int d), some (.int a), some (.int x), none] [] m _
  refine w_aload_n (pc' := 1) rfl rfl rfl rfl ?_
  refine w_iconst (pc' := 2) 0 rfl rfl ic_0 ?_
  refine w_putI (pc' := 5) rfl rfl rfl sh_153 rfl rfl rfl ?_
  refine w_gen (h.u (c := 153) (k := 38) (x := 0) rfl (y := _) (show _ = q_enc _ _ _ from rfl)) (hF.u (by decide)) (fun m1 h_1 hF_1 => ?_)
  refine w_aload_n (pc' := 6) rfl rfl rfl rfl ?_
  refine w_iload_n (pc' := 7) rfl rfl rfl ?_
  refine w_cV1i (pc' := 10) (show am_V xs 2 144 [.ref 153, .int d] m1 (am_qi (bB (q_is d (T.1 153 0))) (· = m1)) from v_m_one xs h_1 (show T.1 153 0 ≤ 6 by omega) _) (by decide) rfl rfl rfl (Nat.le_of_ble_eq_true rfl) sh_153 rfl (fun m' hm' => ?_)
  rw [show m' = m1 from hm']
  clear hm' m'
  refine w_if_eq (t := 22) (pc' := 13) rfl (by decide) rfl (fun h10 => ?_) (fun h10 => ?_)
  · have hN1 := bB_0.mp h10
    refine w_iconst (pc' := 23) 0 rfl rfl ic_0 ?_
    refine w_iret rfl rfl rfl ?_
    have hf : f_act T d a x = (0, q_Tu T 153 38 0) := by simp [f_act, hN1]
    rw [hf]
    exact ⟨rfl, h_1, hF_1⟩
  · obtain ⟨j2, hj2, rfl⟩ := q_is_of (bB_n0.mp h10) (by omega)
    refine w_iload_n (pc' := 14) rfl rfl rfl ?_
    refine w_iconst (pc' := 15) 0 rfl rfl ic_0 ?_
    refine w_iconst (pc' := 16) 2 rfl rfl ic_2 ?_
    refine w_cS3i (pc' := 19) (v_m_win xs _ _ _ (3) (by omega) (by first | decide | rfl)) (by decide) rfl rfl rfl (Or.inl rfl) (Nat.le_of_ble_eq_true rfl) (fun m' hm' => ?_)
    rw [show m' = m1 from hm']
    clear hm' m'
    refine w_if_ne (t := 24) (pc' := 22) rfl (by decide) rfl (fun h19 => ?_) (fun h19 => ?_)
    · obtain ⟨j3, hj3, rfl⟩ := q_is_of (bB_n0.mp h19) (by omega)
      refine w_aload_n (pc' := 25) rfl rfl rfl rfl ?_
      refine w_getC (pc' := 28) rfl rfl rfl sh_153 rfl ?_
      refine w_iload_n (pc' := 29) rfl rfl rfl ?_
      refine w_iald (j := (j2)) (pc' := 30) rfl rfl sh_154 rfl (by omega) (by decide) ?_
      rw [show m1.1 154 j2 = nI (T.1 154 (j2)) from (rd_154 h_1 _ :)]
      have b4 : (T.1 154 (j2)) < 7 := hB 154 (j2)
      refine w_ist4 (pc' := 32) rfl rfl rfl ?_
      refine w_iload_n (pc' := 33) rfl rfl rfl ?_
      refine w_if_ne (t := 47) (pc' := 36) rfl (by decide) rfl (fun h33 => ?_) (fun h33 => ?_)
      · have g5 : ¬ j3 = 0 := fun q => h33 ((nI_eq (a := j3) (b := 0) (by omega) (by omega)).mpr q)
        refine w_iload_n (pc' := 48) rfl rfl rfl ?_
        refine w_iconst (pc' := 49) 1 rfl rfl ic_1 ?_
        refine w_ic_ne (t := 63) (pc' := 52) rfl (by decide) rfl (fun h49 => ?_) (fun h49 => ?_)
        · have g6 : ¬ j3 = 1 := fun q => h49 ((nI_eq (a := j3) (b := 1) (by omega) (by omega)).mpr q)
          refine w_aload_n (pc' := 64) rfl rfl rfl rfl ?_
          refine w_iload_n (pc' := 65) rfl rfl rfl ?_
          refine w_iload (pc' := 67) rfl rfl rfl ?_
          refine w_iload_n (pc' := 68) rfl rfl rfl ?_
          refine w_cV3i (pc' := 71) (v_tp xs h_1 (p := j2) (by omega) (show T.1 154 j2 < 7 by omega) (show 0 < 78 by omega) (T.1 154 j2) (by omega) x) (by decide) rfl rfl rfl (Nat.le_of_ble_eq_true rfl) sh_153 rfl (fun m2 hm' => ?_)
          obtain ⟨h_2, hG_2⟩ := hm'
          have hF_2 := hF_1.tr hG_2
          have t_2 := t_0.tr (f_tp_tr (T.1 154 j2) (q_Tu T 153 38 0) j2 x)
          refine w_iret rfl rfl rfl ?_
          have hf : f_act T (nI j2) (nI j3) x = (f_tp (T.1 154 j2) (q_Tu T 153 38 0) j2 x) := by simp [f_act, q_is_nI (n := T.1 153 0) hj2 (by omega), nI_clamp (show j2 < 2 ^ 31 by omega), q_is_nI (n := 3) hj3 (by omega), nI_clamp (show j3 < 2 ^ 31 by omega), g5, g6]
          rw [hf]
          exact ⟨rfl, h_2, hF_2⟩
        · have g7 : j3 = 1 := (nI_eq (a := j3) (b := 1) (by omega) (by omega)).mp h49
          refine w_aload_n (pc' := 53) rfl rfl rfl rfl ?_
          refine w_iload_n (pc' := 54) rfl rfl rfl ?_
          refine w_iload (pc' := 56) rfl rfl rfl ?_
          refine w_iload_n (pc' := 57) rfl rfl rfl ?_
          refine w_cV3i (pc' := 60) (v_dp xs h_1 (p := j2) (by omega) (show T.1 154 j2 < 7 by omega) (show 0 < 86 by omega) (T.1 154 j2) (by omega) x) (by decide) rfl rfl rfl (Nat.le_of_ble_eq_true rfl) sh_153 rfl (fun m3 hm' => ?_)
          obtain ⟨h_3, hG_3⟩ := hm'
          have hF_3 := hF_1.tr hG_3
          have t_3 := t_0.tr (f_dp_tr (T.1 154 j2) (q_Tu T 153 38 0) j2 x)
          refine w_goto (pc' := 71) rfl (by decide) ?_
          refine w_iret rfl rfl rfl ?_
          have hf : f_act T (nI j2) (nI j3) x = (f_dp (T.1 154 j2) (q_Tu T 153 38 0) j2 x) := by simp [f_act, q_is_nI (n := T.1 153 0) hj2 (by omega), nI_clamp (show j2 < 2 ^ 31 by omega), q_is_nI (n := 3) hj3 (by omega), nI_clamp (show j3 < 2 ^ 31 by omega), g5, eq_true g7]
          rw [hf]
          exact ⟨rfl, h_3, hF_3⟩
      · have g8 : j3 = 0 := (nI_eq (a := j3) (b := 0) (by omega) (by omega)).mp h33
        refine w_aload_n (pc' := 37) rfl rfl rfl rfl ?_
        refine w_iload_n (pc' := 38) rfl rfl rfl ?_
        refine w_iload (pc' := 40) rfl rfl rfl ?_
        refine w_iload_n (pc' := 41) rfl rfl rfl ?_
        refine w_cV3i (pc' := 44) (v_wp xs h_1 (p := j2) (by omega) (show T.1 154 j2 < 7 by omega) (show 0 < 89 by omega) (T.1 154 j2) (by omega) x) (by decide) rfl rfl rfl (Nat.le_of_ble_eq_true rfl) sh_153 rfl (fun m4 hm' => ?_)
        obtain ⟨h_4, hG_4⟩ := hm'
        have hF_4 := hF_1.tr hG_4
        have t_4 := t_0.tr (f_wp_tr (T.1 154 j2) (q_Tu T 153 38 0) j2 x)
        refine w_goto (pc' := 71) rfl (by decide) ?_
        refine w_iret rfl rfl rfl ?_
        have hf : f_act T (nI j2) (nI j3) x = (f_wp (T.1 154 j2) (q_Tu T 153 38 0) j2 x) := by simp [f_act, q_is_nI (n := T.1 153 0) hj2 (by omega), nI_clamp (show j2 < 2 ^ 31 by omega), q_is_nI (n := 3) hj3 (by omega), nI_clamp (show j3 < 2 ^ 31 by omega), eq_true g8]
        rw [hf]
        exact ⟨rfl, h_4, hF_4⟩
    · have hN9 := bB_0.mp h19
      refine w_iconst (pc' := 23) 0 rfl rfl ic_0 ?_
      refine w_iret rfl rfl rfl ?_
      have hf : f_act T (nI j2) a x = (0, q_Tu T 153 38 0) := by simp [f_act, q_is_nI (n := T.1 153 0) hj2 (by omega), nI_clamp (show j2 < 2 ^ 31 by omega), hN9]
      rw [hf]
      exact ⟨rfl, h_1, hF_1⟩
