theorem ran_154 {T : q_T} {b p : Nat} : (q_ran T b).1 154 p = T.1 154 p := (q_ran_tr T b).1 154 p (by omega) (by omega)
theorem f_d0_eq {T : q_T} {p : Nat} {x : Int32} : f_d0 T p x = ((f_wp ((q_ran T 11).1 154 p) (q_ran T 11) p x).1 - nI ((q_ran T 11).1 155 p), (f_wp ((q_ran T 11).1 154 p) (q_ran T 11) p x).2) := by
  rw [ran_154, ran_155]
  rfl
theorem f_t0_eq {T : q_T} {p : Nat} {x : Int32} : f_t0 T p x = ((f_dp ((q_ran T 12).1 154 p) (q_ran T 12) p x).1 * 2, (f_dp ((q_ran T 12).1 154 p) (q_ran T 12) p x).2) := by
  rw [ran_154]
  rfl
theorem f_t3_eq {T : q_T} {p : Nat} {x : Int32} : f_t3 T p x = ((f_t0 (q_ran T 40) p x).1 + (f_dp ((q_ran T 40).1 154 p) (f_t0 (q_ran T 40) p x).2 p 1).1, (f_dp ((q_ran T 40).1 154 p) (f_t0 (q_ran T 40) p x).2 p 1).2) := by
  rw [ran_154]
  rfl
theorem v_runW (xs : List Int32) {T : q_T} {p : Nat} {m : am_Mm} (hp : p < 6) (h : q_Ra T p m) (h38 : T.1 153 38 < 880) (x : Int32) {e : Nat} (he : e < 17) {k : Nat} (hk7 : k < 7) : am_V xs 5 123 [.ref 120, .ref (1 + 6 + 4 * p), .int (nI k), .int 0, .int x, .int (nI e)] m (am_qi (f_wp k T p x).1 (fun m' => q_Ra (f_wp k T p x).2 p m' ∧ q_Ft m m')) := by
  rcases (show k = 0 ∨ k = 1 ∨ k = 2 ∨ k = 3 ∨ k = 4 ∨ k = 5 ∨ k = 6 by omega) with rfl | rfl | rfl | rfl | rfl | rfl | rfl
  · exact (v_run0_0 xs hp h (by omega) x (by omega)).up (by decide)
  · exact (v_run1_0 xs hp h (by omega) x (by omega)).up (by decide)
  · exact (v_run2_0 xs hp h (by omega) x (by omega)).up (by decide)
  · exact (v_run3_0 xs hp h (by omega) x (by omega)).up (by decide)
  · exact (v_run4_0 xs hp h (by omega) x (by omega)).up (by decide)
  · exact (v_run5_0 xs hp h (by omega) x (by omega)).up (by decide)
  · exact (v_run6_0 xs hp h (by omega) x (by omega)).up (by decide)
set_option maxRecDepth 100000 in
set_option maxHeartbeats 4000000 in
theorem v_does11 (xs : List Int32) {T : q_T} {p : Nat} {m : am_Mm} (hp : p < 6) (h : q_Ra T p m) (h38 : T.1 153 38 < 840) (x : Int32) {e : Nat} (he : e < 16) (hk : T.1 154 p < 7) : am_V xs 6 127 [.ref 120, .int 11, .ref (1 + 6 + 4 * p), .int x, .int (nI e)] m (am_qi (((f_wp (T.1 154 p) T p x).1 - nI (T.1 155 p), (f_wp (T.1 154 p) T p x).2)).1 (fun m' => q_Ra (((f_wp (T.1 154 p) T p x).1 - nI (T.1 155 p), (f_wp (T.1 154 p) T p x).2)).2 p m' ∧ q_Ft m m')) := by
  refine am_V_of ky_127 (Nat.le_of_ble_eq_true rfl) ?_
  show am_P xs 5 tr_does 0 [some (.ref 120), some (.int 11), some (.ref (1 + 6 + 4 * p)), some (.int x), some (.int (nI e))] [] m _
  refine w_iload_n (pc' := 1) rfl rfl rfl ?_
  refine w_lsw (off := 106) (pc' := 107) rfl rfl rfl rfl ?_
  refine w_aload_n (pc' := 108) rfl rfl rfl rfl ?_
  refine w_aload_n (pc' := 109) rfl rfl rfl rfl ?_
  refine w_aload_n (pc' := 110) rfl rfl rfl rfl ?_
  refine w_getI (pc' := 113) rfl rfl rfl (shD q_L1 (p := p) (by omega)) rfl ?_
  rw [show m.1 (1 + 6 + 4 * p) 1 = nI (T.1 154 p) from h.2.1]
  refine w_iconst (pc' := 114) 0 rfl rfl ic_0 ?_
  refine w_iload_n (pc' := 115) rfl rfl rfl ?_
  refine w_iload (pc' := 117) rfl rfl rfl ?_
  refine w_cV5i (pc' := 120) (v_runW xs (T := T) hp h (by omega) (x) (e := e) (by omega) (k := T.1 154 p) hk) (by decide) rfl rfl rfl (Nat.le_of_ble_eq_true rfl) sh_120 rfl (fun m1 hm' => ?_)
  obtain ⟨hA_1, hF_1⟩ := hm'
  refine w_aload_n (pc' := 121) rfl rfl rfl rfl ?_
  refine w_getI (pc' := 124) rfl rfl rfl (shD q_L1 (p := p) (by omega)) rfl ?_
  rw [show m1.1 (1 + 6 + 4 * p) 2 = nI (T.1 155 p) from hA_1.2.2.trans (congrArg nI ((f_wp_tr _ T p x).1 155 p (by omega) (by omega)))]
  refine w_isub (pc' := 125) rfl rfl ?_
  refine w_iret rfl rfl rfl ?_
  exact ⟨rfl, hA_1, hF_1⟩
set_option maxRecDepth 100000 in
set_option maxHeartbeats 4000000 in
theorem v_run0_1 (xs : List Int32) {T : q_T} {p : Nat} {m : am_Mm} (hp : p < 6) (h : q_Ra T p m) (h38 : T.1 153 38 < 800) (x : Int32) {e : Nat} (he : e < 15) (hk : T.1 154 p < 7) : am_V xs 7 123 [.ref 120, .ref (1 + 6 + 4 * p), .int 0, .int 1, .int x, .int (nI e)] m (am_qi (f_d0 T p x).1 (fun m' => q_Ra (f_d0 T p x).2 p m' ∧ q_Ft m m')) := by
  refine am_V_of ky_123 (Nat.le_of_ble_eq_true rfl) ?_
  show am_P xs 6 tr_run 0 [some (.ref 120), some (.ref (1 + 6 + 4 * p)), some (.int 0), some (.int 1), some (.int x), some (.int (nI e)), none] [] m _
  refine w_iload_n (pc' := 1) rfl rfl rfl ?_
  refine w_iload_n (pc' := 2) rfl rfl rfl ?_
  refine w_cS2i (pc' := 5) (v_body0_1 xs m) (by decide) rfl rfl rfl (Or.inl rfl) (Nat.le_of_ble_eq_true rfl) (fun m' hm' => ?_)
  rw [show m' = m from hm']
  clear hm' m'
  refine w_ist6 (pc' := 7) rfl rfl rfl ?_
  refine w_iload (pc' := 9) rfl rfl rfl ?_
  refine w_if_eq (t := 19) (pc' := 12) rfl (by decide) rfl (fun h9 => ?_) (fun h9 => ?_)
  · exact absurd h9 (by decide)
  · refine w_iload (pc' := 14) rfl rfl rfl ?_
    refine w_bipush (pc' := 16) 21 rfl rfl bp_21 ?_
    refine w_ic_le (t := 21) (pc' := 19) rfl (by decide) rfl (fun h16 => ?_) (fun h16 => ?_)
    · have g1 : e ≤ 21 := (nI_leI (a := e) (b := 21) (by omega) (by omega)).mp h16
      refine w_aload_n (pc' := 22) rfl rfl rfl rfl ?_
      refine w_iload (pc' := 24) rfl rfl rfl ?_
      refine w_cV1n (pc' := 27) (v_beginsA xs h hp (by omega) (b := 11) (by omega)) (by decide) rfl rfl rfl (Nat.le_of_ble_eq_true rfl) sh_120 rfl (fun m1 hm' => ?_)
      obtain ⟨hA_1, hF_1⟩ := hm'
      have hq38 := (q_ran_tr T 11).2.1
      refine w_aload_n (pc' := 28) rfl rfl rfl rfl ?_
      refine w_iload (pc' := 30) rfl rfl rfl ?_
      refine w_aload_n (pc' := 31) rfl rfl rfl rfl ?_
      refine w_iload (pc' := 33) rfl rfl rfl ?_
      refine w_iload (pc' := 35) rfl rfl rfl ?_
      refine w_iconst (pc' := 36) 1 rfl rfl ic_1 ?_
      refine w_iadd (pc' := 37) rfl rfl ?_
      rw [show nI (e) + (1 : Int32) = nI (e + 1) from nI_add _ _]
      refine w_cV4i (pc' := 40) (v_does11 xs (T := q_ran T 11) hp hA_1 (by omega) x (by omega) (by rw [ran_154]; exact hk)) (by decide) rfl rfl rfl (Nat.le_of_ble_eq_true rfl) sh_120 rfl (fun m2 hm' => ?_)
      obtain ⟨hA_2, hF_2⟩ := hm'
      refine w_iret rfl rfl rfl ?_
      rw [f_d0_eq]
      exact ⟨rfl, hA_2, hF_1.tr hF_2⟩
    · have g2 : ¬ e ≤ 21 := fun q => h16 ((nI_leI (a := e) (b := 21) (by omega) (by omega)).mpr q)
      omega
set_option maxRecDepth 100000 in
set_option maxHeartbeats 4000000 in
theorem v_run2_1 (xs : List Int32) {T : q_T} {p : Nat} {m : am_Mm} (hp : p < 6) (h : q_Ra T p m) (h38 : T.1 153 38 < 800) (x : Int32) {e : Nat} (he : e < 15) (hk : T.1 154 p < 7) : am_V xs 7 123 [.ref 120, .ref (1 + 6 + 4 * p), .int 2, .int 1, .int x, .int (nI e)] m (am_qi (f_d0 T p x).1 (fun m' => q_Ra (f_d0 T p x).2 p m' ∧ q_Ft m m')) := by
  refine am_V_of ky_123 (Nat.le_of_ble_eq_true rfl) ?_
  show am_P xs 6 tr_run 0 [some (.ref 120), some (.ref (1 + 6 + 4 * p)), some (.int 2), some (.int 1), some (.int x), some (.int (nI e)), none] [] m _
  refine w_iload_n (pc' := 1) rfl rfl rfl ?_
  refine w_iload_n (pc' := 2) rfl rfl rfl ?_
  refine w_cS2i (pc' := 5) (v_body2_1 xs m) (by decide) rfl rfl rfl (Or.inl rfl) (Nat.le_of_ble_eq_true rfl) (fun m' hm' => ?_)
  rw [show m' = m from hm']
  clear hm' m'
  refine w_ist6 (pc' := 7) rfl rfl rfl ?_
  refine w_iload (pc' := 9) rfl rfl rfl ?_
  refine w_if_eq (t := 19) (pc' := 12) rfl (by decide) rfl (fun h9 => ?_) (fun h9 => ?_)
  · exact absurd h9 (by decide)
  · refine w_iload (pc' := 14) rfl rfl rfl ?_
    refine w_bipush (pc' := 16) 21 rfl rfl bp_21 ?_
    refine w_ic_le (t := 21) (pc' := 19) rfl (by decide) rfl (fun h16 => ?_) (fun h16 => ?_)
    · have g1 : e ≤ 21 := (nI_leI (a := e) (b := 21) (by omega) (by omega)).mp h16
      refine w_aload_n (pc' := 22) rfl rfl rfl rfl ?_
      refine w_iload (pc' := 24) rfl rfl rfl ?_
      refine w_cV1n (pc' := 27) (v_beginsA xs h hp (by omega) (b := 11) (by omega)) (by decide) rfl rfl rfl (Nat.le_of_ble_eq_true rfl) sh_120 rfl (fun m1 hm' => ?_)
      obtain ⟨hA_1, hF_1⟩ := hm'
      have hq38 := (q_ran_tr T 11).2.1
      refine w_aload_n (pc' := 28) rfl rfl rfl rfl ?_
      refine w_iload (pc' := 30) rfl rfl rfl ?_
      refine w_aload_n (pc' := 31) rfl rfl rfl rfl ?_
      refine w_iload (pc' := 33) rfl rfl rfl ?_
      refine w_iload (pc' := 35) rfl rfl rfl ?_
      refine w_iconst (pc' := 36) 1 rfl rfl ic_1 ?_
      refine w_iadd (pc' := 37) rfl rfl ?_
      rw [show nI (e) + (1 : Int32) = nI (e + 1) from nI_add _ _]
      refine w_cV4i (pc' := 40) (v_does11 xs (T := q_ran T 11) hp hA_1 (by omega) x (by omega) (by rw [ran_154]; exact hk)) (by decide) rfl rfl rfl (Nat.le_of_ble_eq_true rfl) sh_120 rfl (fun m2 hm' => ?_)
      obtain ⟨hA_2, hF_2⟩ := hm'
      refine w_iret rfl rfl rfl ?_
      rw [f_d0_eq]
      exact ⟨rfl, hA_2, hF_1.tr hF_2⟩
    · have g2 : ¬ e ≤ 21 := fun q => h16 ((nI_leI (a := e) (b := 21) (by omega) (by omega)).mpr q)
      omega
set_option maxRecDepth 100000 in
set_option maxHeartbeats 4000000 in
theorem v_run3_1 (xs : List Int32) {T : q_T} {p : Nat} {m : am_Mm} (hp : p < 6) (h : q_Ra T p m) (h38 : T.1 153 38 < 800) (x : Int32) {e : Nat} (he : e < 15) (hk : T.1 154 p < 7) : am_V xs 7 123 [.ref 120, .ref (1 + 6 + 4 * p), .int 3, .int 1, .int x, .int (nI e)] m (am_qi (f_d0 T p x).1 (fun m' => q_Ra (f_d0 T p x).2 p m' ∧ q_Ft m m')) := by
  refine am_V_of ky_123 (Nat.le_of_ble_eq_true rfl) ?_
  show am_P xs 6 tr_run 0 [some (.ref 120), some (.ref (1 + 6 + 4 * p)), some (.int 3), some (.int 1), some (.int x), some (.int (nI e)), none] [] m _
  refine w_iload_n (pc' := 1) rfl rfl rfl ?_
  refine w_iload_n (pc' := 2) rfl rfl rfl ?_
  refine w_cS2i (pc' := 5) (v_body3_1 xs m) (by decide) rfl rfl rfl (Or.inl rfl) (Nat.le_of_ble_eq_true rfl) (fun m' hm' => ?_)
  rw [show m' = m from hm']
  clear hm' m'
  refine w_ist6 (pc' := 7) rfl rfl rfl ?_
  refine w_iload (pc' := 9) rfl rfl rfl ?_
  refine w_if_eq (t := 19) (pc' := 12) rfl (by decide) rfl (fun h9 => ?_) (fun h9 => ?_)
  · exact absurd h9 (by decide)
  · refine w_iload (pc' := 14) rfl rfl rfl ?_
    refine w_bipush (pc' := 16) 21 rfl rfl bp_21 ?_
    refine w_ic_le (t := 21) (pc' := 19) rfl (by decide) rfl (fun h16 => ?_) (fun h16 => ?_)
    · have g1 : e ≤ 21 := (nI_leI (a := e) (b := 21) (by omega) (by omega)).mp h16
      refine w_aload_n (pc' := 22) rfl rfl rfl rfl ?_
      refine w_iload (pc' := 24) rfl rfl rfl ?_
      refine w_cV1n (pc' := 27) (v_beginsA xs h hp (by omega) (b := 11) (by omega)) (by decide) rfl rfl rfl (Nat.le_of_ble_eq_true rfl) sh_120 rfl (fun m1 hm' => ?_)
      obtain ⟨hA_1, hF_1⟩ := hm'
      have hq38 := (q_ran_tr T 11).2.1
      refine w_aload_n (pc' := 28) rfl rfl rfl rfl ?_
      refine w_iload (pc' := 30) rfl rfl rfl ?_
      refine w_aload_n (pc' := 31) rfl rfl rfl rfl ?_
      refine w_iload (pc' := 33) rfl rfl rfl ?_
      refine w_iload (pc' := 35) rfl rfl rfl ?_
      refine w_iconst (pc' := 36) 1 rfl rfl ic_1 ?_
      refine w_iadd (pc' := 37) rfl rfl ?_
      rw [show nI (e) + (1 : Int32) = nI (e + 1) from nI_add _ _]
      refine w_cV4i (pc' := 40) (v_does11 xs (T := q_ran T 11) hp hA_1 (by omega) x (by omega) (by rw [ran_154]; exact hk)) (by decide) rfl rfl rfl (Nat.le_of_ble_eq_true rfl) sh_120 rfl (fun m2 hm' => ?_)
      obtain ⟨hA_2, hF_2⟩ := hm'
      refine w_iret rfl rfl rfl ?_
      rw [f_d0_eq]
      exact ⟨rfl, hA_2, hF_1.tr hF_2⟩
    · have g2 : ¬ e ≤ 21 := fun q => h16 ((nI_leI (a := e) (b := 21) (by omega) (by omega)).mpr q)
      omega
set_option maxRecDepth 100000 in
set_option maxHeartbeats 4000000 in
theorem v_run5_1 (xs : List Int32) {T : q_T} {p : Nat} {m : am_Mm} (hp : p < 6) (h : q_Ra T p m) (h38 : T.1 153 38 < 800) (x : Int32) {e : Nat} (he : e < 15) (hk : T.1 154 p < 7) : am_V xs 7 123 [.ref 120, .ref (1 + 6 + 4 * p), .int 5, .int 1, .int x, .int (nI e)] m (am_qi (f_d0 T p x).1 (fun m' => q_Ra (f_d0 T p x).2 p m' ∧ q_Ft m m')) := by
  refine am_V_of ky_123 (Nat.le_of_ble_eq_true rfl) ?_
  show am_P xs 6 tr_run 0 [some (.ref 120), some (.ref (1 + 6 + 4 * p)), some (.int 5), some (.int 1), some (.int x), some (.int (nI e)), none] [] m _
  refine w_iload_n (pc' := 1) rfl rfl rfl ?_
  refine w_iload_n (pc' := 2) rfl rfl rfl ?_
  refine w_cS2i (pc' := 5) (v_body5_1 xs m) (by decide) rfl rfl rfl (Or.inl rfl) (Nat.le_of_ble_eq_true rfl) (fun m' hm' => ?_)
  rw [show m' = m from hm']
  clear hm' m'
  refine w_ist6 (pc' := 7) rfl rfl rfl ?_
  refine w_iload (pc' := 9) rfl rfl rfl ?_
  refine w_if_eq (t := 19) (pc' := 12) rfl (by decide) rfl (fun h9 => ?_) (fun h9 => ?_)
  · exact absurd h9 (by decide)
  · refine w_iload (pc' := 14) rfl rfl rfl ?_
    refine w_bipush (pc' := 16) 21 rfl rfl bp_21 ?_
    refine w_ic_le (t := 21) (pc' := 19) rfl (by decide) rfl (fun h16 => ?_) (fun h16 => ?_)
    · have g1 : e ≤ 21 := (nI_leI (a := e) (b := 21) (by omega) (by omega)).mp h16
      refine w_aload_n (pc' := 22) rfl rfl rfl rfl ?_
      refine w_iload (pc' := 24) rfl rfl rfl ?_
      refine w_cV1n (pc' := 27) (v_beginsA xs h hp (by omega) (b := 11) (by omega)) (by decide) rfl rfl rfl (Nat.le_of_ble_eq_true rfl) sh_120 rfl (fun m1 hm' => ?_)
      obtain ⟨hA_1, hF_1⟩ := hm'
      have hq38 := (q_ran_tr T 11).2.1
      refine w_aload_n (pc' := 28) rfl rfl rfl rfl ?_
      refine w_iload (pc' := 30) rfl rfl rfl ?_
      refine w_aload_n (pc' := 31) rfl rfl rfl rfl ?_
      refine w_iload (pc' := 33) rfl rfl rfl ?_
      refine w_iload (pc' := 35) rfl rfl rfl ?_
      refine w_iconst (pc' := 36) 1 rfl rfl ic_1 ?_
      refine w_iadd (pc' := 37) rfl rfl ?_
      rw [show nI (e) + (1 : Int32) = nI (e + 1) from nI_add _ _]
      refine w_cV4i (pc' := 40) (v_does11 xs (T := q_ran T 11) hp hA_1 (by omega) x (by omega) (by rw [ran_154]; exact hk)) (by decide) rfl rfl rfl (Nat.le_of_ble_eq_true rfl) sh_120 rfl (fun m2 hm' => ?_)
      obtain ⟨hA_2, hF_2⟩ := hm'
      refine w_iret rfl rfl rfl ?_
      rw [f_d0_eq]
      exact ⟨rfl, hA_2, hF_1.tr hF_2⟩
    · have g2 : ¬ e ≤ 21 := fun q => h16 ((nI_leI (a := e) (b := 21) (by omega) (by omega)).mpr q)
      omega
set_option maxRecDepth 100000 in
set_option maxHeartbeats 4000000 in
theorem v_does20 (xs : List Int32) {T : q_T} {p : Nat} {m : am_Mm} (hp : p < 6) (h : q_Ra T p m) (h38 : T.1 153 38 < 760) (x : Int32) {e : Nat} (he : e < 14) (hk : T.1 154 p < 7) : am_V xs 8 127 [.ref 120, .int 20, .ref (1 + 6 + 4 * p), .int x, .int (nI e)] m (am_qi (((f_d0 T p x).1 ^^^ 6, (f_d0 T p x).2)).1 (fun m' => q_Ra (((f_d0 T p x).1 ^^^ 6, (f_d0 T p x).2)).2 p m' ∧ q_Ft m m')) := by
  refine am_V_of ky_127 (Nat.le_of_ble_eq_true rfl) ?_
  show am_P xs 7 tr_does 0 [some (.ref 120), some (.int 20), some (.ref (1 + 6 + 4 * p)), some (.int x), some (.int (nI e))] [] m _
  refine w_iload_n (pc' := 1) rfl rfl rfl ?_
  refine w_lsw (off := 141) (pc' := 142) rfl rfl rfl rfl ?_
  refine w_aload_n (pc' := 143) rfl rfl rfl rfl ?_
  refine w_aload_n (pc' := 144) rfl rfl rfl rfl ?_
  refine w_iconst (pc' := 145) 1 rfl rfl ic_1 ?_
  refine w_cS1i (pc' := 148) (v_ab1 xs m) (by decide) rfl rfl rfl (Or.inr rfl) (Nat.le_of_ble_eq_true rfl) (fun m' hm' => ?_)
  rw [show m' = m from hm']
  clear hm' m'
  refine w_iconst (pc' := 149) 1 rfl rfl ic_1 ?_
  refine w_iload_n (pc' := 150) rfl rfl rfl ?_
  refine w_iload (pc' := 152) rfl rfl rfl ?_
  refine w_cV5i (pc' := 155) (v_run0_1 xs (T := T) hp h (by omega) (x) (e := e) (by omega) hk) (by decide) rfl rfl rfl (Nat.le_of_ble_eq_true rfl) sh_120 rfl (fun m1 hm' => ?_)
  obtain ⟨hA_1, hF_1⟩ := hm'
  refine w_bipush (pc' := 157) 6 rfl rfl bp_6 ?_
  refine w_ixor (pc' := 158) rfl rfl ?_
  refine w_iret rfl rfl rfl ?_
  exact ⟨rfl, hA_1, hF_1⟩
set_option maxRecDepth 100000 in
set_option maxHeartbeats 4000000 in
theorem v_run1_1 (xs : List Int32) {T : q_T} {p : Nat} {m : am_Mm} (hp : p < 6) (h : q_Ra T p m) (h38 : T.1 153 38 < 720) (x : Int32) {e : Nat} (he : e < 13) (hk : T.1 154 p < 7) : am_V xs 9 123 [.ref 120, .ref (1 + 6 + 4 * p), .int 1, .int 1, .int x, .int (nI e)] m (am_qi (f_d1 T p x).1 (fun m' => q_Ra (f_d1 T p x).2 p m' ∧ q_Ft m m')) := by
  refine am_V_of ky_123 (Nat.le_of_ble_eq_true rfl) ?_
  show am_P xs 8 tr_run 0 [some (.ref 120), some (.ref (1 + 6 + 4 * p)), some (.int 1), some (.int 1), some (.int x), some (.int (nI e)), none] [] m _
  refine w_iload_n (pc' := 1) rfl rfl rfl ?_
  refine w_iload_n (pc' := 2) rfl rfl rfl ?_
  refine w_cS2i (pc' := 5) (v_body1_1 xs m) (by decide) rfl rfl rfl (Or.inl rfl) (Nat.le_of_ble_eq_true rfl) (fun m' hm' => ?_)
  rw [show m' = m from hm']
  clear hm' m'
  refine w_ist6 (pc' := 7) rfl rfl rfl ?_
  refine w_iload (pc' := 9) rfl rfl rfl ?_
  refine w_if_eq (t := 19) (pc' := 12) rfl (by decide) rfl (fun h9 => ?_) (fun h9 => ?_)
  · exact absurd h9 (by decide)
  · refine w_iload (pc' := 14) rfl rfl rfl ?_
    refine w_bipush (pc' := 16) 21 rfl rfl bp_21 ?_
    refine w_ic_le (t := 21) (pc' := 19) rfl (by decide) rfl (fun h16 => ?_) (fun h16 => ?_)
    · have g1 : e ≤ 21 := (nI_leI (a := e) (b := 21) (by omega) (by omega)).mp h16
      refine w_aload_n (pc' := 22) rfl rfl rfl rfl ?_
      refine w_iload (pc' := 24) rfl rfl rfl ?_
      refine w_cV1n (pc' := 27) (v_beginsA xs h hp (by omega) (b := 20) (by omega)) (by decide) rfl rfl rfl (Nat.le_of_ble_eq_true rfl) sh_120 rfl (fun m1 hm' => ?_)
      obtain ⟨hA_1, hF_1⟩ := hm'
      have hq38 := (q_ran_tr T 20).2.1
      refine w_aload_n (pc' := 28) rfl rfl rfl rfl ?_
      refine w_iload (pc' := 30) rfl rfl rfl ?_
      refine w_aload_n (pc' := 31) rfl rfl rfl rfl ?_
      refine w_iload (pc' := 33) rfl rfl rfl ?_
      refine w_iload (pc' := 35) rfl rfl rfl ?_
      refine w_iconst (pc' := 36) 1 rfl rfl ic_1 ?_
      refine w_iadd (pc' := 37) rfl rfl ?_
      rw [show nI (e) + (1 : Int32) = nI (e + 1) from nI_add _ _]
      refine w_cV4i (pc' := 40) (v_does20 xs (T := q_ran T 20) hp hA_1 (by omega) x (by omega) (by rw [ran_154]; exact hk)) (by decide) rfl rfl rfl (Nat.le_of_ble_eq_true rfl) sh_120 rfl (fun m2 hm' => ?_)
      obtain ⟨hA_2, hF_2⟩ := hm'
      refine w_iret rfl rfl rfl ?_
      exact ⟨rfl, hA_2, hF_1.tr hF_2⟩
    · have g2 : ¬ e ≤ 21 := fun q => h16 ((nI_leI (a := e) (b := 21) (by omega) (by omega)).mpr q)
      omega
set_option maxRecDepth 100000 in
set_option maxHeartbeats 4000000 in
theorem v_does51 (xs : List Int32) {T : q_T} {p : Nat} {m : am_Mm} (hp : p < 6) (h : q_Ra T p m) (h38 : T.1 153 38 < 680) (x : Int32) {e : Nat} (he : e < 12) (hk : T.1 154 p < 7) : am_V xs 10 127 [.ref 120, .int 51, .ref (1 + 6 + 4 * p), .int x, .int (nI e)] m (am_qi (f_d1 T p (x + 1)).1 (fun m' => q_Ra (f_d1 T p (x + 1)).2 p m' ∧ q_Ft m m')) := by
  refine am_V_of ky_127 (Nat.le_of_ble_eq_true rfl) ?_
  show am_P xs 9 tr_does 0 [some (.ref 120), some (.int 51), some (.ref (1 + 6 + 4 * p)), some (.int x), some (.int (nI e))] [] m _
  refine w_iload_n (pc' := 1) rfl rfl rfl ?_
  refine w_lsw (off := 217) (pc' := 218) rfl rfl rfl rfl ?_
  refine w_aload_n (pc' := 219) rfl rfl rfl rfl ?_
  refine w_aload_n (pc' := 220) rfl rfl rfl rfl ?_
  refine w_iconst (pc' := 221) 4 rfl rfl ic_4 ?_
  refine w_cS1i (pc' := 224) (v_ab4 xs m) (by decide) rfl rfl rfl (Or.inr rfl) (Nat.le_of_ble_eq_true rfl) (fun m' hm' => ?_)
  rw [show m' = m from hm']
  clear hm' m'
  refine w_iconst (pc' := 225) 1 rfl rfl ic_1 ?_
  refine w_iload_n (pc' := 226) rfl rfl rfl ?_
  refine w_iconst (pc' := 227) 1 rfl rfl ic_1 ?_
  refine w_iadd (pc' := 228) rfl rfl ?_
  refine w_iload (pc' := 230) rfl rfl rfl ?_
  refine w_cV5i (pc' := 233) (v_run1_1 xs (T := T) hp h (by omega) (x + 1) (e := e) (by omega) hk) (by decide) rfl rfl rfl (Nat.le_of_ble_eq_true rfl) sh_120 rfl (fun m1 hm' => ?_)
  obtain ⟨hA_1, hF_1⟩ := hm'
  refine w_iret rfl rfl rfl ?_
  exact ⟨rfl, hA_1, hF_1⟩
set_option maxRecDepth 100000 in
set_option maxHeartbeats 4000000 in
theorem v_run4_1 (xs : List Int32) {T : q_T} {p : Nat} {m : am_Mm} (hp : p < 6) (h : q_Ra T p m) (h38 : T.1 153 38 < 640) (x : Int32) {e : Nat} (he : e < 11) (hk : T.1 154 p < 7) : am_V xs 11 123 [.ref 120, .ref (1 + 6 + 4 * p), .int 4, .int 1, .int x, .int (nI e)] m (am_qi (f_d4 T p x).1 (fun m' => q_Ra (f_d4 T p x).2 p m' ∧ q_Ft m m')) := by
  refine am_V_of ky_123 (Nat.le_of_ble_eq_true rfl) ?_
  show am_P xs 10 tr_run 0 [some (.ref 120), some (.ref (1 + 6 + 4 * p)), some (.int 4), some (.int 1), some (.int x), some (.int (nI e)), none] [] m _
  refine w_iload_n (pc' := 1) rfl rfl rfl ?_
  refine w_iload_n (pc' := 2) rfl rfl rfl ?_
  refine w_cS2i (pc' := 5) (v_body4_1 xs m) (by decide) rfl rfl rfl (Or.inl rfl) (Nat.le_of_ble_eq_true rfl) (fun m' hm' => ?_)
  rw [show m' = m from hm']
  clear hm' m'
  refine w_ist6 (pc' := 7) rfl rfl rfl ?_
  refine w_iload (pc' := 9) rfl rfl rfl ?_
  refine w_if_eq (t := 19) (pc' := 12) rfl (by decide) rfl (fun h9 => ?_) (fun h9 => ?_)
  · exact absurd h9 (by decide)
  · refine w_iload (pc' := 14) rfl rfl rfl ?_
    refine w_bipush (pc' := 16) 21 rfl rfl bp_21 ?_
    refine w_ic_le (t := 21) (pc' := 19) rfl (by decide) rfl (fun h16 => ?_) (fun h16 => ?_)
    · have g1 : e ≤ 21 := (nI_leI (a := e) (b := 21) (by omega) (by omega)).mp h16
      refine w_aload_n (pc' := 22) rfl rfl rfl rfl ?_
      refine w_iload (pc' := 24) rfl rfl rfl ?_
      refine w_cV1n (pc' := 27) (v_beginsA xs h hp (by omega) (b := 51) (by omega)) (by decide) rfl rfl rfl (Nat.le_of_ble_eq_true rfl) sh_120 rfl (fun m1 hm' => ?_)
      obtain ⟨hA_1, hF_1⟩ := hm'
      have hq38 := (q_ran_tr T 51).2.1
      refine w_aload_n (pc' := 28) rfl rfl rfl rfl ?_
      refine w_iload (pc' := 30) rfl rfl rfl ?_
      refine w_aload_n (pc' := 31) rfl rfl rfl rfl ?_
      refine w_iload (pc' := 33) rfl rfl rfl ?_
      refine w_iload (pc' := 35) rfl rfl rfl ?_
      refine w_iconst (pc' := 36) 1 rfl rfl ic_1 ?_
      refine w_iadd (pc' := 37) rfl rfl ?_
      rw [show nI (e) + (1 : Int32) = nI (e + 1) from nI_add _ _]
      refine w_cV4i (pc' := 40) (v_does51 xs (T := q_ran T 51) hp hA_1 (by omega) x (by omega) (by rw [ran_154]; exact hk)) (by decide) rfl rfl rfl (Nat.le_of_ble_eq_true rfl) sh_120 rfl (fun m2 hm' => ?_)
      obtain ⟨hA_2, hF_2⟩ := hm'
      refine w_iret rfl rfl rfl ?_
      exact ⟨rfl, hA_2, hF_1.tr hF_2⟩
    · have g2 : ¬ e ≤ 21 := fun q => h16 ((nI_leI (a := e) (b := 21) (by omega) (by omega)).mpr q)
      omega
set_option maxRecDepth 100000 in
set_option maxHeartbeats 4000000 in
theorem v_does70 (xs : List Int32) {T : q_T} {p : Nat} {m : am_Mm} (hp : p < 6) (h : q_Ra T p m) (h38 : T.1 153 38 < 760) (x : Int32) {e : Nat} (he : e < 14) (hk : T.1 154 p < 7) : am_V xs 8 127 [.ref 120, .int 70, .ref (1 + 6 + 4 * p), .int x, .int (nI e)] m (am_qi (((f_d0 T p x).1 + (f_w0 (f_d0 T p x).2 p 2).1, (f_w0 (f_d0 T p x).2 p 2).2)).1 (fun m' => q_Ra (((f_d0 T p x).1 + (f_w0 (f_d0 T p x).2 p 2).1, (f_w0 (f_d0 T p x).2 p 2).2)).2 p m' ∧ q_Ft m m')) := by
  refine am_V_of ky_127 (Nat.le_of_ble_eq_true rfl) ?_
  show am_P xs 7 tr_does 0 [some (.ref 120), some (.int 70), some (.ref (1 + 6 + 4 * p)), some (.int x), some (.int (nI e))] [] m _
  refine w_iload_n (pc' := 1) rfl rfl rfl ?_
  refine w_lsw (off := 252) (pc' := 253) rfl rfl rfl rfl ?_
  refine w_aload_n (pc' := 254) rfl rfl rfl rfl ?_
  refine w_aload_n (pc' := 255) rfl rfl rfl rfl ?_
  refine w_bipush (pc' := 257) 6 rfl rfl bp_6 ?_
  refine w_cS1i (pc' := 260) (v_ab6 xs m) (by decide) rfl rfl rfl (Or.inr rfl) (Nat.le_of_ble_eq_true rfl) (fun m' hm' => ?_)
  rw [show m' = m from hm']
  clear hm' m'
  refine w_iconst (pc' := 261) 1 rfl rfl ic_1 ?_
  refine w_iload_n (pc' := 262) rfl rfl rfl ?_
  refine w_iload (pc' := 264) rfl rfl rfl ?_
  refine w_cV5i (pc' := 267) (v_run3_1 xs (T := T) hp h (by omega) (x) (e := e) (by omega) hk) (by decide) rfl rfl rfl (Nat.le_of_ble_eq_true rfl) sh_120 rfl (fun m1 hm' => ?_)
  obtain ⟨hA_1, hF_1⟩ := hm'
  refine w_aload_n (pc' := 268) rfl rfl rfl rfl ?_
  refine w_aload_n (pc' := 269) rfl rfl rfl rfl ?_
  refine w_bipush (pc' := 271) 6 rfl rfl bp_6 ?_
  refine w_cS1i (pc' := 274) (v_ab6 xs m1) (by decide) rfl rfl rfl (Or.inr rfl) (Nat.le_of_ble_eq_true rfl) (fun m' hm' => ?_)
  rw [show m' = m1 from hm']
  clear hm' m'
  refine w_iconst (pc' := 275) 0 rfl rfl ic_0 ?_
  refine w_iconst (pc' := 276) 2 rfl rfl ic_2 ?_
  refine w_iload (pc' := 278) rfl rfl rfl ?_
  refine w_cV5i (pc' := 281) (v_run3_0 xs (T := (f_d0 T p x).2) hp hA_1 (by have := (f_d0_tr T p x).2.1; omega) (2) (e := e) (by omega)) (by decide) rfl rfl rfl (Nat.le_of_ble_eq_true rfl) sh_120 rfl (fun m2 hm' => ?_)
  obtain ⟨hA_2, hF_2⟩ := hm'
  refine w_iadd (pc' := 282) rfl rfl ?_
  refine w_iret rfl rfl rfl ?_
  exact ⟨rfl, hA_2, hF_1.tr hF_2⟩
set_option maxRecDepth 100000 in
set_option maxHeartbeats 4000000 in
theorem v_run6_1 (xs : List Int32) {T : q_T} {p : Nat} {m : am_Mm} (hp : p < 6) (h : q_Ra T p m) (h38 : T.1 153 38 < 720) (x : Int32) {e : Nat} (he : e < 13) (hk : T.1 154 p < 7) : am_V xs 9 123 [.ref 120, .ref (1 + 6 + 4 * p), .int 6, .int 1, .int x, .int (nI e)] m (am_qi (f_d6 T p x).1 (fun m' => q_Ra (f_d6 T p x).2 p m' ∧ q_Ft m m')) := by
  refine am_V_of ky_123 (Nat.le_of_ble_eq_true rfl) ?_
  show am_P xs 8 tr_run 0 [some (.ref 120), some (.ref (1 + 6 + 4 * p)), some (.int 6), some (.int 1), some (.int x), some (.int (nI e)), none] [] m _
  refine w_iload_n (pc' := 1) rfl rfl rfl ?_
  refine w_iload_n (pc' := 2) rfl rfl rfl ?_
  refine w_cS2i (pc' := 5) (v_body6_1 xs m) (by decide) rfl rfl rfl (Or.inl rfl) (Nat.le_of_ble_eq_true rfl) (fun m' hm' => ?_)
  rw [show m' = m from hm']
  clear hm' m'
  refine w_ist6 (pc' := 7) rfl rfl rfl ?_
  refine w_iload (pc' := 9) rfl rfl rfl ?_
  refine w_if_eq (t := 19) (pc' := 12) rfl (by decide) rfl (fun h9 => ?_) (fun h9 => ?_)
  · exact absurd h9 (by decide)
  · refine w_iload (pc' := 14) rfl rfl rfl ?_
    refine w_bipush (pc' := 16) 21 rfl rfl bp_21 ?_
    refine w_ic_le (t := 21) (pc' := 19) rfl (by decide) rfl (fun h16 => ?_) (fun h16 => ?_)
    · have g1 : e ≤ 21 := (nI_leI (a := e) (b := 21) (by omega) (by omega)).mp h16
      refine w_aload_n (pc' := 22) rfl rfl rfl rfl ?_
      refine w_iload (pc' := 24) rfl rfl rfl ?_
      refine w_cV1n (pc' := 27) (v_beginsA xs h hp (by omega) (b := 70) (by omega)) (by decide) rfl rfl rfl (Nat.le_of_ble_eq_true rfl) sh_120 rfl (fun m1 hm' => ?_)
      obtain ⟨hA_1, hF_1⟩ := hm'
      have hq38 := (q_ran_tr T 70).2.1
      refine w_aload_n (pc' := 28) rfl rfl rfl rfl ?_
      refine w_iload (pc' := 30) rfl rfl rfl ?_
      refine w_aload_n (pc' := 31) rfl rfl rfl rfl ?_
      refine w_iload (pc' := 33) rfl rfl rfl ?_
      refine w_iload (pc' := 35) rfl rfl rfl ?_
      refine w_iconst (pc' := 36) 1 rfl rfl ic_1 ?_
      refine w_iadd (pc' := 37) rfl rfl ?_
      rw [show nI (e) + (1 : Int32) = nI (e + 1) from nI_add _ _]
      refine w_cV4i (pc' := 40) (v_does70 xs (T := q_ran T 70) hp hA_1 (by omega) x (by omega) (by rw [ran_154]; exact hk)) (by decide) rfl rfl rfl (Nat.le_of_ble_eq_true rfl) sh_120 rfl (fun m2 hm' => ?_)
      obtain ⟨hA_2, hF_2⟩ := hm'
      refine w_iret rfl rfl rfl ?_
      exact ⟨rfl, hA_2, hF_1.tr hF_2⟩
    · have g2 : ¬ e ≤ 21 := fun q => h16 ((nI_leI (a := e) (b := 21) (by omega) (by omega)).mpr q)
      omega
theorem v_runD (xs : List Int32) {T : q_T} {p : Nat} {m : am_Mm} (hp : p < 6) (h : q_Ra T p m) (h38 : T.1 153 38 < 640) (x : Int32) {e : Nat} (he : e < 11) (hk : T.1 154 p < 7) {k : Nat} (hk7 : k < 7) : am_V xs 11 123 [.ref 120, .ref (1 + 6 + 4 * p), .int (nI k), .int 1, .int x, .int (nI e)] m (am_qi (f_dp k T p x).1 (fun m' => q_Ra (f_dp k T p x).2 p m' ∧ q_Ft m m')) := by
  rcases (show k = 0 ∨ k = 1 ∨ k = 2 ∨ k = 3 ∨ k = 4 ∨ k = 5 ∨ k = 6 by omega) with rfl | rfl | rfl | rfl | rfl | rfl | rfl
  · exact (v_run0_1 xs hp h (by omega) x (by omega) hk).up (by decide)
  · exact (v_run1_1 xs hp h (by omega) x (by omega) hk).up (by decide)
  · exact (v_run2_1 xs hp h (by omega) x (by omega) hk).up (by decide)
  · exact (v_run3_1 xs hp h (by omega) x (by omega) hk).up (by decide)
  · exact (v_run4_1 xs hp h (by omega) x (by omega) hk).up (by decide)
  · exact (v_run5_1 xs hp h (by omega) x (by omega) hk).up (by decide)
  · exact (v_run6_1 xs hp h (by omega) x (by omega) hk).up (by decide)
set_option maxRecDepth 100000 in
set_option maxHeartbeats 4000000 in
theorem v_does12 (xs : List Int32) {T : q_T} {p : Nat} {m : am_Mm} (hp : p < 6) (h : q_Ra T p m) (h38 : T.1 153 38 < 600) (x : Int32) {e : Nat} (he : e < 10) (hk : T.1 154 p < 7) : am_V xs 12 127 [.ref 120, .int 12, .ref (1 + 6 + 4 * p), .int x, .int (nI e)] m (am_qi (((f_dp (T.1 154 p) T p x).1 * 2, (f_dp (T.1 154 p) T p x).2)).1 (fun m' => q_Ra (((f_dp (T.1 154 p) T p x).1 * 2, (f_dp (T.1 154 p) T p x).2)).2 p m' ∧ q_Ft m m')) := by
  refine am_V_of ky_127 (Nat.le_of_ble_eq_true rfl) ?_
  show am_P xs 11 tr_does 0 [some (.ref 120), some (.int 12), some (.ref (1 + 6 + 4 * p)), some (.int x), some (.int (nI e))] [] m _
  refine w_iload_n (pc' := 1) rfl rfl rfl ?_
  refine w_lsw (off := 125) (pc' := 126) rfl rfl rfl rfl ?_
  refine w_aload_n (pc' := 127) rfl rfl rfl rfl ?_
  refine w_aload_n (pc' := 128) rfl rfl rfl rfl ?_
  refine w_aload_n (pc' := 129) rfl rfl rfl rfl ?_
  refine w_getI (pc' := 132) rfl rfl rfl (shD q_L1 (p := p) (by omega)) rfl ?_
  rw [show m.1 (1 + 6 + 4 * p) 1 = nI (T.1 154 p) from h.2.1]
  refine w_iconst (pc' := 133) 1 rfl rfl ic_1 ?_
  refine w_iload_n (pc' := 134) rfl rfl rfl ?_
  refine w_iload (pc' := 136) rfl rfl rfl ?_
  refine w_cV5i (pc' := 139) (v_runD xs (T := T) hp h (by omega) (x) (e := e) (by omega) hk (k := T.1 154 p) hk) (by decide) rfl rfl rfl (Nat.le_of_ble_eq_true rfl) sh_120 rfl (fun m1 hm' => ?_)
  obtain ⟨hA_1, hF_1⟩ := hm'
  refine w_iconst (pc' := 140) 2 rfl rfl ic_2 ?_
  refine w_imul (pc' := 141) rfl rfl ?_
  refine w_iret rfl rfl rfl ?_
  exact ⟨rfl, hA_1, hF_1⟩
set_option maxRecDepth 100000 in
set_option maxHeartbeats 4000000 in
theorem v_run0_2 (xs : List Int32) {T : q_T} {p : Nat} {m : am_Mm} (hp : p < 6) (h : q_Ra T p m) (h38 : T.1 153 38 < 560) (x : Int32) {e : Nat} (he : e < 9) (hk : T.1 154 p < 7) : am_V xs 13 123 [.ref 120, .ref (1 + 6 + 4 * p), .int 0, .int 2, .int x, .int (nI e)] m (am_qi (f_t0 T p x).1 (fun m' => q_Ra (f_t0 T p x).2 p m' ∧ q_Ft m m')) := by
  refine am_V_of ky_123 (Nat.le_of_ble_eq_true rfl) ?_
  show am_P xs 12 tr_run 0 [some (.ref 120), some (.ref (1 + 6 + 4 * p)), some (.int 0), some (.int 2), some (.int x), some (.int (nI e)), none] [] m _
  refine w_iload_n (pc' := 1) rfl rfl rfl ?_
  refine w_iload_n (pc' := 2) rfl rfl rfl ?_
  refine w_cS2i (pc' := 5) (v_body0_2 xs m) (by decide) rfl rfl rfl (Or.inl rfl) (Nat.le_of_ble_eq_true rfl) (fun m' hm' => ?_)
  rw [show m' = m from hm']
  clear hm' m'
  refine w_ist6 (pc' := 7) rfl rfl rfl ?_
  refine w_iload (pc' := 9) rfl rfl rfl ?_
  refine w_if_eq (t := 19) (pc' := 12) rfl (by decide) rfl (fun h9 => ?_) (fun h9 => ?_)
  · exact absurd h9 (by decide)
  · refine w_iload (pc' := 14) rfl rfl rfl ?_
    refine w_bipush (pc' := 16) 21 rfl rfl bp_21 ?_
    refine w_ic_le (t := 21) (pc' := 19) rfl (by decide) rfl (fun h16 => ?_) (fun h16 => ?_)
    · have g1 : e ≤ 21 := (nI_leI (a := e) (b := 21) (by omega) (by omega)).mp h16
      refine w_aload_n (pc' := 22) rfl rfl rfl rfl ?_
      refine w_iload (pc' := 24) rfl rfl rfl ?_
      refine w_cV1n (pc' := 27) (v_beginsA xs h hp (by omega) (b := 12) (by omega)) (by decide) rfl rfl rfl (Nat.le_of_ble_eq_true rfl) sh_120 rfl (fun m1 hm' => ?_)
      obtain ⟨hA_1, hF_1⟩ := hm'
      have hq38 := (q_ran_tr T 12).2.1
      refine w_aload_n (pc' := 28) rfl rfl rfl rfl ?_
      refine w_iload (pc' := 30) rfl rfl rfl ?_
      refine w_aload_n (pc' := 31) rfl rfl rfl rfl ?_
      refine w_iload (pc' := 33) rfl rfl rfl ?_
      refine w_iload (pc' := 35) rfl rfl rfl ?_
      refine w_iconst (pc' := 36) 1 rfl rfl ic_1 ?_
      refine w_iadd (pc' := 37) rfl rfl ?_
      rw [show nI (e) + (1 : Int32) = nI (e + 1) from nI_add _ _]
      refine w_cV4i (pc' := 40) (v_does12 xs (T := q_ran T 12) hp hA_1 (by omega) x (by omega) (by rw [ran_154]; exact hk)) (by decide) rfl rfl rfl (Nat.le_of_ble_eq_true rfl) sh_120 rfl (fun m2 hm' => ?_)
      obtain ⟨hA_2, hF_2⟩ := hm'
      refine w_iret rfl rfl rfl ?_
      rw [f_t0_eq]
      exact ⟨rfl, hA_2, hF_1.tr hF_2⟩
    · have g2 : ¬ e ≤ 21 := fun q => h16 ((nI_leI (a := e) (b := 21) (by omega) (by omega)).mpr q)
      omega
set_option maxRecDepth 100000 in
set_option maxHeartbeats 4000000 in
theorem v_run1_2 (xs : List Int32) {T : q_T} {p : Nat} {m : am_Mm} (hp : p < 6) (h : q_Ra T p m) (h38 : T.1 153 38 < 560) (x : Int32) {e : Nat} (he : e < 9) (hk : T.1 154 p < 7) : am_V xs 13 123 [.ref 120, .ref (1 + 6 + 4 * p), .int 1, .int 2, .int x, .int (nI e)] m (am_qi (f_t0 T p x).1 (fun m' => q_Ra (f_t0 T p x).2 p m' ∧ q_Ft m m')) := by
  refine am_V_of ky_123 (Nat.le_of_ble_eq_true rfl) ?_
  show am_P xs 12 tr_run 0 [some (.ref 120), some (.ref (1 + 6 + 4 * p)), some (.int 1), some (.int 2), some (.int x), some (.int (nI e)), none] [] m _
  refine w_iload_n (pc' := 1) rfl rfl rfl ?_
  refine w_iload_n (pc' := 2) rfl rfl rfl ?_
  refine w_cS2i (pc' := 5) (v_body1_2 xs m) (by decide) rfl rfl rfl (Or.inl rfl) (Nat.le_of_ble_eq_true rfl) (fun m' hm' => ?_)
  rw [show m' = m from hm']
  clear hm' m'
  refine w_ist6 (pc' := 7) rfl rfl rfl ?_
  refine w_iload (pc' := 9) rfl rfl rfl ?_
  refine w_if_eq (t := 19) (pc' := 12) rfl (by decide) rfl (fun h9 => ?_) (fun h9 => ?_)
  · exact absurd h9 (by decide)
  · refine w_iload (pc' := 14) rfl rfl rfl ?_
    refine w_bipush (pc' := 16) 21 rfl rfl bp_21 ?_
    refine w_ic_le (t := 21) (pc' := 19) rfl (by decide) rfl (fun h16 => ?_) (fun h16 => ?_)
    · have g1 : e ≤ 21 := (nI_leI (a := e) (b := 21) (by omega) (by omega)).mp h16
      refine w_aload_n (pc' := 22) rfl rfl rfl rfl ?_
      refine w_iload (pc' := 24) rfl rfl rfl ?_
      refine w_cV1n (pc' := 27) (v_beginsA xs h hp (by omega) (b := 12) (by omega)) (by decide) rfl rfl rfl (Nat.le_of_ble_eq_true rfl) sh_120 rfl (fun m1 hm' => ?_)
      obtain ⟨hA_1, hF_1⟩ := hm'
      have hq38 := (q_ran_tr T 12).2.1
      refine w_aload_n (pc' := 28) rfl rfl rfl rfl ?_
      refine w_iload (pc' := 30) rfl rfl rfl ?_
      refine w_aload_n (pc' := 31) rfl rfl rfl rfl ?_
      refine w_iload (pc' := 33) rfl rfl rfl ?_
      refine w_iload (pc' := 35) rfl rfl rfl ?_
      refine w_iconst (pc' := 36) 1 rfl rfl ic_1 ?_
      refine w_iadd (pc' := 37) rfl rfl ?_
      rw [show nI (e) + (1 : Int32) = nI (e + 1) from nI_add _ _]
      refine w_cV4i (pc' := 40) (v_does12 xs (T := q_ran T 12) hp hA_1 (by omega) x (by omega) (by rw [ran_154]; exact hk)) (by decide) rfl rfl rfl (Nat.le_of_ble_eq_true rfl) sh_120 rfl (fun m2 hm' => ?_)
      obtain ⟨hA_2, hF_2⟩ := hm'
      refine w_iret rfl rfl rfl ?_
      rw [f_t0_eq]
      exact ⟨rfl, hA_2, hF_1.tr hF_2⟩
    · have g2 : ¬ e ≤ 21 := fun q => h16 ((nI_leI (a := e) (b := 21) (by omega) (by omega)).mpr q)
      omega
set_option maxRecDepth 100000 in
set_option maxHeartbeats 4000000 in
theorem v_run2_2 (xs : List Int32) {T : q_T} {p : Nat} {m : am_Mm} (hp : p < 6) (h : q_Ra T p m) (h38 : T.1 153 38 < 560) (x : Int32) {e : Nat} (he : e < 9) (hk : T.1 154 p < 7) : am_V xs 13 123 [.ref 120, .ref (1 + 6 + 4 * p), .int 2, .int 2, .int x, .int (nI e)] m (am_qi (f_t0 T p x).1 (fun m' => q_Ra (f_t0 T p x).2 p m' ∧ q_Ft m m')) := by
  refine am_V_of ky_123 (Nat.le_of_ble_eq_true rfl) ?_
  show am_P xs 12 tr_run 0 [some (.ref 120), some (.ref (1 + 6 + 4 * p)), some (.int 2), some (.int 2), some (.int x), some (.int (nI e)), none] [] m _
  refine w_iload_n (pc' := 1) rfl rfl rfl ?_
  refine w_iload_n (pc' := 2) rfl rfl rfl ?_
  refine w_cS2i (pc' := 5) (v_body2_2 xs m) (by decide) rfl rfl rfl (Or.inl rfl) (Nat.le_of_ble_eq_true rfl) (fun m' hm' => ?_)
  rw [show m' = m from hm']
  clear hm' m'
  refine w_ist6 (pc' := 7) rfl rfl rfl ?_
  refine w_iload (pc' := 9) rfl rfl rfl ?_
  refine w_if_eq (t := 19) (pc' := 12) rfl (by decide) rfl (fun h9 => ?_) (fun h9 => ?_)
  · exact absurd h9 (by decide)
  · refine w_iload (pc' := 14) rfl rfl rfl ?_
    refine w_bipush (pc' := 16) 21 rfl rfl bp_21 ?_
    refine w_ic_le (t := 21) (pc' := 19) rfl (by decide) rfl (fun h16 => ?_) (fun h16 => ?_)
    · have g1 : e ≤ 21 := (nI_leI (a := e) (b := 21) (by omega) (by omega)).mp h16
      refine w_aload_n (pc' := 22) rfl rfl rfl rfl ?_
      refine w_iload (pc' := 24) rfl rfl rfl ?_
      refine w_cV1n (pc' := 27) (v_beginsA xs h hp (by omega) (b := 12) (by omega)) (by decide) rfl rfl rfl (Nat.le_of_ble_eq_true rfl) sh_120 rfl (fun m1 hm' => ?_)
      obtain ⟨hA_1, hF_1⟩ := hm'
      have hq38 := (q_ran_tr T 12).2.1
      refine w_aload_n (pc' := 28) rfl rfl rfl rfl ?_
      refine w_iload (pc' := 30) rfl rfl rfl ?_
      refine w_aload_n (pc' := 31) rfl rfl rfl rfl ?_
      refine w_iload (pc' := 33) rfl rfl rfl ?_
      refine w_iload (pc' := 35) rfl rfl rfl ?_
      refine w_iconst (pc' := 36) 1 rfl rfl ic_1 ?_
      refine w_iadd (pc' := 37) rfl rfl ?_
      rw [show nI (e) + (1 : Int32) = nI (e + 1) from nI_add _ _]
      refine w_cV4i (pc' := 40) (v_does12 xs (T := q_ran T 12) hp hA_1 (by omega) x (by omega) (by rw [ran_154]; exact hk)) (by decide) rfl rfl rfl (Nat.le_of_ble_eq_true rfl) sh_120 rfl (fun m2 hm' => ?_)
      obtain ⟨hA_2, hF_2⟩ := hm'
      refine w_iret rfl rfl rfl ?_
      rw [f_t0_eq]
      exact ⟨rfl, hA_2, hF_1.tr hF_2⟩
    · have g2 : ¬ e ≤ 21 := fun q => h16 ((nI_leI (a := e) (b := 21) (by omega) (by omega)).mpr q)
      omega
set_option maxRecDepth 100000 in
set_option maxHeartbeats 4000000 in
theorem v_run4_2 (xs : List Int32) {T : q_T} {p : Nat} {m : am_Mm} (hp : p < 6) (h : q_Ra T p m) (h38 : T.1 153 38 < 560) (x : Int32) {e : Nat} (he : e < 9) (hk : T.1 154 p < 7) : am_V xs 13 123 [.ref 120, .ref (1 + 6 + 4 * p), .int 4, .int 2, .int x, .int (nI e)] m (am_qi (f_t0 T p x).1 (fun m' => q_Ra (f_t0 T p x).2 p m' ∧ q_Ft m m')) := by
  refine am_V_of ky_123 (Nat.le_of_ble_eq_true rfl) ?_
  show am_P xs 12 tr_run 0 [some (.ref 120), some (.ref (1 + 6 + 4 * p)), some (.int 4), some (.int 2), some (.int x), some (.int (nI e)), none] [] m _
  refine w_iload_n (pc' := 1) rfl rfl rfl ?_
  refine w_iload_n (pc' := 2) rfl rfl rfl ?_
  refine w_cS2i (pc' := 5) (v_body4_2 xs m) (by decide) rfl rfl rfl (Or.inl rfl) (Nat.le_of_ble_eq_true rfl) (fun m' hm' => ?_)
  rw [show m' = m from hm']
  clear hm' m'
  refine w_ist6 (pc' := 7) rfl rfl rfl ?_
  refine w_iload (pc' := 9) rfl rfl rfl ?_
  refine w_if_eq (t := 19) (pc' := 12) rfl (by decide) rfl (fun h9 => ?_) (fun h9 => ?_)
  · exact absurd h9 (by decide)
  · refine w_iload (pc' := 14) rfl rfl rfl ?_
    refine w_bipush (pc' := 16) 21 rfl rfl bp_21 ?_
    refine w_ic_le (t := 21) (pc' := 19) rfl (by decide) rfl (fun h16 => ?_) (fun h16 => ?_)
    · have g1 : e ≤ 21 := (nI_leI (a := e) (b := 21) (by omega) (by omega)).mp h16
      refine w_aload_n (pc' := 22) rfl rfl rfl rfl ?_
      refine w_iload (pc' := 24) rfl rfl rfl ?_
      refine w_cV1n (pc' := 27) (v_beginsA xs h hp (by omega) (b := 12) (by omega)) (by decide) rfl rfl rfl (Nat.le_of_ble_eq_true rfl) sh_120 rfl (fun m1 hm' => ?_)
      obtain ⟨hA_1, hF_1⟩ := hm'
      have hq38 := (q_ran_tr T 12).2.1
      refine w_aload_n (pc' := 28) rfl rfl rfl rfl ?_
      refine w_iload (pc' := 30) rfl rfl rfl ?_
      refine w_aload_n (pc' := 31) rfl rfl rfl rfl ?_
      refine w_iload (pc' := 33) rfl rfl rfl ?_
      refine w_iload (pc' := 35) rfl rfl rfl ?_
      refine w_iconst (pc' := 36) 1 rfl rfl ic_1 ?_
      refine w_iadd (pc' := 37) rfl rfl ?_
      rw [show nI (e) + (1 : Int32) = nI (e + 1) from nI_add _ _]
      refine w_cV4i (pc' := 40) (v_does12 xs (T := q_ran T 12) hp hA_1 (by omega) x (by omega) (by rw [ran_154]; exact hk)) (by decide) rfl rfl rfl (Nat.le_of_ble_eq_true rfl) sh_120 rfl (fun m2 hm' => ?_)
      obtain ⟨hA_2, hF_2⟩ := hm'
      refine w_iret rfl rfl rfl ?_
      rw [f_t0_eq]
      exact ⟨rfl, hA_2, hF_1.tr hF_2⟩
    · have g2 : ¬ e ≤ 21 := fun q => h16 ((nI_leI (a := e) (b := 21) (by omega) (by omega)).mpr q)
      omega
set_option maxRecDepth 100000 in
set_option maxHeartbeats 4000000 in
theorem v_does40 (xs : List Int32) {T : q_T} {p : Nat} {m : am_Mm} (hp : p < 6) (h : q_Ra T p m) (h38 : T.1 153 38 < 520) (x : Int32) {e : Nat} (he : e < 8) (hk : T.1 154 p < 7) : am_V xs 14 127 [.ref 120, .int 40, .ref (1 + 6 + 4 * p), .int x, .int (nI e)] m (am_qi (((f_t0 T p x).1 + (f_dp (T.1 154 p) (f_t0 T p x).2 p 1).1, (f_dp (T.1 154 p) (f_t0 T p x).2 p 1).2)).1 (fun m' => q_Ra (((f_t0 T p x).1 + (f_dp (T.1 154 p) (f_t0 T p x).2 p 1).1, (f_dp (T.1 154 p) (f_t0 T p x).2 p 1).2)).2 p m' ∧ q_Ft m m')) := by
  refine am_V_of ky_127 (Nat.le_of_ble_eq_true rfl) ?_
  show am_P xs 13 tr_does 0 [some (.ref 120), some (.int 40), some (.ref (1 + 6 + 4 * p)), some (.int x), some (.int (nI e))] [] m _
  refine w_iload_n (pc' := 1) rfl rfl rfl ?_
  refine w_lsw (off := 174) (pc' := 175) rfl rfl rfl rfl ?_
  refine w_aload_n (pc' := 176) rfl rfl rfl rfl ?_
  refine w_aload_n (pc' := 177) rfl rfl rfl rfl ?_
  refine w_iconst (pc' := 178) 3 rfl rfl ic_3 ?_
  refine w_cS1i (pc' := 181) (v_ab3 xs m) (by decide) rfl rfl rfl (Or.inr rfl) (Nat.le_of_ble_eq_true rfl) (fun m' hm' => ?_)
  rw [show m' = m from hm']
  clear hm' m'
  refine w_iconst (pc' := 182) 2 rfl rfl ic_2 ?_
  refine w_iload_n (pc' := 183) rfl rfl rfl ?_
  refine w_iload (pc' := 185) rfl rfl rfl ?_
  refine w_cV5i (pc' := 188) (v_run0_2 xs (T := T) hp h (by omega) (x) (e := e) (by omega) hk) (by decide) rfl rfl rfl (Nat.le_of_ble_eq_true rfl) sh_120 rfl (fun m1 hm' => ?_)
  obtain ⟨hA_1, hF_1⟩ := hm'
  refine w_aload_n (pc' := 189) rfl rfl rfl rfl ?_
  refine w_aload_n (pc' := 190) rfl rfl rfl rfl ?_
  refine w_aload_n (pc' := 191) rfl rfl rfl rfl ?_
  refine w_getI (pc' := 194) rfl rfl rfl (shD q_L1 (p := p) (by omega)) rfl ?_
  rw [show m1.1 (1 + 6 + 4 * p) 1 = nI (T.1 154 p) from hA_1.2.1.trans (congrArg nI ((f_t0_tr T p x).1 154 p (by omega) (by omega)))]
  refine w_iconst (pc' := 195) 1 rfl rfl ic_1 ?_
  refine w_iconst (pc' := 196) 1 rfl rfl ic_1 ?_
  refine w_iload (pc' := 198) rfl rfl rfl ?_
  refine w_cV5i (pc' := 201) (v_runD xs (T := (f_t0 T p x).2) hp hA_1 (by have := (f_t0_tr T p x).2.1; omega) (1) (e := e) (by omega) (by rw [(f_t0_tr T p x).1 154 p (by omega) (by omega)]; exact hk) (k := T.1 154 p) hk) (by decide) rfl rfl rfl (Nat.le_of_ble_eq_true rfl) sh_120 rfl (fun m2 hm' => ?_)
  obtain ⟨hA_2, hF_2⟩ := hm'
  refine w_iadd (pc' := 202) rfl rfl ?_
  refine w_iret rfl rfl rfl ?_
  exact ⟨rfl, hA_2, hF_1.tr hF_2⟩
set_option maxRecDepth 100000 in
set_option maxHeartbeats 4000000 in
theorem v_run3_2 (xs : List Int32) {T : q_T} {p : Nat} {m : am_Mm} (hp : p < 6) (h : q_Ra T p m) (h38 : T.1 153 38 < 480) (x : Int32) {e : Nat} (he : e < 7) (hk : T.1 154 p < 7) : am_V xs 15 123 [.ref 120, .ref (1 + 6 + 4 * p), .int 3, .int 2, .int x, .int (nI e)] m (am_qi (f_t3 T p x).1 (fun m' => q_Ra (f_t3 T p x).2 p m' ∧ q_Ft m m')) := by
  refine am_V_of ky_123 (Nat.le_of_ble_eq_true rfl) ?_
  show am_P xs 14 tr_run 0 [some (.ref 120), some (.ref (1 + 6 + 4 * p)), some (.int 3), some (.int 2), some (.int x), some (.int (nI e)), none] [] m _
  refine w_iload_n (pc' := 1) rfl rfl rfl ?_
  refine w_iload_n (pc' := 2) rfl rfl rfl ?_
  refine w_cS2i (pc' := 5) (v_body3_2 xs m) (by decide) rfl rfl rfl (Or.inl rfl) (Nat.le_of_ble_eq_true rfl) (fun m' hm' => ?_)
  rw [show m' = m from hm']
  clear hm' m'
  refine w_ist6 (pc' := 7) rfl rfl rfl ?_
  refine w_iload (pc' := 9) rfl rfl rfl ?_
  refine w_if_eq (t := 19) (pc' := 12) rfl (by decide) rfl (fun h9 => ?_) (fun h9 => ?_)
  · exact absurd h9 (by decide)
  · refine w_iload (pc' := 14) rfl rfl rfl ?_
    refine w_bipush (pc' := 16) 21 rfl rfl bp_21 ?_
    refine w_ic_le (t := 21) (pc' := 19) rfl (by decide) rfl (fun h16 => ?_) (fun h16 => ?_)
    · have g1 : e ≤ 21 := (nI_leI (a := e) (b := 21) (by omega) (by omega)).mp h16
      refine w_aload_n (pc' := 22) rfl rfl rfl rfl ?_
      refine w_iload (pc' := 24) rfl rfl rfl ?_
      refine w_cV1n (pc' := 27) (v_beginsA xs h hp (by omega) (b := 40) (by omega)) (by decide) rfl rfl rfl (Nat.le_of_ble_eq_true rfl) sh_120 rfl (fun m1 hm' => ?_)
      obtain ⟨hA_1, hF_1⟩ := hm'
      have hq38 := (q_ran_tr T 40).2.1
      refine w_aload_n (pc' := 28) rfl rfl rfl rfl ?_
      refine w_iload (pc' := 30) rfl rfl rfl ?_
      refine w_aload_n (pc' := 31) rfl rfl rfl rfl ?_
      refine w_iload (pc' := 33) rfl rfl rfl ?_
      refine w_iload (pc' := 35) rfl rfl rfl ?_
      refine w_iconst (pc' := 36) 1 rfl rfl ic_1 ?_
      refine w_iadd (pc' := 37) rfl rfl ?_
      rw [show nI (e) + (1 : Int32) = nI (e + 1) from nI_add _ _]
      refine w_cV4i (pc' := 40) (v_does40 xs (T := q_ran T 40) hp hA_1 (by omega) x (by omega) (by rw [ran_154]; exact hk)) (by decide) rfl rfl rfl (Nat.le_of_ble_eq_true rfl) sh_120 rfl (fun m2 hm' => ?_)
      obtain ⟨hA_2, hF_2⟩ := hm'
      refine w_iret rfl rfl rfl ?_
      rw [f_t3_eq]
      exact ⟨rfl, hA_2, hF_1.tr hF_2⟩
    · have g2 : ¬ e ≤ 21 := fun q => h16 ((nI_leI (a := e) (b := 21) (by omega) (by omega)).mpr q)
      omega
set_option maxRecDepth 100000 in
set_option maxHeartbeats 4000000 in
theorem v_run6_2 (xs : List Int32) {T : q_T} {p : Nat} {m : am_Mm} (hp : p < 6) (h : q_Ra T p m) (h38 : T.1 153 38 < 480) (x : Int32) {e : Nat} (he : e < 7) (hk : T.1 154 p < 7) : am_V xs 15 123 [.ref 120, .ref (1 + 6 + 4 * p), .int 6, .int 2, .int x, .int (nI e)] m (am_qi (f_t3 T p x).1 (fun m' => q_Ra (f_t3 T p x).2 p m' ∧ q_Ft m m')) := by
  refine am_V_of ky_123 (Nat.le_of_ble_eq_true rfl) ?_
  show am_P xs 14 tr_run 0 [some (.ref 120), some (.ref (1 + 6 + 4 * p)), some (.int 6), some (.int 2), some (.int x), some (.int (nI e)), none] [] m _
  refine w_iload_n (pc' := 1) rfl rfl rfl ?_
  refine w_iload_n (pc' := 2) rfl rfl rfl ?_
  refine w_cS2i (pc' := 5) (v_body6_2 xs m) (by decide) rfl rfl rfl (Or.inl rfl) (Nat.le_of_ble_eq_true rfl) (fun m' hm' => ?_)
  rw [show m' = m from hm']
  clear hm' m'
  refine w_ist6 (pc' := 7) rfl rfl rfl ?_
  refine w_iload (pc' := 9) rfl rfl rfl ?_
  refine w_if_eq (t := 19) (pc' := 12) rfl (by decide) rfl (fun h9 => ?_) (fun h9 => ?_)
  · exact absurd h9 (by decide)
  · refine w_iload (pc' := 14) rfl rfl rfl ?_
    refine w_bipush (pc' := 16) 21 rfl rfl bp_21 ?_
    refine w_ic_le (t := 21) (pc' := 19) rfl (by decide) rfl (fun h16 => ?_) (fun h16 => ?_)
    · have g1 : e ≤ 21 := (nI_leI (a := e) (b := 21) (by omega) (by omega)).mp h16
      refine w_aload_n (pc' := 22) rfl rfl rfl rfl ?_
      refine w_iload (pc' := 24) rfl rfl rfl ?_
      refine w_cV1n (pc' := 27) (v_beginsA xs h hp (by omega) (b := 40) (by omega)) (by decide) rfl rfl rfl (Nat.le_of_ble_eq_true rfl) sh_120 rfl (fun m1 hm' => ?_)
      obtain ⟨hA_1, hF_1⟩ := hm'
      have hq38 := (q_ran_tr T 40).2.1
      refine w_aload_n (pc' := 28) rfl rfl rfl rfl ?_
      refine w_iload (pc' := 30) rfl rfl rfl ?_
      refine w_aload_n (pc' := 31) rfl rfl rfl rfl ?_
      refine w_iload (pc' := 33) rfl rfl rfl ?_
      refine w_iload (pc' := 35) rfl rfl rfl ?_
      refine w_iconst (pc' := 36) 1 rfl rfl ic_1 ?_
      refine w_iadd (pc' := 37) rfl rfl ?_
      rw [show nI (e) + (1 : Int32) = nI (e + 1) from nI_add _ _]
      refine w_cV4i (pc' := 40) (v_does40 xs (T := q_ran T 40) hp hA_1 (by omega) x (by omega) (by rw [ran_154]; exact hk)) (by decide) rfl rfl rfl (Nat.le_of_ble_eq_true rfl) sh_120 rfl (fun m2 hm' => ?_)
      obtain ⟨hA_2, hF_2⟩ := hm'
      refine w_iret rfl rfl rfl ?_
      rw [f_t3_eq]
      exact ⟨rfl, hA_2, hF_1.tr hF_2⟩
    · have g2 : ¬ e ≤ 21 := fun q => h16 ((nI_leI (a := e) (b := 21) (by omega) (by omega)).mpr q)
      omega
set_option maxRecDepth 100000 in
set_option maxHeartbeats 4000000 in
theorem v_does60 (xs : List Int32) {T : q_T} {p : Nat} {m : am_Mm} (hp : p < 6) (h : q_Ra T p m) (h38 : T.1 153 38 < 520) (x : Int32) {e : Nat} (he : e < 8) (hk : T.1 154 p < 7) : am_V xs 14 127 [.ref 120, .int 60, .ref (1 + 6 + 4 * p), .int x, .int (nI e)] m (am_qi (f_t0 T p (x - nI p)).1 (fun m' => q_Ra (f_t0 T p (x - nI p)).2 p m' ∧ q_Ft m m')) := by
  refine am_V_of ky_127 (Nat.le_of_ble_eq_true rfl) ?_
  show am_P xs 13 tr_does 0 [some (.ref 120), some (.int 60), some (.ref (1 + 6 + 4 * p)), some (.int x), some (.int (nI e))] [] m _
  refine w_iload_n (pc' := 1) rfl rfl rfl ?_
  refine w_lsw (off := 233) (pc' := 234) rfl rfl rfl rfl ?_
  refine w_aload_n (pc' := 235) rfl rfl rfl rfl ?_
  refine w_aload_n (pc' := 236) rfl rfl rfl rfl ?_
  refine w_iconst (pc' := 237) 5 rfl rfl ic_5 ?_
  refine w_cS1i (pc' := 240) (v_ab5 xs m) (by decide) rfl rfl rfl (Or.inr rfl) (Nat.le_of_ble_eq_true rfl) (fun m' hm' => ?_)
  rw [show m' = m from hm']
  clear hm' m'
  refine w_iconst (pc' := 241) 2 rfl rfl ic_2 ?_
  refine w_iload_n (pc' := 242) rfl rfl rfl ?_
  refine w_aload_n (pc' := 243) rfl rfl rfl rfl ?_
  refine w_getC (pc' := 246) rfl rfl rfl (shD q_L1 (p := p) (by omega)) rfl ?_
  refine w_isub (pc' := 247) rfl rfl ?_
  refine w_iload (pc' := 249) rfl rfl rfl ?_
  refine w_cV5i (pc' := 252) (v_run2_2 xs (T := T) hp h (by omega) (x - nI p) (e := e) (by omega) hk) (by decide) rfl rfl rfl (Nat.le_of_ble_eq_true rfl) sh_120 rfl (fun m1 hm' => ?_)
  obtain ⟨hA_1, hF_1⟩ := hm'
  refine w_iret rfl rfl rfl ?_
  exact ⟨rfl, hA_1, hF_1⟩
set_option maxRecDepth 100000 in
set_option maxHeartbeats 4000000 in
theorem v_run5_2 (xs : List Int32) {T : q_T} {p : Nat} {m : am_Mm} (hp : p < 6) (h : q_Ra T p m) (h38 : T.1 153 38 < 480) (x : Int32) {e : Nat} (he : e < 7) (hk : T.1 154 p < 7) : am_V xs 15 123 [.ref 120, .ref (1 + 6 + 4 * p), .int 5, .int 2, .int x, .int (nI e)] m (am_qi (f_t5 T p x).1 (fun m' => q_Ra (f_t5 T p x).2 p m' ∧ q_Ft m m')) := by
  refine am_V_of ky_123 (Nat.le_of_ble_eq_true rfl) ?_
  show am_P xs 14 tr_run 0 [some (.ref 120), some (.ref (1 + 6 + 4 * p)), some (.int 5), some (.int 2), some (.int x), some (.int (nI e)), none] [] m _
  refine w_iload_n (pc' := 1) rfl rfl rfl ?_
  refine w_iload_n (pc' := 2) rfl rfl rfl ?_
  refine w_cS2i (pc' := 5) (v_body5_2 xs m) (by decide) rfl rfl rfl (Or.inl rfl) (Nat.le_of_ble_eq_true rfl) (fun m' hm' => ?_)
  rw [show m' = m from hm']
  clear hm' m'
  refine w_ist6 (pc' := 7) rfl rfl rfl ?_
  refine w_iload (pc' := 9) rfl rfl rfl ?_
  refine w_if_eq (t := 19) (pc' := 12) rfl (by decide) rfl (fun h9 => ?_) (fun h9 => ?_)
  · exact absurd h9 (by decide)
  · refine w_iload (pc' := 14) rfl rfl rfl ?_
    refine w_bipush (pc' := 16) 21 rfl rfl bp_21 ?_
    refine w_ic_le (t := 21) (pc' := 19) rfl (by decide) rfl (fun h16 => ?_) (fun h16 => ?_)
    · have g1 : e ≤ 21 := (nI_leI (a := e) (b := 21) (by omega) (by omega)).mp h16
      refine w_aload_n (pc' := 22) rfl rfl rfl rfl ?_
      refine w_iload (pc' := 24) rfl rfl rfl ?_
      refine w_cV1n (pc' := 27) (v_beginsA xs h hp (by omega) (b := 60) (by omega)) (by decide) rfl rfl rfl (Nat.le_of_ble_eq_true rfl) sh_120 rfl (fun m1 hm' => ?_)
      obtain ⟨hA_1, hF_1⟩ := hm'
      have hq38 := (q_ran_tr T 60).2.1
      refine w_aload_n (pc' := 28) rfl rfl rfl rfl ?_
      refine w_iload (pc' := 30) rfl rfl rfl ?_
      refine w_aload_n (pc' := 31) rfl rfl rfl rfl ?_
      refine w_iload (pc' := 33) rfl rfl rfl ?_
      refine w_iload (pc' := 35) rfl rfl rfl ?_
      refine w_iconst (pc' := 36) 1 rfl rfl ic_1 ?_
      refine w_iadd (pc' := 37) rfl rfl ?_
      rw [show nI (e) + (1 : Int32) = nI (e + 1) from nI_add _ _]
      refine w_cV4i (pc' := 40) (v_does60 xs (T := q_ran T 60) hp hA_1 (by omega) x (by omega) (by rw [ran_154]; exact hk)) (by decide) rfl rfl rfl (Nat.le_of_ble_eq_true rfl) sh_120 rfl (fun m2 hm' => ?_)
      obtain ⟨hA_2, hF_2⟩ := hm'
      refine w_iret rfl rfl rfl ?_
      exact ⟨rfl, hA_2, hF_1.tr hF_2⟩
    · have g2 : ¬ e ≤ 21 := fun q => h16 ((nI_leI (a := e) (b := 21) (by omega) (by omega)).mpr q)
      omega
theorem v_runT (xs : List Int32) {T : q_T} {p : Nat} {m : am_Mm} (hp : p < 6) (h : q_Ra T p m) (h38 : T.1 153 38 < 480) (x : Int32) {e : Nat} (he : e < 7) (hk : T.1 154 p < 7) {k : Nat} (hk7 : k < 7) : am_V xs 15 123 [.ref 120, .ref (1 + 6 + 4 * p), .int (nI k), .int 2, .int x, .int (nI e)] m (am_qi (f_tp k T p x).1 (fun m' => q_Ra (f_tp k T p x).2 p m' ∧ q_Ft m m')) := by
  rcases (show k = 0 ∨ k = 1 ∨ k = 2 ∨ k = 3 ∨ k = 4 ∨ k = 5 ∨ k = 6 by omega) with rfl | rfl | rfl | rfl | rfl | rfl | rfl
  · exact (v_run0_2 xs hp h (by omega) x (by omega) hk).up (by decide)
  · exact (v_run1_2 xs hp h (by omega) x (by omega) hk).up (by decide)
  · exact (v_run2_2 xs hp h (by omega) x (by omega) hk).up (by decide)
  · exact (v_run3_2 xs hp h (by omega) x (by omega) hk).up (by decide)
  · exact (v_run4_2 xs hp h (by omega) x (by omega) hk).up (by decide)
  · exact (v_run5_2 xs hp h (by omega) x (by omega) hk).up (by decide)
  · exact (v_run6_2 xs hp h (by omega) x (by omega) hk).up (by decide)
