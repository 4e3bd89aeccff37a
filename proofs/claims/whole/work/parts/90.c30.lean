def q_Ra (T : q_T) (p : Nat) (m : am_Mm) : Prop := q_Rt T m ∧ (m.1 (1 + 6 + 4 * p) 1 = nI (T.1 154 p) ∧ m.1 (1 + 6 + 4 * p) 2 = nI (T.1 155 p))
theorem q_Ra.of {T T' : q_T} {p n : Nat} {m m' : am_Mm} (h : q_Ra T p m) (hp : p < 6) (hR : q_Rt T' m') (hF : q_Ft m m') (ht : q_Tr T T' n) : q_Ra T' p m' := by
  refine ⟨hR, ?_, ?_⟩
  · rw [ht.1 154 p (by omega) (by omega), hF.1 (1 + 6 + 4 * p) (by omega) (by omega)]
    exact h.2.1
  · rw [ht.1 155 p (by omega) (by omega), hF.1 (1 + 6 + 4 * p) (by omega) (by omega)]
    exact h.2.2
theorem v_beginsA (xs : List Int32) {T : q_T} {p : Nat} {m : am_Mm} (h : q_Ra T p m) (hp : p < 6) (h38 : T.1 153 38 < 2 ^ 20) {b : Nat} (hb : b < 100) : am_V xs 1 126 [.ref 120, .int (nI b)] m (am_qn (fun m' => q_Ra (q_ran T b) p m' ∧ q_Ft m m')) := by
  refine am_V.mono (v_begins xs h.1 h38 hb) (fun v m2 h2 => ⟨h2.1, h.of hp h2.2.1 h2.2.2 (q_ran_tr T b), h2.2.2⟩)
set_option maxRecDepth 100000 in
set_option maxHeartbeats 4000000 in
theorem v_does10 (xs : List Int32) {T : q_T} {p : Nat} {m : am_Mm} (hp : p < 6) (h : q_Ra T p m) (h38 : T.1 153 38 < 1000) (x : Int32) {e : Nat} (he : e < 20) : am_V xs 1 127 [.ref 120, .int 10, .ref (1 + 6 + 4 * p), .int x, .int (nI e)] m (am_qi (x + nI p) (fun m' => q_Ra T p m' ∧ q_Ft m m')) := by
  refine am_V_of ky_127 (Nat.le_of_ble_eq_true rfl) ?_
  show am_P xs 0 tr_does 0 [some (.ref 120), some (.int 10), some (.ref (1 + 6 + 4 * p)), some (.int x), some (.int (nI e))] [] m _
  refine w_iload_n (pc' := 1) rfl rfl rfl ?_
  refine w_lsw (off := 99) (pc' := 100) rfl rfl rfl rfl ?_
  refine w_iload_n (pc' := 101) rfl rfl rfl ?_
  refine w_aload_n (pc' := 102) rfl rfl rfl rfl ?_
  refine w_getC (pc' := 105) rfl rfl rfl (shD q_L1 (p := p) (by omega)) rfl ?_
  refine w_iadd (pc' := 106) rfl rfl ?_
  refine w_iret rfl rfl rfl ?_
  exact ⟨rfl, h, q_Ft.rf⟩
set_option maxRecDepth 100000 in
set_option maxHeartbeats 4000000 in
theorem v_run0_0 (xs : List Int32) {T : q_T} {p : Nat} {m : am_Mm} (hp : p < 6) (h : q_Ra T p m) (h38 : T.1 153 38 < 960) (x : Int32) {e : Nat} (he : e < 19) : am_V xs 3 123 [.ref 120, .ref (1 + 6 + 4 * p), .int 0, .int 0, .int x, .int (nI e)] m (am_qi (f_w0 T p x).1 (fun m' => q_Ra (f_w0 T p x).2 p m' ∧ q_Ft m m')) := by
  refine am_V_of ky_123 (Nat.le_of_ble_eq_true rfl) ?_
  show am_P xs 2 tr_run 0 [some (.ref 120), some (.ref (1 + 6 + 4 * p)), some (.int 0), some (.int 0), some (.int x), some (.int (nI e)), none] [] m _
  refine w_iload_n (pc' := 1) rfl rfl rfl ?_
  refine w_iload_n (pc' := 2) rfl rfl rfl ?_
  refine w_cS2i (pc' := 5) (v_body0_0 xs m) (by decide) rfl rfl rfl (Or.inl rfl) (Nat.le_of_ble_eq_true rfl) (fun m' hm' => ?_)
  rw [show m' = m from hm']
  clear hm' m'
  refine w_ist6 (pc' := 7) rfl rfl rfl ?_
  refine w_iload (pc' := 9) rfl rfl rfl ?_
  refine w_if_eq (t := 19) (pc' := 12) rfl (by decide) rfl (fun h9 => ?_) (fun h9 => ?_)
  · exact absurd h9 (by decide)
  · refine w_iload (pc' := 14) rfl rfl rfl ?_
    refine w_bipush (pc' := 16) 21 rfl rfl bp_21 ?_
    refine w_ic_le (t := 21) (pc' := 19) rfl (by decide) rfl (fun h16 => ?_) (fun h16 => ?_)
    · have g1 : e ≤ 21 := (nI_leI (a := e) (b := 21) (by omega) (by omega)).mp h16
      refine w_aload_n (pc' := 22) rfl rfl rfl rfl ?_
      refine w_iload (pc' := 24) rfl rfl rfl ?_
      refine w_cV1n (pc' := 27) (v_beginsA xs h hp (by omega) (b := 10) (by omega)) (by decide) rfl rfl rfl (Nat.le_of_ble_eq_true rfl) sh_120 rfl (fun m1 hm' => ?_)
      obtain ⟨hA_1, hF_1⟩ := hm'
      have hq38 := (q_ran_tr T 10).2.1
      refine w_aload_n (pc' := 28) rfl rfl rfl rfl ?_
      refine w_iload (pc' := 30) rfl rfl rfl ?_
      refine w_aload_n (pc' := 31) rfl rfl rfl rfl ?_
      refine w_iload (pc' := 33) rfl rfl rfl ?_
      refine w_iload (pc' := 35) rfl rfl rfl ?_
      refine w_iconst (pc' := 36) 1 rfl rfl ic_1 ?_
      refine w_iadd (pc' := 37) rfl rfl ?_
      rw [show nI (e) + (1 : Int32) = nI (e + 1) from nI_add _ _]
      refine w_cV4i (pc' := 40) (v_does10 xs (T := q_ran T 10) hp hA_1 (by omega) x (by omega)) (by decide) rfl rfl rfl (Nat.le_of_ble_eq_true rfl) sh_120 rfl (fun m2 hm' => ?_)
      obtain ⟨hA_2, hF_2⟩ := hm'
      refine w_iret rfl rfl rfl ?_
      exact ⟨rfl, hA_2, hF_1.tr hF_2⟩
    · have g2 : ¬ e ≤ 21 := fun q => h16 ((nI_leI (a := e) (b := 21) (by omega) (by omega)).mpr q)
      omega
set_option maxRecDepth 100000 in
set_option maxHeartbeats 4000000 in
theorem v_run1_0 (xs : List Int32) {T : q_T} {p : Nat} {m : am_Mm} (hp : p < 6) (h : q_Ra T p m) (h38 : T.1 153 38 < 960) (x : Int32) {e : Nat} (he : e < 19) : am_V xs 3 123 [.ref 120, .ref (1 + 6 + 4 * p), .int 1, .int 0, .int x, .int (nI e)] m (am_qi (f_w0 T p x).1 (fun m' => q_Ra (f_w0 T p x).2 p m' ∧ q_Ft m m')) := by
  refine am_V_of ky_123 (Nat.le_of_ble_eq_true rfl) ?_
  show am_P xs 2 tr_run 0 [some (.ref 120), some (.ref (1 + 6 + 4 * p)), some (.int 1), some (.int 0), some (.int x), some (.int (nI e)), none] [] m _
  refine w_iload_n (pc' := 1) rfl rfl rfl ?_
  refine w_iload_n (pc' := 2) rfl rfl rfl ?_
  refine w_cS2i (pc' := 5) (v_body1_0 xs m) (by decide) rfl rfl rfl (Or.inl rfl) (Nat.le_of_ble_eq_true rfl) (fun m' hm' => ?_)
  rw [show m' = m from hm']
  clear hm' m'
  refine w_ist6 (pc' := 7) rfl rfl rfl ?_
  refine w_iload (pc' := 9) rfl rfl rfl ?_
  refine w_if_eq (t := 19) (pc' := 12) rfl (by decide) rfl (fun h9 => ?_) (fun h9 => ?_)
  · exact absurd h9 (by decide)
  · refine w_iload (pc' := 14) rfl rfl rfl ?_
    refine w_bipush (pc' := 16) 21 rfl rfl bp_21 ?_
    refine w_ic_le (t := 21) (pc' := 19) rfl (by decide) rfl (fun h16 => ?_) (fun h16 => ?_)
    · have g1 : e ≤ 21 := (nI_leI (a := e) (b := 21) (by omega) (by omega)).mp h16
      refine w_aload_n (pc' := 22) rfl rfl rfl rfl ?_
      refine w_iload (pc' := 24) rfl rfl rfl ?_
      refine w_cV1n (pc' := 27) (v_beginsA xs h hp (by omega) (b := 10) (by omega)) (by decide) rfl rfl rfl (Nat.le_of_ble_eq_true rfl) sh_120 rfl (fun m1 hm' => ?_)
      obtain ⟨hA_1, hF_1⟩ := hm'
      have hq38 := (q_ran_tr T 10).2.1
      refine w_aload_n (pc' := 28) rfl rfl rfl rfl ?_
      refine w_iload (pc' := 30) rfl rfl rfl ?_
      refine w_aload_n (pc' := 31) rfl rfl rfl rfl ?_
      refine w_iload (pc' := 33) rfl rfl rfl ?_
      refine w_iload (pc' := 35) rfl rfl rfl ?_
      refine w_iconst (pc' := 36) 1 rfl rfl ic_1 ?_
      refine w_iadd (pc' := 37) rfl rfl ?_
      rw [show nI (e) + (1 : Int32) = nI (e + 1) from nI_add _ _]
      refine w_cV4i (pc' := 40) (v_does10 xs (T := q_ran T 10) hp hA_1 (by omega) x (by omega)) (by decide) rfl rfl rfl (Nat.le_of_ble_eq_true rfl) sh_120 rfl (fun m2 hm' => ?_)
      obtain ⟨hA_2, hF_2⟩ := hm'
      refine w_iret rfl rfl rfl ?_
      exact ⟨rfl, hA_2, hF_1.tr hF_2⟩
    · have g2 : ¬ e ≤ 21 := fun q => h16 ((nI_leI (a := e) (b := 21) (by omega) (by omega)).mpr q)
      omega
set_option maxRecDepth 100000 in
set_option maxHeartbeats 4000000 in
theorem v_run3_0 (xs : List Int32) {T : q_T} {p : Nat} {m : am_Mm} (hp : p < 6) (h : q_Ra T p m) (h38 : T.1 153 38 < 960) (x : Int32) {e : Nat} (he : e < 19) : am_V xs 3 123 [.ref 120, .ref (1 + 6 + 4 * p), .int 3, .int 0, .int x, .int (nI e)] m (am_qi (f_w0 T p x).1 (fun m' => q_Ra (f_w0 T p x).2 p m' ∧ q_Ft m m')) := by
  refine am_V_of ky_123 (Nat.le_of_ble_eq_true rfl) ?_
  show am_P xs 2 tr_run 0 [some (.ref 120), some (.ref (1 + 6 + 4 * p)), some (.int 3), some (.int 0), some (.int x), some (.int (nI e)), none] [] m _
  refine w_iload_n (pc' := 1) rfl rfl rfl ?_
  refine w_iload_n (pc' := 2) rfl rfl rfl ?_
  refine w_cS2i (pc' := 5) (v_body3_0 xs m) (by decide) rfl rfl rfl (Or.inl rfl) (Nat.le_of_ble_eq_true rfl) (fun m' hm' => ?_)
  rw [show m' = m from hm']
  clear hm' m'
  refine w_ist6 (pc' := 7) rfl rfl rfl ?_
  refine w_iload (pc' := 9) rfl rfl rfl ?_
  refine w_if_eq (t := 19) (pc' := 12) rfl (by decide) rfl (fun h9 => ?_) (fun h9 => ?_)
  · exact absurd h9 (by decide)
  · refine w_iload (pc' := 14) rfl rfl rfl ?_
    refine w_bipush (pc' := 16) 21 rfl rfl bp_21 ?_
    refine w_ic_le (t := 21) (pc' := 19) rfl (by decide) rfl (fun h16 => ?_) (fun h16 => ?_)
    · have g1 : e ≤ 21 := (nI_leI (a := e) (b := 21) (by omega) (by omega)).mp h16
      refine w_aload_n (pc' := 22) rfl rfl rfl rfl ?_
      refine w_iload (pc' := 24) rfl rfl rfl ?_
      refine w_cV1n (pc' := 27) (v_beginsA xs h hp (by omega) (b := 10) (by omega)) (by decide) rfl rfl rfl (Nat.le_of_ble_eq_true rfl) sh_120 rfl (fun m1 hm' => ?_)
      obtain ⟨hA_1, hF_1⟩ := hm'
      have hq38 := (q_ran_tr T 10).2.1
      refine w_aload_n (pc' := 28) rfl rfl rfl rfl ?_
      refine w_iload (pc' := 30) rfl rfl rfl ?_
      refine w_aload_n (pc' := 31) rfl rfl rfl rfl ?_
      refine w_iload (pc' := 33) rfl rfl rfl ?_
      refine w_iload (pc' := 35) rfl rfl rfl ?_
      refine w_iconst (pc' := 36) 1 rfl rfl ic_1 ?_
      refine w_iadd (pc' := 37) rfl rfl ?_
      rw [show nI (e) + (1 : Int32) = nI (e + 1) from nI_add _ _]
      refine w_cV4i (pc' := 40) (v_does10 xs (T := q_ran T 10) hp hA_1 (by omega) x (by omega)) (by decide) rfl rfl rfl (Nat.le_of_ble_eq_true rfl) sh_120 rfl (fun m2 hm' => ?_)
      obtain ⟨hA_2, hF_2⟩ := hm'
      refine w_iret rfl rfl rfl ?_
      exact ⟨rfl, hA_2, hF_1.tr hF_2⟩
    · have g2 : ¬ e ≤ 21 := fun q => h16 ((nI_leI (a := e) (b := 21) (by omega) (by omega)).mpr q)
      omega
set_option maxRecDepth 100000 in
set_option maxHeartbeats 4000000 in
theorem v_does30 (xs : List Int32) {T : q_T} {p : Nat} {m : am_Mm} (hp : p < 6) (h : q_Ra T p m) (h38 : T.1 153 38 < 920) (x : Int32) {e : Nat} (he : e < 18) : am_V xs 4 127 [.ref 120, .int 30, .ref (1 + 6 + 4 * p), .int x, .int (nI e)] m (am_qi (f_w0 T p (x * 3)).1 (fun m' => q_Ra (f_w0 T p (x * 3)).2 p m' ∧ q_Ft m m')) := by
  refine am_V_of ky_127 (Nat.le_of_ble_eq_true rfl) ?_
  show am_P xs 3 tr_does 0 [some (.ref 120), some (.int 30), some (.ref (1 + 6 + 4 * p)), some (.int x), some (.int (nI e))] [] m _
  refine w_iload_n (pc' := 1) rfl rfl rfl ?_
  refine w_lsw (off := 158) (pc' := 159) rfl rfl rfl rfl ?_
  refine w_aload_n (pc' := 160) rfl rfl rfl rfl ?_
  refine w_aload_n (pc' := 161) rfl rfl rfl rfl ?_
  refine w_iconst (pc' := 162) 2 rfl rfl ic_2 ?_
  refine w_cS1i (pc' := 165) (v_ab2 xs m) (by decide) rfl rfl rfl (Or.inr rfl) (Nat.le_of_ble_eq_true rfl) (fun m' hm' => ?_)
  rw [show m' = m from hm']
  clear hm' m'
  refine w_iconst (pc' := 166) 0 rfl rfl ic_0 ?_
  refine w_iload_n (pc' := 167) rfl rfl rfl ?_
  refine w_iconst (pc' := 168) 3 rfl rfl ic_3 ?_
  refine w_imul (pc' := 169) rfl rfl ?_
  refine w_iload (pc' := 171) rfl rfl rfl ?_
  refine w_cV5i (pc' := 174) (v_run0_0 xs hp h (by omega) (x * 3) (e := e) (by omega)) (by decide) rfl rfl rfl (Nat.le_of_ble_eq_true rfl) sh_120 rfl (fun m1 hm' => ?_)
  obtain ⟨hA_1, hF_1⟩ := hm'
  refine w_iret rfl rfl rfl ?_
  exact ⟨rfl, hA_1, hF_1⟩
set_option maxRecDepth 100000 in
set_option maxHeartbeats 4000000 in
theorem v_does50 (xs : List Int32) {T : q_T} {p : Nat} {m : am_Mm} (hp : p < 6) (h : q_Ra T p m) (h38 : T.1 153 38 < 920) (x : Int32) {e : Nat} (he : e < 18) : am_V xs 4 127 [.ref 120, .int 50, .ref (1 + 6 + 4 * p), .int x, .int (nI e)] m (am_qi ((-(f_w0 T p x).1, (f_w0 T p x).2)).1 (fun m' => q_Ra ((-(f_w0 T p x).1, (f_w0 T p x).2)).2 p m' ∧ q_Ft m m')) := by
  refine am_V_of ky_127 (Nat.le_of_ble_eq_true rfl) ?_
  show am_P xs 3 tr_does 0 [some (.ref 120), some (.int 50), some (.ref (1 + 6 + 4 * p)), some (.int x), some (.int (nI e))] [] m _
  refine w_iload_n (pc' := 1) rfl rfl rfl ?_
  refine w_lsw (off := 202) (pc' := 203) rfl rfl rfl rfl ?_
  refine w_aload_n (pc' := 204) rfl rfl rfl rfl ?_
  refine w_aload_n (pc' := 205) rfl rfl rfl rfl ?_
  refine w_iconst (pc' := 206) 4 rfl rfl ic_4 ?_
  refine w_cS1i (pc' := 209) (v_ab4 xs m) (by decide) rfl rfl rfl (Or.inr rfl) (Nat.le_of_ble_eq_true rfl) (fun m' hm' => ?_)
  rw [show m' = m from hm']
  clear hm' m'
  refine w_iconst (pc' := 210) 0 rfl rfl ic_0 ?_
  refine w_iload_n (pc' := 211) rfl rfl rfl ?_
  refine w_iload (pc' := 213) rfl rfl rfl ?_
  refine w_cV5i (pc' := 216) (v_run1_0 xs hp h (by omega) (x) (e := e) (by omega)) (by decide) rfl rfl rfl (Nat.le_of_ble_eq_true rfl) sh_120 rfl (fun m1 hm' => ?_)
  obtain ⟨hA_1, hF_1⟩ := hm'
  refine w_ineg (pc' := 217) rfl rfl ?_
  refine w_iret rfl rfl rfl ?_
  exact ⟨rfl, hA_1, hF_1⟩
set_option maxRecDepth 100000 in
set_option maxHeartbeats 4000000 in
theorem v_does71 (xs : List Int32) {T : q_T} {p : Nat} {m : am_Mm} (hp : p < 6) (h : q_Ra T p m) (h38 : T.1 153 38 < 920) (x : Int32) {e : Nat} (he : e < 18) : am_V xs 4 127 [.ref 120, .int 71, .ref (1 + 6 + 4 * p), .int x, .int (nI e)] m (am_qi (((f_w0 T p x).1 ^^^ nI (T.1 155 p), (f_w0 T p x).2)).1 (fun m' => q_Ra (((f_w0 T p x).1 ^^^ nI (T.1 155 p), (f_w0 T p x).2)).2 p m' ∧ q_Ft m m')) := by
  refine am_V_of ky_127 (Nat.le_of_ble_eq_true rfl) ?_
  show am_P xs 3 tr_does 0 [some (.ref 120), some (.int 71), some (.ref (1 + 6 + 4 * p)), some (.int x), some (.int (nI e))] [] m _
  refine w_iload_n (pc' := 1) rfl rfl rfl ?_
  refine w_lsw (off := 282) (pc' := 283) rfl rfl rfl rfl ?_
  refine w_aload_n (pc' := 284) rfl rfl rfl rfl ?_
  refine w_aload_n (pc' := 285) rfl rfl rfl rfl ?_
  refine w_bipush (pc' := 287) 6 rfl rfl bp_6 ?_
  refine w_cS1i (pc' := 290) (v_ab6 xs m) (by decide) rfl rfl rfl (Or.inr rfl) (Nat.le_of_ble_eq_true rfl) (fun m' hm' => ?_)
  rw [show m' = m from hm']
  clear hm' m'
  refine w_iconst (pc' := 291) 0 rfl rfl ic_0 ?_
  refine w_iload_n (pc' := 292) rfl rfl rfl ?_
  refine w_iload (pc' := 294) rfl rfl rfl ?_
  refine w_cV5i (pc' := 297) (v_run3_0 xs hp h (by omega) (x) (e := e) (by omega)) (by decide) rfl rfl rfl (Nat.le_of_ble_eq_true rfl) sh_120 rfl (fun m1 hm' => ?_)
  obtain ⟨hA_1, hF_1⟩ := hm'
  refine w_aload_n (pc' := 298) rfl rfl rfl rfl ?_
  refine w_getI (pc' := 301) rfl rfl rfl (shD q_L1 (p := p) (by omega)) rfl ?_
  rw [show m1.1 (1 + 6 + 4 * p) 2 = nI (T.1 155 p) from hA_1.2.2.trans (congrArg nI ((q_ran_tr T 10).1 155 p (by omega) (by omega)))]
  refine w_ixor (pc' := 302) rfl rfl ?_
  refine w_iret rfl rfl rfl ?_
  exact ⟨rfl, hA_1, hF_1⟩
set_option maxRecDepth 100000 in
set_option maxHeartbeats 4000000 in
theorem v_run2_0 (xs : List Int32) {T : q_T} {p : Nat} {m : am_Mm} (hp : p < 6) (h : q_Ra T p m) (h38 : T.1 153 38 < 880) (x : Int32) {e : Nat} (he : e < 17) : am_V xs 5 123 [.ref 120, .ref (1 + 6 + 4 * p), .int 2, .int 0, .int x, .int (nI e)] m (am_qi (f_w2 T p x).1 (fun m' => q_Ra (f_w2 T p x).2 p m' ∧ q_Ft m m')) := by
  refine am_V_of ky_123 (Nat.le_of_ble_eq_true rfl) ?_
  show am_P xs 4 tr_run 0 [some (.ref 120), some (.ref (1 + 6 + 4 * p)), some (.int 2), some (.int 0), some (.int x), some (.int (nI e)), none] [] m _
  refine w_iload_n (pc' := 1) rfl rfl rfl ?_
  refine w_iload_n (pc' := 2) rfl rfl rfl ?_
  refine w_cS2i (pc' := 5) (v_body2_0 xs m) (by decide) rfl rfl rfl (Or.inl rfl) (Nat.le_of_ble_eq_true rfl) (fun m' hm' => ?_)
  rw [show m' = m from hm']
  clear hm' m'
  refine w_ist6 (pc' := 7) rfl rfl rfl ?_
  refine w_iload (pc' := 9) rfl rfl rfl ?_
  refine w_if_eq (t := 19) (pc' := 12) rfl (by decide) rfl (fun h9 => ?_) (fun h9 => ?_)
  · exact absurd h9 (by decide)
  · refine w_iload (pc' := 14) rfl rfl rfl ?_
    refine w_bipush (pc' := 16) 21 rfl rfl bp_21 ?_
    refine w_ic_le (t := 21) (pc' := 19) rfl (by decide) rfl (fun h16 => ?_) (fun h16 => ?_)
    · have g1 : e ≤ 21 := (nI_leI (a := e) (b := 21) (by omega) (by omega)).mp h16
      refine w_aload_n (pc' := 22) rfl rfl rfl rfl ?_
      refine w_iload (pc' := 24) rfl rfl rfl ?_
      refine w_cV1n (pc' := 27) (v_beginsA xs h hp (by omega) (b := 30) (by omega)) (by decide) rfl rfl rfl (Nat.le_of_ble_eq_true rfl) sh_120 rfl (fun m1 hm' => ?_)
      obtain ⟨hA_1, hF_1⟩ := hm'
      have hq38 := (q_ran_tr T 30).2.1
      refine w_aload_n (pc' := 28) rfl rfl rfl rfl ?_
      refine w_iload (pc' := 30) rfl rfl rfl ?_
      refine w_aload_n (pc' := 31) rfl rfl rfl rfl ?_
      refine w_iload (pc' := 33) rfl rfl rfl ?_
      refine w_iload (pc' := 35) rfl rfl rfl ?_
      refine w_iconst (pc' := 36) 1 rfl rfl ic_1 ?_
      refine w_iadd (pc' := 37) rfl rfl ?_
      rw [show nI (e) + (1 : Int32) = nI (e + 1) from nI_add _ _]
      refine w_cV4i (pc' := 40) (v_does30 xs (T := q_ran T 30) hp hA_1 (by omega) x (by omega)) (by decide) rfl rfl rfl (Nat.le_of_ble_eq_true rfl) sh_120 rfl (fun m2 hm' => ?_)
      obtain ⟨hA_2, hF_2⟩ := hm'
      refine w_iret rfl rfl rfl ?_
      exact ⟨rfl, hA_2, hF_1.tr hF_2⟩
    · have g2 : ¬ e ≤ 21 := fun q => h16 ((nI_leI (a := e) (b := 21) (by omega) (by omega)).mpr q)
      omega
set_option maxRecDepth 100000 in
set_option maxHeartbeats 4000000 in
theorem v_run5_0 (xs : List Int32) {T : q_T} {p : Nat} {m : am_Mm} (hp : p < 6) (h : q_Ra T p m) (h38 : T.1 153 38 < 880) (x : Int32) {e : Nat} (he : e < 17) : am_V xs 5 123 [.ref 120, .ref (1 + 6 + 4 * p), .int 5, .int 0, .int x, .int (nI e)] m (am_qi (f_w2 T p x).1 (fun m' => q_Ra (f_w2 T p x).2 p m' ∧ q_Ft m m')) := by
  refine am_V_of ky_123 (Nat.le_of_ble_eq_true rfl) ?_
  show am_P xs 4 tr_run 0 [some (.ref 120), some (.ref (1 + 6 + 4 * p)), some (.int 5), some (.int 0), some (.int x), some (.int (nI e)), none] [] m _
  refine w_iload_n (pc' := 1) rfl rfl rfl ?_
  refine w_iload_n (pc' := 2) rfl rfl rfl ?_
  refine w_cS2i (pc' := 5) (v_body5_0 xs m) (by decide) rfl rfl rfl (Or.inl rfl) (Nat.le_of_ble_eq_true rfl) (fun m' hm' => ?_)
  rw [show m' = m from hm']
  clear hm' m'
  refine w_ist6 (pc' := 7) rfl rfl rfl ?_
  refine w_iload (pc' := 9) rfl rfl rfl ?_
  refine w_if_eq (t := 19) (pc' := 12) rfl (by decide) rfl (fun h9 => ?_) (fun h9 => ?_)
  · exact absurd h9 (by decide)
  · refine w_iload (pc' := 14) rfl rfl rfl ?_
    refine w_bipush (pc' := 16) 21 rfl rfl bp_21 ?_
    refine w_ic_le (t := 21) (pc' := 19) rfl (by decide) rfl (fun h16 => ?_) (fun h16 => ?_)
    · have g1 : e ≤ 21 := (nI_leI (a := e) (b := 21) (by omega) (by omega)).mp h16
      refine w_aload_n (pc' := 22) rfl rfl rfl rfl ?_
      refine w_iload (pc' := 24) rfl rfl rfl ?_
      refine w_cV1n (pc' := 27) (v_beginsA xs h hp (by omega) (b := 30) (by omega)) (by decide) rfl rfl rfl (Nat.le_of_ble_eq_true rfl) sh_120 rfl (fun m1 hm' => ?_)
      obtain ⟨hA_1, hF_1⟩ := hm'
      have hq38 := (q_ran_tr T 30).2.1
      refine w_aload_n (pc' := 28) rfl rfl rfl rfl ?_
      refine w_iload (pc' := 30) rfl rfl rfl ?_
      refine w_aload_n (pc' := 31) rfl rfl rfl rfl ?_
      refine w_iload (pc' := 33) rfl rfl rfl ?_
      refine w_iload (pc' := 35) rfl rfl rfl ?_
      refine w_iconst (pc' := 36) 1 rfl rfl ic_1 ?_
      refine w_iadd (pc' := 37) rfl rfl ?_
      rw [show nI (e) + (1 : Int32) = nI (e + 1) from nI_add _ _]
      refine w_cV4i (pc' := 40) (v_does30 xs (T := q_ran T 30) hp hA_1 (by omega) x (by omega)) (by decide) rfl rfl rfl (Nat.le_of_ble_eq_true rfl) sh_120 rfl (fun m2 hm' => ?_)
      obtain ⟨hA_2, hF_2⟩ := hm'
      refine w_iret rfl rfl rfl ?_
      exact ⟨rfl, hA_2, hF_1.tr hF_2⟩
    · have g2 : ¬ e ≤ 21 := fun q => h16 ((nI_leI (a := e) (b := 21) (by omega) (by omega)).mpr q)
      omega
set_option maxRecDepth 100000 in
set_option maxHeartbeats 4000000 in
theorem v_run4_0 (xs : List Int32) {T : q_T} {p : Nat} {m : am_Mm} (hp : p < 6) (h : q_Ra T p m) (h38 : T.1 153 38 < 880) (x : Int32) {e : Nat} (he : e < 17) : am_V xs 5 123 [.ref 120, .ref (1 + 6 + 4 * p), .int 4, .int 0, .int x, .int (nI e)] m (am_qi (f_w4 T p x).1 (fun m' => q_Ra (f_w4 T p x).2 p m' ∧ q_Ft m m')) := by
  refine am_V_of ky_123 (Nat.le_of_ble_eq_true rfl) ?_
  show am_P xs 4 tr_run 0 [some (.ref 120), some (.ref (1 + 6 + 4 * p)), some (.int 4), some (.int 0), some (.int x), some (.int (nI e)), none] [] m _
  refine w_iload_n (pc' := 1) rfl rfl rfl ?_
  refine w_iload_n (pc' := 2) rfl rfl rfl ?_
  refine w_cS2i (pc' := 5) (v_body4_0 xs m) (by decide) rfl rfl rfl (Or.inl rfl) (Nat.le_of_ble_eq_true rfl) (fun m' hm' => ?_)
  rw [show m' = m from hm']
  clear hm' m'
  refine w_ist6 (pc' := 7) rfl rfl rfl ?_
  refine w_iload (pc' := 9) rfl rfl rfl ?_
  refine w_if_eq (t := 19) (pc' := 12) rfl (by decide) rfl (fun h9 => ?_) (fun h9 => ?_)
  · exact absurd h9 (by decide)
  · refine w_iload (pc' := 14) rfl rfl rfl ?_
    refine w_bipush (pc' := 16) 21 rfl rfl bp_21 ?_
    refine w_ic_le (t := 21) (pc' := 19) rfl (by decide) rfl (fun h16 => ?_) (fun h16 => ?_)
    · have g1 : e ≤ 21 := (nI_leI (a := e) (b := 21) (by omega) (by omega)).mp h16
      refine w_aload_n (pc' := 22) rfl rfl rfl rfl ?_
      refine w_iload (pc' := 24) rfl rfl rfl ?_
      refine w_cV1n (pc' := 27) (v_beginsA xs h hp (by omega) (b := 50) (by omega)) (by decide) rfl rfl rfl (Nat.le_of_ble_eq_true rfl) sh_120 rfl (fun m1 hm' => ?_)
      obtain ⟨hA_1, hF_1⟩ := hm'
      have hq38 := (q_ran_tr T 50).2.1
      refine w_aload_n (pc' := 28) rfl rfl rfl rfl ?_
      refine w_iload (pc' := 30) rfl rfl rfl ?_
      refine w_aload_n (pc' := 31) rfl rfl rfl rfl ?_
      refine w_iload (pc' := 33) rfl rfl rfl ?_
      refine w_iload (pc' := 35) rfl rfl rfl ?_
      refine w_iconst (pc' := 36) 1 rfl rfl ic_1 ?_
      refine w_iadd (pc' := 37) rfl rfl ?_
      rw [show nI (e) + (1 : Int32) = nI (e + 1) from nI_add _ _]
      refine w_cV4i (pc' := 40) (v_does50 xs (T := q_ran T 50) hp hA_1 (by omega) x (by omega)) (by decide) rfl rfl rfl (Nat.le_of_ble_eq_true rfl) sh_120 rfl (fun m2 hm' => ?_)
      obtain ⟨hA_2, hF_2⟩ := hm'
      refine w_iret rfl rfl rfl ?_
      exact ⟨rfl, hA_2, hF_1.tr hF_2⟩
    · have g2 : ¬ e ≤ 21 := fun q => h16 ((nI_leI (a := e) (b := 21) (by omega) (by omega)).mpr q)
      omega
theorem ran_155 {T : q_T} {b p : Nat} : (q_ran T b).1 155 p = T.1 155 p := (q_ran_tr T b).1 155 p (by omega) (by omega)
set_option maxRecDepth 100000 in
set_option maxHeartbeats 4000000 in
theorem v_run6_0 (xs : List Int32) {T : q_T} {p : Nat} {m : am_Mm} (hp : p < 6) (h : q_Ra T p m) (h38 : T.1 153 38 < 880) (x : Int32) {e : Nat} (he : e < 17) : am_V xs 5 123 [.ref 120, .ref (1 + 6 + 4 * p), .int 6, .int 0, .int x, .int (nI e)] m (am_qi (f_w6 T p x).1 (fun m' => q_Ra (f_w6 T p x).2 p m' ∧ q_Ft m m')) := by
  refine am_V_of ky_123 (Nat.le_of_ble_eq_true rfl) ?_
  show am_P xs 4 tr_run 0 [some (.ref 120), some (.ref (1 + 6 + 4 * p)), some (.int 6), some (.int 0), some (.int x), some (.int (nI e)), none] [] m _
  refine w_iload_n (pc' := 1) rfl rfl rfl ?_
  refine w_iload_n (pc' := 2) rfl rfl rfl ?_
  refine w_cS2i (pc' := 5) (v_body6_0 xs m) (by decide) rfl rfl rfl (Or.inl rfl) (Nat.le_of_ble_eq_true rfl) (fun m' hm' => ?_)
  rw [show m' = m from hm']
  clear hm' m'
  refine w_ist6 (pc' := 7) rfl rfl rfl ?_
  refine w_iload (pc' := 9) rfl rfl rfl ?_
  refine w_if_eq (t := 19) (pc' := 12) rfl (by decide) rfl (fun h9 => ?_) (fun h9 => ?_)
  · exact absurd h9 (by decide)
  · refine w_iload (pc' := 14) rfl rfl rfl ?_
    refine w_bipush (pc' := 16) 21 rfl rfl bp_21 ?_
    refine w_ic_le (t := 21) (pc' := 19) rfl (by decide) rfl (fun h16 => ?_) (fun h16 => ?_)
    · have g1 : e ≤ 21 := (nI_leI (a := e) (b := 21) (by omega) (by omega)).mp h16
      refine w_aload_n (pc' := 22) rfl rfl rfl rfl ?_
      refine w_iload (pc' := 24) rfl rfl rfl ?_
      refine w_cV1n (pc' := 27) (v_beginsA xs h hp (by omega) (b := 71) (by omega)) (by decide) rfl rfl rfl (Nat.le_of_ble_eq_true rfl) sh_120 rfl (fun m1 hm' => ?_)
      obtain ⟨hA_1, hF_1⟩ := hm'
      have hq38 := (q_ran_tr T 71).2.1
      refine w_aload_n (pc' := 28) rfl rfl rfl rfl ?_
      refine w_iload (pc' := 30) rfl rfl rfl ?_
      refine w_aload_n (pc' := 31) rfl rfl rfl rfl ?_
      refine w_iload (pc' := 33) rfl rfl rfl ?_
      refine w_iload (pc' := 35) rfl rfl rfl ?_
      refine w_iconst (pc' := 36) 1 rfl rfl ic_1 ?_
      refine w_iadd (pc' := 37) rfl rfl ?_
      rw [show nI (e) + (1 : Int32) = nI (e + 1) from nI_add _ _]
      refine w_cV4i (pc' := 40) (v_does71 xs (T := q_ran T 71) hp hA_1 (by omega) x (by omega)) (by decide) rfl rfl rfl (Nat.le_of_ble_eq_true rfl) sh_120 rfl (fun m2 hm' => ?_)
      obtain ⟨hA_2, hF_2⟩ := hm'
      refine w_iret rfl rfl rfl ?_
      show am_qi ((f_w0 (q_ran T 71) p x).1 ^^^ nI (T.1 155 p)) _ _ _
      rw [← ran_155 (T := T) (b := 71)]
      exact ⟨rfl, hA_2, hF_1.tr hF_2⟩
    · have g2 : ¬ e ≤ 21 := fun q => h16 ((nI_leI (a := e) (b := 21) (by omega) (by omega)).mpr q)
      omega
