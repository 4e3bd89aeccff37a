set_option maxRecDepth 100000 in
set_option maxHeartbeats 4000000 in
theorem v_la_setMark (xs : List Int32) {b : Nat} (hb : q_isL b) {T : q_T} {m : am_Mm} (hR : q_Rl b T m) (hB : q_Bd T) {c x : Nat} (hc : c < 16) (hx : x < 8) : am_V xs 2 53 [.ref b, .int (nI c), .int (nI x)] m (am_qn (fun m' => q_Rl b (q_Tu T 162 c x) m' ∧ q_Fl b m m')) := by
  have hb1 := q_isL_lt hb
  have hn0 : T.1 153 0 < 7 := hB 153 0
  have hF : q_Fl b m m := q_Fl.rf
  refine am_V_of ky_53 (Nat.le_of_ble_eq_true rfl) ?_
  show am_P xs 1 la_setMark 0 [some (.ref b), some (.int (nI c)), some (.int (nI x))] [] m _
  refine w_iload_n (pc' := 1) rfl rfl rfl ?_
  refine w_cS1i (pc' := 4) (v_k_isCell xs m (nI c)) (by decide) rfl rfl rfl (Or.inr rfl) (Nat.le_of_ble_eq_true rfl) (fun m' hm' => ?_)
  rw [show m' = m from hm']
  clear hm' m'
  rw [show q_is (nI c) 16 = true from q_is_nI (by omega) (by omega)]
  refine w_if_eq (t := 21) (pc' := 7) rfl (by decide) rfl (fun h4 => ?_) (fun h4 => ?_)
  · exact absurd h4 (by decide)
  · refine w_iload_n (pc' := 8) rfl rfl rfl ?_
    refine w_cS1i (pc' := 11) (v_k_isMark xs m (nI x)) (by decide) rfl rfl rfl (Or.inr rfl) (Nat.le_of_ble_eq_true rfl) (fun m' hm' => ?_)
    rw [show m' = m from hm']
    clear hm' m'
    rw [show q_is (nI x) 8 = true from q_is_nI (by omega) (by omega)]
    refine w_if_eq (t := 21) (pc' := 14) rfl (by decide) rfl (fun h11 => ?_) (fun h11 => ?_)
    · exact absurd h11 (by decide)
    · refine w_aload_n (pc' := 15) rfl rfl rfl rfl ?_
      refine w_getC (pc' := 18) rfl rfl rfl (shL hb) rfl ?_
      refine w_iload_n (pc' := 19) rfl rfl rfl ?_
      refine w_iload_n (pc' := 20) rfl rfl rfl ?_
      refine w_iast (j := (c)) (pc' := 21) rfl rfl (shLm hb) rfl (by omega) (by decide) ?_
      refine w_any (fun q => q_Rl b (q_Tu T 162 (c) (x)) q ∧ q_Fl b m q) ⟨hR.mk (c := c) (x := x), hF.u (by omega)⟩ (fun m1 hm1 => ?_)
      obtain ⟨hR_1, hF_1⟩ := hm1
      have hnn1 : (q_Tu T 162 (c) (x)).1 153 0 = T.1 153 0 := q_Tu_ne (by omega)
      refine w_vret rfl rfl ?_
      exact ⟨rfl, hR_1, hF_1⟩
set_option maxRecDepth 100000 in
set_option maxHeartbeats 4000000 in
theorem v_la_putAt (xs : List Int32) {b : Nat} (hb : q_isL b) {T : q_T} {m : am_Mm} (hR : q_Rl b T m) (hB : q_Bd T) {p x : Nat} (hp : p < T.1 153 0) (hx : x < 16) : am_V xs 2 36 [.ref b, .int (nI p), .int (nI x)] m (am_qn (fun m' => q_Rl b (q_Tu T 156 p x) m' ∧ q_Fl b m m')) := by
  have hb1 := q_isL_lt hb
  have hn0 : T.1 153 0 < 7 := hB 153 0
  have hF : q_Fl b m m := q_Fl.rf
  refine am_V_of ky_36 (Nat.le_of_ble_eq_true rfl) ?_
  show am_P xs 1 la_putAt 0 [some (.ref b), some (.int (nI p)), some (.int (nI x)), none] [] m _
  refine w_aload_n (pc' := 1) rfl rfl rfl rfl ?_
  refine w_iload_n (pc' := 2) rfl rfl rfl ?_
  refine w_cV1a (pc' := 5) (v_la_drawerS xs hb hR hB (p := p) (by omega)) (by decide) rfl rfl rfl (Nat.le_of_ble_eq_true rfl) (shL hb) rfl (fun m' hm' => ?_)
  rw [show m' = m from hm']
  clear hm' m'
  refine w_ast3 (pc' := 6) rfl rfl rfl rfl ?_
  refine w_aload_n (pc' := 7) rfl rfl rfl rfl ?_
  refine w_ifnullR (pc' := 10) rfl rfl (by omega) ?_
  refine w_iload_n (pc' := 11) rfl rfl rfl ?_
  refine w_cS1i (pc' := 14) (v_k_isCell xs m (nI x)) (by decide) rfl rfl rfl (Or.inr rfl) (Nat.le_of_ble_eq_true rfl) (fun m' hm' => ?_)
  rw [show m' = m from hm']
  clear hm' m'
  rw [show q_is (nI x) 16 = true from q_is_nI (by omega) (by omega)]
  refine w_if_eq (t := 22) (pc' := 17) rfl (by decide) rfl (fun h14 => ?_) (fun h14 => ?_)
  · exact absurd h14 (by decide)
  · refine w_aload_n (pc' := 18) rfl rfl rfl rfl ?_
    refine w_iload_n (pc' := 19) rfl rfl rfl ?_
    refine w_putI (pc' := 22) rfl rfl rfl (shD hb (p := p) (by omega)) rfl rfl rfl ?_
    refine w_any (fun q => q_Rl b (q_Tu T 156 (p) (x)) q ∧ q_Fl b m q) ⟨hR.d (p := p) (x := x) (by omega) (by omega) (by omega), hF.u (by omega)⟩ (fun m1 hm1 => ?_)
    obtain ⟨hR_1, hF_1⟩ := hm1
    have hnn1 : (q_Tu T 156 (p) (x)).1 153 0 = T.1 153 0 := q_Tu_ne (by omega)
    refine w_vret rfl rfl ?_
    exact ⟨rfl, hR_1, hF_1⟩
set_option maxRecDepth 100000 in
set_option maxHeartbeats 4000000 in
theorem v_la_setNumber (xs : List Int32) {b : Nat} (hb : q_isL b) {T : q_T} {m : am_Mm} (hR : q_Rl b T m) (hB : q_Bd T) {p x : Nat} (hp : p < T.1 153 0) : am_V xs 2 99 [.ref b, .int (nI p), .int (nI x)] m (am_qn (fun m' => q_Rl b (q_Tu T 155 p x) m' ∧ q_Fl b m m')) := by
  have hb1 := q_isL_lt hb
  have hn0 : T.1 153 0 < 7 := hB 153 0
  have hF : q_Fl b m m := q_Fl.rf
  refine am_V_of ky_99 (Nat.le_of_ble_eq_true rfl) ?_
  show am_P xs 1 la_setNumber 0 [some (.ref b), some (.int (nI p)), some (.int (nI x)), none] [] m _
  refine w_aload_n (pc' := 1) rfl rfl rfl rfl ?_
  refine w_iload_n (pc' := 2) rfl rfl rfl ?_
  refine w_cV1a (pc' := 5) (v_la_drawerS xs hb hR hB (p := p) (by omega)) (by decide) rfl rfl rfl (Nat.le_of_ble_eq_true rfl) (shL hb) rfl (fun m' hm' => ?_)
  rw [show m' = m from hm']
  clear hm' m'
  refine w_ast3 (pc' := 6) rfl rfl rfl rfl ?_
  refine w_aload_n (pc' := 7) rfl rfl rfl rfl ?_
  refine w_ifnullR (pc' := 10) rfl rfl (by omega) ?_
  refine w_aload_n (pc' := 11) rfl rfl rfl rfl ?_
  refine w_iload_n (pc' := 12) rfl rfl rfl ?_
  refine w_putI (pc' := 15) rfl rfl rfl (shD hb (p := p) (by omega)) rfl rfl rfl ?_
  refine w_any (fun q => q_Rl b (q_Tu T 155 (p) (x)) q ∧ q_Fl b m q) ⟨hR.d (p := p) (x := x) (by omega) (by omega) (by omega), hF.u (by omega)⟩ (fun m1 hm1 => ?_)
  obtain ⟨hR_1, hF_1⟩ := hm1
  have hnn1 : (q_Tu T 155 (p) (x)).1 153 0 = T.1 153 0 := q_Tu_ne (by omega)
  refine w_vret rfl rfl ?_
  exact ⟨rfl, hR_1, hF_1⟩
set_option maxRecDepth 100000 in
set_option maxHeartbeats 4000000 in
theorem v_la_emptySheet (xs : List Int32) {b : Nat} (hb : q_isL b) {T : q_T} {m : am_Mm} (hR : q_Rl b T m) (hB : q_Bd T) {p : Nat} (hp : p < T.1 153 0) : am_V xs 2 110 [.ref b, .int (nI p)] m (am_qn (fun m' => q_Rl b (q_Tu T 157 p 0) m' ∧ q_Fl b m m')) := by
  have hb1 := q_isL_lt hb
  have hn0 : T.1 153 0 < 7 := hB 153 0
  have hF : q_Fl b m m := q_Fl.rf
  refine am_V_of ky_110 (Nat.le_of_ble_eq_true rfl) ?_
  show am_P xs 1 la_emptySheet 0 [some (.ref b), some (.int (nI p)), none] [] m _
  refine w_aload_n (pc' := 1) rfl rfl rfl rfl ?_
  refine w_iload_n (pc' := 2) rfl rfl rfl ?_
  refine w_cV1a (pc' := 5) (v_la_drawerS xs hb hR hB (p := p) (by omega)) (by decide) rfl rfl rfl (Nat.le_of_ble_eq_true rfl) (shL hb) rfl (fun m' hm' => ?_)
  rw [show m' = m from hm']
  clear hm' m'
  refine w_ast2 (pc' := 6) rfl rfl rfl rfl ?_
  refine w_aload_n (pc' := 7) rfl rfl rfl rfl ?_
  refine w_ifnullR (pc' := 10) rfl rfl (by omega) ?_
  refine w_aload_n (pc' := 11) rfl rfl rfl rfl ?_
  refine w_iconst (pc' := 12) 0 rfl rfl ic_0 ?_
  refine w_putI (pc' := 15) rfl rfl rfl (shD hb (p := p) (by omega)) rfl rfl rfl ?_
  refine w_any (fun q => q_Rl b (q_Tu T 157 (p) (0)) q ∧ q_Fl b m q) ⟨hR.d (p := p) (x := 0) (by omega) (by omega) (by omega), hF.u (by omega)⟩ (fun m1 hm1 => ?_)
  obtain ⟨hR_1, hF_1⟩ := hm1
  have hnn1 : (q_Tu T 157 (p) (0)).1 153 0 = T.1 153 0 := q_Tu_ne (by omega)
  refine w_vret rfl rfl ?_
  exact ⟨rfl, hR_1, hF_1⟩
set_option maxRecDepth 100000 in
set_option maxHeartbeats 4000000 in
theorem v_la_notDone (xs : List Int32) {b : Nat} (hb : q_isL b) {T : q_T} {m : am_Mm} (hR : q_Rl b T m) (hB : q_Bd T) {p : Nat} (hp : p < T.1 153 0) : am_V xs 2 111 [.ref b, .int (nI p)] m (am_qn (fun m' => q_Rl b (q_Tu T 158 p 0) m' ∧ q_Fl b m m')) := by
  have hb1 := q_isL_lt hb
  have hn0 : T.1 153 0 < 7 := hB 153 0
  have hF : q_Fl b m m := q_Fl.rf
  refine am_V_of ky_111 (Nat.le_of_ble_eq_true rfl) ?_
  show am_P xs 1 la_notDone 0 [some (.ref b), some (.int (nI p)), none] [] m _
  refine w_aload_n (pc' := 1) rfl rfl rfl rfl ?_
  refine w_iload_n (pc' := 2) rfl rfl rfl ?_
  refine w_cV1a (pc' := 5) (v_la_drawerS xs hb hR hB (p := p) (by omega)) (by decide) rfl rfl rfl (Nat.le_of_ble_eq_true rfl) (shL hb) rfl (fun m' hm' => ?_)
  rw [show m' = m from hm']
  clear hm' m'
  refine w_ast2 (pc' := 6) rfl rfl rfl rfl ?_
  refine w_aload_n (pc' := 7) rfl rfl rfl rfl ?_
  refine w_ifnullR (pc' := 10) rfl rfl (by omega) ?_
  refine w_aload_n (pc' := 11) rfl rfl rfl rfl ?_
  refine w_iconst (pc' := 12) 0 rfl rfl ic_0 ?_
  refine w_putB (pc' := 15) rfl rfl rfl (shD hb (p := p) (by omega)) rfl rfl (by decide) rfl ?_
  refine w_any (fun q => q_Rl b (q_Tu T 158 (p) (0)) q ∧ q_Fl b m q) ⟨hR.d (p := p) (x := 0) (by omega) (by omega) (by omega), hF.u (by omega)⟩ (fun m1 hm1 => ?_)
  obtain ⟨hR_1, hF_1⟩ := hm1
  have hnn1 : (q_Tu T 158 (p) (0)).1 153 0 = T.1 153 0 := q_Tu_ne (by omega)
  refine w_vret rfl rfl ?_
  exact ⟨rfl, hR_1, hF_1⟩
set_option maxRecDepth 100000 in
set_option maxHeartbeats 4000000 in
theorem lp_othersDone (xs : List Int32) {b : Nat} (hb : q_isL b) {T : q_T} {m0 : am_Mm} (hB : q_Bd T) {s : Nat} : ∀ (r k : Nat), k + r = T.1 153 0 → ∀ (m : am_Mm), q_Rl b (q_md T (q_cs T s k)) m → q_Fl b m0 m → am_P xs 0 la_othersAreDone 2 [some (.ref b), some (.int (nI s)), some (.int (nI k))] [] m (am_qn (fun m' => q_Rl b (f_cs T s) m' ∧ q_Fl b m0 m')) := by
  intro r
  induction r with
  | zero =>
    intro k hk m hR hF
    have hb1 := q_isL_lt hb
    have hn0 : T.1 153 0 < 7 := hB 153 0
    have hn1 : (q_md T (q_cs T s k)).1 153 0 = T.1 153 0 := rfl
    refine w_iload_n (pc' := 3) rfl rfl rfl ?_
    refine w_aload_n (pc' := 4) rfl rfl rfl rfl ?_
    refine w_getI (pc' := 7) rfl rfl rfl (shL hb) rfl ?_
    rw [show m.1 b 5 = nI (T.1 153 0) from hR.1]
    refine w_ic_ge (t := 40) (pc' := 10) rfl (by decide) rfl (fun h7 => ?_) (fun h7 => ?_)
    · have g1 : (T.1 153 0) ≤ k := (nI_leI (a := (T.1 153 0)) (b := k) (by omega) (by omega)).mp h7
      refine w_vret rfl rfl ?_
      obtain rfl : k = T.1 153 0 := by omega
      exact ⟨rfl, hR, hF⟩
    · have g2 : ¬ (T.1 153 0) ≤ k := fun q => h7 ((nI_leI (a := (T.1 153 0)) (b := k) (by omega) (by omega)).mpr q)
      omega
  | succ r ih =>
    intro k hk m hR hF
    have hb1 := q_isL_lt hb
    have hn0 : T.1 153 0 < 7 := hB 153 0
    have hn1 : (q_md T (q_cs T s k)).1 153 0 = T.1 153 0 := rfl
    refine w_iload_n (pc' := 3) rfl rfl rfl ?_
    refine w_aload_n (pc' := 4) rfl rfl rfl rfl ?_
    refine w_getI (pc' := 7) rfl rfl rfl (shL hb) rfl ?_
    rw [show m.1 b 5 = nI (T.1 153 0) from hR.1]
    refine w_ic_ge (t := 40) (pc' := 10) rfl (by decide) rfl (fun h7 => ?_) (fun h7 => ?_)
    · have g1 : (T.1 153 0) ≤ k := (nI_leI (a := (T.1 153 0)) (b := k) (by omega) (by omega)).mp h7
      omega
    · have g2 : ¬ (T.1 153 0) ≤ k := fun q => h7 ((nI_leI (a := (T.1 153 0)) (b := k) (by omega) (by omega)).mpr q)
      refine w_iload_n (pc' := 11) rfl rfl rfl ?_
      refine w_bipush (pc' := 13) 6 rfl rfl bp_6 ?_
      refine w_ic_ge (t := 40) (pc' := 16) rfl (by decide) rfl (fun h13 => ?_) (fun h13 => ?_)
      · have g3 : 6 ≤ k := (nI_leI (a := 6) (b := k) (by omega) (by omega)).mp h13
        omega
      · have g4 : ¬ 6 ≤ k := fun q => h13 ((nI_leI (a := 6) (b := k) (by omega) (by omega)).mpr q)
        refine w_iload_n (pc' := 17) rfl rfl rfl ?_
        refine w_iload_n (pc' := 18) rfl rfl rfl ?_
        refine w_ishr (pc' := 19) rfl rfl ?_
        refine w_iconst (pc' := 20) 1 rfl rfl ic_1 ?_
        refine w_iand (pc' := 21) rfl rfl ?_
        refine w_if_ne (t := 34) (pc' := 24) rfl (by decide) rfl (fun h21 => ?_) (fun h21 => ?_)
        · have hbit : ¬ (nI s >>> (nI k &&& 31)) &&& 1 = 0 := h21
          refine w_iinc2 (pc' := 37) 1 rfl rfl ic_1 rfl ?_
          rw [nI_inc]
          refine w_goto (pc' := 2) rfl (by decide) ?_
          refine ih (k + 1) (by omega) m ?_ hF
          rw [← q_md_D (D := q_cs T s k) (fun x => ?_)]
          · exact hR
          · unfold q_cs
            by_cases e : x = k
            · subst e
              rw [if_neg (fun z => by omega), if_neg (fun z => hbit z.2)]
            · by_cases f : x < k ∧ (nI s >>> (nI x &&& 31)) &&& 1 = 0
              · rw [if_pos f, if_pos ⟨by omega, f.2⟩]
              · rw [if_neg f, if_neg (fun z => f ⟨by omega, z.2⟩)]
        · have hbit : (nI s >>> (nI k &&& 31)) &&& 1 = 0 := h21
          refine w_aload_n (pc' := 25) rfl rfl rfl rfl ?_
          refine w_getC (pc' := 28) rfl rfl rfl (shL hb) rfl ?_
          refine w_iload_n (pc' := 29) rfl rfl rfl ?_
          refine w_aald (j := k) (a := (b + 6 + 4 * k)) (pc' := 30) rfl rfl (shLd hb) rfl (drD (b := b) (p := k) (by omega)) (by omega) (am_sh_lt (shD hb (p := k) (by omega))) ?_
          refine w_iconst (pc' := 31) 1 rfl rfl ic_1 ?_
          refine w_putB (pc' := 34) rfl rfl rfl (shD hb (p := k) (by omega)) rfl rfl (by decide) rfl ?_
          refine w_any (fun q => q_Rl b (q_Tu (q_md T (q_cs T s k)) 158 (k) (1)) q ∧ q_Fl b m0 q) ⟨hR.d (p := k) (x := 1) (by omega) (by omega) (by omega), hF.u (by omega)⟩ (fun m1 hm1 => ?_)
          obtain ⟨hR_1, hF_1⟩ := hm1
          have hnn1 : (q_Tu (q_md T (q_cs T s k)) 158 (k) (1)).1 153 0 = (q_md T (q_cs T s k)).1 153 0 := q_Tu_ne (by omega)
          refine w_iinc2 (pc' := 37) 1 rfl rfl ic_1 rfl ?_
          rw [nI_inc]
          refine w_goto (pc' := 2) rfl (by decide) ?_
          refine ih (k + 1) (by omega) _ ?_ hF_1
          have e0 := hR_1
          rw [q_md_u (D' := q_cs T s (k + 1)) (fun x => ?_)] at e0
          · exact e0
          · unfold q_cs
            by_cases e : x = k
            · subst e
              rw [if_pos rfl, if_pos ⟨by omega, hbit⟩]
            · rw [if_neg e]
              by_cases f : x < k ∧ (nI s >>> (nI x &&& 31)) &&& 1 = 0
              · rw [if_pos f, if_pos ⟨by omega, f.2⟩]
              · rw [if_neg f, if_neg (fun z => f ⟨by omega, z.2⟩)]
set_option maxRecDepth 100000 in
set_option maxHeartbeats 4000000 in
theorem v_la_othersDone (xs : List Int32) {b : Nat} (hb : q_isL b) {T : q_T} {m : am_Mm} (hR : q_Rl b T m) (hB : q_Bd T) {s : Nat} : am_V xs 1 92 [.ref b, .int (nI s)] m (am_qn (fun m' => q_Rl b (f_cs T s) m' ∧ q_Fl b m m')) := by
  have hb1 := q_isL_lt hb
  have hn0 : T.1 153 0 < 7 := hB 153 0
  refine am_V_of ky_92 (Nat.le_of_ble_eq_true rfl) ?_
  show am_P xs 0 la_othersAreDone 0 [some (.ref b), some (.int (nI s)), none] [] m _
  refine w_iconst (pc' := 1) 0 rfl rfl ic_0 ?_
  refine w_ist2 (pc' := 2) rfl rfl rfl ?_
  exact lp_othersDone xs hb hB (T.1 153 0) 0 (by omega) m (by rw [q_md_T (D := q_cs T s 0) (fun x => if_neg (fun z => by omega))]; exact hR) q_Fl.rf
set_option maxRecDepth 100000 in
set_option maxHeartbeats 4000000 in
theorem lp_capDrew (xs : List Int32) {b : Nat} (hb : q_isL b) {T : q_T} {m0 : am_Mm} (hB : q_Bd T) (hd : ∀ i, T.1 159 i < 100000) : ∀ (r k : Nat), k + r = T.1 153 0 → ∀ (m : am_Mm), q_Rl b (q_mr T (q_cap T k)) m → q_Fl b m0 m → am_P xs 1 la_capDrew 2 [some (.ref b), some (.int (nI k))] [] m (am_qn (fun m' => q_Rl b (f_cap T) m' ∧ q_Fl b m0 m')) := by
  intro r
  induction r with
  | zero =>
    intro k hk m hR hF
    have hb1 := q_isL_lt hb
    have hn0 : T.1 153 0 < 7 := hB 153 0
    have hn1 : (q_mr T (q_cap T k)).1 153 0 = T.1 153 0 := rfl
    have hdk := hd k
    refine w_iload_n (pc' := 3) rfl rfl rfl ?_
    refine w_aload_n (pc' := 4) rfl rfl rfl rfl ?_
    refine w_getI (pc' := 7) rfl rfl rfl (shL hb) rfl ?_
    rw [show m.1 b 5 = nI (T.1 153 0) from hR.1]
    refine w_ic_ge (t := 46) (pc' := 10) rfl (by decide) rfl (fun h7 => ?_) (fun h7 => ?_)
    · have g1 : (T.1 153 0) ≤ k := (nI_leI (a := (T.1 153 0)) (b := k) (by omega) (by omega)).mp h7
      refine w_vret rfl rfl ?_
      obtain rfl : k = T.1 153 0 := by omega
      exact ⟨rfl, hR, hF⟩
    · have g2 : ¬ (T.1 153 0) ≤ k := fun q => h7 ((nI_leI (a := (T.1 153 0)) (b := k) (by omega) (by omega)).mpr q)
      omega
  | succ r ih =>
    intro k hk m hR hF
    have hb1 := q_isL_lt hb
    have hn0 : T.1 153 0 < 7 := hB 153 0
    have hn1 : (q_mr T (q_cap T k)).1 153 0 = T.1 153 0 := rfl
    have hdk := hd k
    refine w_iload_n (pc' := 3) rfl rfl rfl ?_
    refine w_aload_n (pc' := 4) rfl rfl rfl rfl ?_
    refine w_getI (pc' := 7) rfl rfl rfl (shL hb) rfl ?_
    rw [show m.1 b 5 = nI (T.1 153 0) from hR.1]
    refine w_ic_ge (t := 46) (pc' := 10) rfl (by decide) rfl (fun h7 => ?_) (fun h7 => ?_)
    · have g1 : (T.1 153 0) ≤ k := (nI_leI (a := (T.1 153 0)) (b := k) (by omega) (by omega)).mp h7
      omega
    · have g2 : ¬ (T.1 153 0) ≤ k := fun q => h7 ((nI_leI (a := (T.1 153 0)) (b := k) (by omega) (by omega)).mpr q)
      refine w_iload_n (pc' := 11) rfl rfl rfl ?_
      refine w_bipush (pc' := 13) 6 rfl rfl bp_6 ?_
      refine w_ic_ge (t := 46) (pc' := 16) rfl (by decide) rfl (fun h13 => ?_) (fun h13 => ?_)
      · have g3 : 6 ≤ k := (nI_leI (a := 6) (b := k) (by omega) (by omega)).mp h13
        omega
      · have g4 : ¬ 6 ≤ k := fun q => h13 ((nI_leI (a := 6) (b := k) (by omega) (by omega)).mpr q)
        refine w_aload_n (pc' := 17) rfl rfl rfl rfl ?_
        refine w_getC (pc' := 20) rfl rfl rfl (shL hb) rfl ?_
        refine w_iload_n (pc' := 21) rfl rfl rfl ?_
        refine w_aald (j := k) (a := (b + 6 + 4 * k)) (pc' := 22) rfl rfl (shLd hb) rfl (drD (b := b) (p := k) (by omega)) (by omega) (am_sh_lt (shD hb (p := k) (by omega))) ?_
        refine w_aload_n (pc' := 23) rfl rfl rfl rfl ?_
        refine w_getC (pc' := 26) rfl rfl rfl (shL hb) rfl ?_
        refine w_iload_n (pc' := 27) rfl rfl rfl ?_
        refine w_aald (j := k) (a := (b + 6 + 4 * k)) (pc' := 28) rfl rfl (shLd hb) rfl (drD (b := b) (p := k) (by omega)) (by omega) (am_sh_lt (shD hb (p := k) (by omega))) ?_
        refine w_getI (pc' := 31) rfl rfl rfl (shD hb (p := k) (by omega)) rfl ?_
        rw [show m.1 (b + 6 + 4 * k) 5 = nI (T.1 159 k) from (hR.2.2.2.2.2 k (by omega)).2.2.2.2.1.trans (congrArg nI (if_neg (show ¬ k < k by omega)))]
        refine w_sipush (pc' := 34) 9999 rfl rfl sp_9999 ?_
        refine w_cS2i (pc' := 37) (v_jm_min0 xs m (a := T.1 159 k) (b := 9999) (by omega) (by omega)) (by decide) rfl rfl rfl (Or.inl rfl) (Nat.le_of_ble_eq_true rfl) (fun m' hm' => ?_)
        rw [show m' = m from hm']
        clear hm' m'
        rw [Nat.min_comm]
        refine w_putI (pc' := 40) rfl rfl rfl (shD hb (p := k) (by omega)) rfl rfl rfl ?_
        refine w_any (fun q => q_Rl b (q_Tu (q_mr T (q_cap T k)) 159 (k) ((min 9999 (T.1 159 k)))) q ∧ q_Fl b m0 q) ⟨hR.d (p := k) (x := (min 9999 (T.1 159 k))) (by omega) (by omega) (by omega), hF.u (by omega)⟩ (fun m1 hm1 => ?_)
        obtain ⟨hR_1, hF_1⟩ := hm1
        have hnn1 : (q_Tu (q_mr T (q_cap T k)) 159 (k) ((min 9999 (T.1 159 k)))).1 153 0 = (q_mr T (q_cap T k)).1 153 0 := q_Tu_ne (by omega)
        refine w_iinc1 (pc' := 43) 1 rfl rfl ic_1 rfl ?_
        rw [nI_inc]
        refine w_goto (pc' := 2) rfl (by decide) ?_
        refine ih (k + 1) (by omega) _ ?_ hF_1
        have e0 := hR_1
        rw [q_mr_u (D' := q_cap T (k + 1)) (fun x => ?_)] at e0
        · exact e0
        · unfold q_cap
          by_cases e : x = k
          · subst e
            rw [if_pos rfl, if_pos (by omega)]
          · rw [if_neg e]
            by_cases f : x < k
            · rw [if_pos f, if_pos (by omega)]
            · rw [if_neg f, if_neg (by omega)]
set_option maxRecDepth 100000 in
set_option maxHeartbeats 4000000 in
theorem v_la_capDrew (xs : List Int32) {b : Nat} (hb : q_isL b) {T : q_T} {m : am_Mm} (hR : q_Rl b T m) (hB : q_Bd T) (hd : ∀ i, T.1 159 i < 100000) : am_V xs 2 85 [.ref b] m (am_qn (fun m' => q_Rl b (f_cap T) m' ∧ q_Fl b m m')) := by
  have hb1 := q_isL_lt hb
  have hn0 : T.1 153 0 < 7 := hB 153 0
  refine am_V_of ky_85 (Nat.le_of_ble_eq_true rfl) ?_
  show am_P xs 1 la_capDrew 0 [some (.ref b), none] [] m _
  refine w_iconst (pc' := 1) 0 rfl rfl ic_0 ?_
  refine w_ist1 (pc' := 2) rfl rfl rfl ?_
  exact lp_capDrew xs hb hB hd (T.1 153 0) 0 (by omega) m (by rw [q_mr_T (D := q_cap T 0) (fun x => if_neg (fun z => by omega))]; exact hR) q_Fl.rf
