/-- a Land changes, but not its row of ways -/
def q_Fw (b : Nat) (m m' : am_Mm) : Prop := (∀ c, ¬ (b ≤ c ∧ c < b + 30 ∧ c ≠ b + 3) → m'.1 c = m.1 c) ∧ m'.2 = m.2
theorem q_Fw.rf {b : Nat} {m : am_Mm} : q_Fw b m m := ⟨fun _ _ => rfl, rfl⟩
theorem q_Fw.tr {b : Nat} {m m' m'' : am_Mm} (h : q_Fw b m m') (h' : q_Fw b m' m'') : q_Fw b m m'' := ⟨fun c hc => (h'.1 c hc).trans (h.1 c hc), h'.2.trans h.2⟩
theorem q_Fw.u {b : Nat} {m m' : am_Mm} (h : q_Fw b m m') {c k : Nat} {x : Int32} (hc : b ≤ c ∧ c < b + 30 ∧ c ≠ b + 3) : q_Fw b m (am_u m' c k x) := ⟨fun c' hc' => (am_u_nc (fun q => hc' (by rw [q]; exact hc))).trans (h.1 c' hc'), h.2⟩
theorem q_Fw.Fl {b : Nat} {m m' : am_Mm} (h : q_Fw b m m') : q_Fl b m m' := ⟨fun c hc => h.1 c (by omega), h.2⟩
theorem q_Tu_cm {T : q_T} {c k x c' k' y : Nat} (h : ¬ (c = c' ∧ k = k')) : q_Tu (q_Tu T c k x) c' k' y = q_Tu (q_Tu T c' k' y) c k x := by
  refine Prod.ext ?_ rfl
  funext d j
  show (if d = c' ∧ j = k' then y else if d = c ∧ j = k then x else T.1 d j) = (if d = c ∧ j = k then x else if d = c' ∧ j = k' then y else T.1 d j)
  by_cases e : d = c' ∧ j = k'
  · rw [if_pos e, if_neg (fun z => h (by omega)), if_pos e]
  · rw [if_neg e, if_neg e]
set_option maxRecDepth 100000 in
set_option maxHeartbeats 4000000 in
theorem v_dr_writes (xs : List Int32) {b : Nat} (hb : q_isL b) {T : q_T} {m : am_Mm} (hR : q_Rl b T m) (hB : q_Bd T) {p a mk : Nat} (hp : p < T.1 153 0) (hs : T.1 157 p < 8) (hk : mk < 10) : am_V xs 1 47 [.ref (b + 6 + 4 * p), .int (nI a), .int (nI mk)] m (am_qn (fun m' => q_Rl b (q_Tu (q_Tu (q_Tu T 160 (8 * p + T.1 157 p) (10 * a + mk)) 157 p (T.1 157 p + 1)) 159 p (T.1 159 p + 1)) m' ∧ q_Fw b m m')) := by
  have hb1 := q_isL_lt hb
  have hn0 : T.1 153 0 < 7 := hB 153 0
  have hF : q_Fw b m m := q_Fw.rf
  have b9 : T.1 157 p < 9 := hB 157 p
  refine am_V_of ky_47 (Nat.le_of_ble_eq_true rfl) ?_
  show am_P xs 0 dr_writes 0 [some (.ref (b + 6 + 4 * p)), some (.int (nI a)), some (.int (nI mk))] [] m _
  refine w_aload_n (pc' := 1) rfl rfl rfl rfl ?_
  refine w_getI (pc' := 4) rfl rfl rfl (shD hb (p := p) (by omega)) rfl ?_
  rw [show m.1 (b + 6 + 4 * p) 4 = nI (T.1 157 p) from (hR.2.2.2.2.2 p (by omega)).2.2.2.1]
  refine w_if_lt (t := 56) (pc' := 7) rfl (by decide) rfl (fun h4 => ?_) (fun h4 => ?_)
  · have g1 : (T.1 157 p) < 0 := (nI_ltI (a := (T.1 157 p)) (b := 0) (by omega) (by omega)).mp h4
    omega
  · have g2 : ¬ (T.1 157 p) < 0 := fun q => h4 ((nI_ltI (a := (T.1 157 p)) (b := 0) (by omega) (by omega)).mpr q)
    refine w_aload_n (pc' := 8) rfl rfl rfl rfl ?_
    refine w_getI (pc' := 11) rfl rfl rfl (shD hb (p := p) (by omega)) rfl ?_
    rw [show m.1 (b + 6 + 4 * p) 4 = nI (T.1 157 p) from (hR.2.2.2.2.2 p (by omega)).2.2.2.1]
    refine w_bipush (pc' := 13) 8 rfl rfl bp_8 ?_
    refine w_ic_ge (t := 56) (pc' := 16) rfl (by decide) rfl (fun h13 => ?_) (fun h13 => ?_)
    · have g3 : 8 ≤ (T.1 157 p) := (nI_leI (a := 8) (b := (T.1 157 p)) (by omega) (by omega)).mp h13
      omega
    · have g4 : ¬ 8 ≤ (T.1 157 p) := fun q => h13 ((nI_leI (a := 8) (b := (T.1 157 p)) (by omega) (by omega)).mpr q)
      refine w_aload_n (pc' := 17) rfl rfl rfl rfl ?_
      refine w_getC (pc' := 20) rfl rfl rfl (shD hb (p := p) (by omega)) rfl ?_
      refine w_aload_n (pc' := 21) rfl rfl rfl rfl ?_
      refine w_getI (pc' := 24) rfl rfl rfl (shD hb (p := p) (by omega)) rfl ?_
      rw [show m.1 (b + 6 + 4 * p) 4 = nI (T.1 157 p) from (hR.2.2.2.2.2 p (by omega)).2.2.2.1]
      refine w_iload_n (pc' := 25) rfl rfl rfl ?_
      refine w_iast (j := ((T.1 157 p))) (pc' := 26) rfl rfl (shDw hb (p := p) (by omega)) rfl (by omega) (by decide) ?_
      refine w_aload_n (pc' := 27) rfl rfl rfl rfl ?_
      refine w_getC (pc' := 30) rfl rfl rfl (shD hb (p := p) (by omega)) rfl ?_
      refine w_aload_n (pc' := 31) rfl rfl rfl rfl ?_
      refine w_getI (pc' := 34) rfl rfl rfl (shD hb (p := p) (by omega)) rfl ?_
      rw [show (am_u m (b + 6 + 4 * p + 1) (T.1 157 p) (nI a)).1 (b + 6 + 4 * p) 4 = nI (T.1 157 p) from (am_u_ne (by omega)).trans ((hR.2.2.2.2.2 p (by omega)).2.2.2.1)]
      refine w_iload_n (pc' := 35) rfl rfl rfl ?_
      refine w_iast (j := ((T.1 157 p))) (pc' := 36) rfl rfl (shDm hb (p := p) (by omega)) rfl (by omega) (by decide) ?_
      refine w_aload_n (pc' := 37) rfl rfl rfl rfl ?_
      refine w_dup (pc' := 38) rfl rfl rfl ?_
      refine w_getI (pc' := 41) rfl rfl rfl (shD hb (p := p) (by omega)) rfl ?_
      rw [show (am_u (am_u m (b + 6 + 4 * p + 1) (T.1 157 p) (nI a)) (b + 6 + 4 * p + 2) (T.1 157 p) (nI mk)).1 (b + 6 + 4 * p) 4 = nI (T.1 157 p) from (am_u_ne (by omega)).trans ((am_u_ne (by omega)).trans ((hR.2.2.2.2.2 p (by omega)).2.2.2.1))]
      refine w_iconst (pc' := 42) 1 rfl rfl ic_1 ?_
      refine w_iadd (pc' := 43) rfl rfl ?_
      rw [show nI ((T.1 157 p)) + (1 : Int32) = nI ((T.1 157 p) + 1) from nI_add _ _]
      refine w_putI (pc' := 46) rfl rfl rfl (shD hb (p := p) (by omega)) rfl rfl rfl ?_
      refine w_any (fun q => q_Rl b (q_Tu (q_Tu T 160 (8 * p + T.1 157 p) (10 * a + mk)) 157 (p) (T.1 157 p + 1)) q ∧ q_Fw b m q) ⟨hR.wr (p := p) (a := a) (mk := mk) (by omega) (by omega) (by omega) (by omega) (fun q => hB 157 q), ((hF.u (by omega)).u (by omega)).u (by omega)⟩ (fun m1 hm1 => ?_)
      obtain ⟨hR_1, hF_1⟩ := hm1
      have hnn1 : (q_Tu (q_Tu T 160 (8 * p + T.1 157 p) (10 * a + mk)) 157 (p) (T.1 157 p + 1)).1 153 0 = T.1 153 0 := (q_Tu_ne (by omega)).trans (q_Tu_ne (by omega))
      refine w_aload_n (pc' := 47) rfl rfl rfl rfl ?_
      refine w_dup (pc' := 48) rfl rfl rfl ?_
      refine w_getI (pc' := 51) rfl rfl rfl (shD hb (p := p) (by omega)) rfl ?_
      rw [show m1.1 (b + 6 + 4 * p) 5 = nI (T.1 159 p) from ((hR_1.2.2.2.2.2 p (by omega)).2.2.2.2.1).trans (congrArg nI ((q_Tu_ne (by omega)).trans (q_Tu_ne (by omega))))]
      refine w_iconst (pc' := 52) 1 rfl rfl ic_1 ?_
      refine w_iadd (pc' := 53) rfl rfl ?_
      rw [show nI ((T.1 159 p)) + (1 : Int32) = nI ((T.1 159 p) + 1) from nI_add _ _]
      refine w_putI (pc' := 56) rfl rfl rfl (shD hb (p := p) (by omega)) rfl rfl rfl ?_
      refine w_any (fun q => q_Rl b (q_Tu (q_Tu (q_Tu T 160 (8 * p + T.1 157 p) (10 * a + mk)) 157 (p) (T.1 157 p + 1)) 159 (p) ((T.1 159 p) + 1)) q ∧ q_Fw b m q) ⟨hR_1.d (p := p) (x := (T.1 159 p) + 1) (by omega) (by omega) (by omega), hF_1.u (by omega)⟩ (fun m2 hm2 => ?_)
      obtain ⟨hR_2, hF_2⟩ := hm2
      have hnn2 : (q_Tu (q_Tu (q_Tu T 160 (8 * p + T.1 157 p) (10 * a + mk)) 157 (p) (T.1 157 p + 1)) 159 (p) ((T.1 159 p) + 1)).1 153 0 = T.1 153 0 := (q_Tu_ne (by omega)).trans ((q_Tu_ne (by omega)).trans (q_Tu_ne (by omega)))
      refine w_vret rfl rfl ?_
      exact ⟨rfl, hR_2, hF_2⟩
set_option maxRecDepth 100000 in
set_option maxHeartbeats 4000000 in
theorem lp_rowsWith (xs : List Int32) {b : Nat} (hb : q_isL b) {T : q_T} {m : am_Mm} (hR : q_Rl b T m) (hB : q_Bd T) {p mk : Nat} (hp : p < T.1 153 0) (hk : mk < 10) : ∀ (r k : Nat), k + r = T.1 157 p → ∀ (c : Nat), am_P xs 0 dr_rowsWith 4 [some (.ref (b + 6 + 4 * p)), some (.int (nI mk)), some (.int (nI c)), some (.int (nI k))] [] m (am_qi (nI (c + q_al T p mk r k)) (· = m)) := by
  intro r
  induction r with
  | zero =>
    intro k hk c
    have hb1 := q_isL_lt hb
    have hn0 : T.1 153 0 < 7 := hB 153 0
    have b9 : T.1 157 p < 9 := hB 157 p
    have b40 : T.1 160 (8 * p + k) < 40 := hB 160 _
    refine w_iload_n (pc' := 5) rfl rfl rfl ?_
    refine w_aload_n (pc' := 6) rfl rfl rfl rfl ?_
    refine w_getI (pc' := 9) rfl rfl rfl (shD hb (p := p) (by omega)) rfl ?_
    have b1 : T.1 157 p < 9 := hB 157 (p)
    rw [show m.1 (b + 6 + 4 * p) 4 = nI (T.1 157 p) from (hR.2.2.2.2.2 p (by omega)).2.2.2.1]
    refine w_ic_ge (t := 37) (pc' := 12) rfl (by decide) rfl (fun h9 => ?_) (fun h9 => ?_)
    · have g2 : (T.1 157 p) ≤ k := (nI_leI (a := (T.1 157 p)) (b := k) (by omega) (by omega)).mp h9
      refine w_iload_n (pc' := 38) rfl rfl rfl ?_
      refine w_iret rfl rfl rfl ?_
      exact ⟨rfl, rfl⟩
    · have g3 : ¬ (T.1 157 p) ≤ k := fun q => h9 ((nI_leI (a := (T.1 157 p)) (b := k) (by omega) (by omega)).mpr q)
      omega
  | succ r ih =>
    intro k hk c
    have hb1 := q_isL_lt hb
    have hn0 : T.1 153 0 < 7 := hB 153 0
    have b9 : T.1 157 p < 9 := hB 157 p
    have b40 : T.1 160 (8 * p + k) < 40 := hB 160 _
    refine w_iload_n (pc' := 5) rfl rfl rfl ?_
    refine w_aload_n (pc' := 6) rfl rfl rfl rfl ?_
    refine w_getI (pc' := 9) rfl rfl rfl (shD hb (p := p) (by omega)) rfl ?_
    have b1 : T.1 157 p < 9 := hB 157 (p)
    rw [show m.1 (b + 6 + 4 * p) 4 = nI (T.1 157 p) from (hR.2.2.2.2.2 p (by omega)).2.2.2.1]
    refine w_ic_ge (t := 37) (pc' := 12) rfl (by decide) rfl (fun h9 => ?_) (fun h9 => ?_)
    · have g2 : (T.1 157 p) ≤ k := (nI_leI (a := (T.1 157 p)) (b := k) (by omega) (by omega)).mp h9
      omega
    · have g3 : ¬ (T.1 157 p) ≤ k := fun q => h9 ((nI_leI (a := (T.1 157 p)) (b := k) (by omega) (by omega)).mpr q)
      refine w_iload_n (pc' := 13) rfl rfl rfl ?_
      refine w_bipush (pc' := 15) 8 rfl rfl bp_8 ?_
      refine w_ic_ge (t := 37) (pc' := 18) rfl (by decide) rfl (fun h15 => ?_) (fun h15 => ?_)
      · have g4 : 8 ≤ k := (nI_leI (a := 8) (b := k) (by omega) (by omega)).mp h15
        omega
      · have g5 : ¬ 8 ≤ k := fun q => h15 ((nI_leI (a := 8) (b := k) (by omega) (by omega)).mpr q)
        refine w_aload_n (pc' := 19) rfl rfl rfl rfl ?_
        refine w_getC (pc' := 22) rfl rfl rfl (shD hb (p := p) (by omega)) rfl ?_
        refine w_iload_n (pc' := 23) rfl rfl rfl ?_
        refine w_iald (j := (k)) (pc' := 24) rfl rfl (shDm hb (p := p) (by omega)) rfl (by omega) (by decide) ?_
        rw [show m.1 (b + 6 + 4 * p + 2) k = nI (T.1 160 (8 * p + k) % 10) from ((hR.2.2.2.2.2 p (by omega)).2.2.2.2.2.2.1 k (by omega)).2]
        refine w_iload_n (pc' := 25) rfl rfl rfl ?_
        refine w_ic_ne (t := 31) (pc' := 28) rfl (by decide) rfl (fun h25 => ?_) (fun h25 => ?_)
        · have g6 : ¬ (T.1 160 (8 * p + k) % 10) = mk := fun q => h25 ((nI_eq (a := (T.1 160 (8 * p + k) % 10)) (b := mk) (by omega) (by omega)).mpr q)
          refine w_iinc3 (pc' := 34) 1 rfl rfl ic_1 rfl ?_
          rw [nI_inc]
          refine w_goto (pc' := 4) rfl (by decide) ?_
          rw [show c + q_al T p mk (r + 1) k = c + q_al T p mk r (k + 1) by rw [q_al, if_neg g6]; omega]
          exact ih (k + 1) (by omega) (c)
        · have g7 : (T.1 160 (8 * p + k) % 10) = mk := (nI_eq (a := (T.1 160 (8 * p + k) % 10)) (b := mk) (by omega) (by omega)).mp h25
          refine w_iinc2 (pc' := 31) 1 rfl rfl ic_1 rfl ?_
          rw [nI_inc]
          refine w_iinc3 (pc' := 34) 1 rfl rfl ic_1 rfl ?_
          rw [nI_inc]
          refine w_goto (pc' := 4) rfl (by decide) ?_
          rw [show c + q_al T p mk (r + 1) k = c + 1 + q_al T p mk r (k + 1) by rw [q_al, if_pos g7]; omega]
          exact ih (k + 1) (by omega) (c + 1)
set_option maxRecDepth 100000 in
set_option maxHeartbeats 4000000 in
theorem v_dr_rowsWith (xs : List Int32) {b : Nat} (hb : q_isL b) {T : q_T} {m : am_Mm} (hR : q_Rl b T m) (hB : q_Bd T) {p mk : Nat} (hp : p < T.1 153 0) (hk : mk < 10) : am_V xs 1 48 [.ref (b + 6 + 4 * p), .int (nI mk)] m (am_qi (nI (q_al T p mk (T.1 157 p) 0)) (· = m)) := by
  have hb1 := q_isL_lt hb
  have hn0 : T.1 153 0 < 7 := hB 153 0
  refine am_V_of ky_48 (Nat.le_of_ble_eq_true rfl) ?_
  show am_P xs 0 dr_rowsWith 0 [some (.ref (b + 6 + 4 * p)), some (.int (nI mk)), none, none] [] m _
  refine w_iconst (pc' := 1) 0 rfl rfl ic_0 ?_
  refine w_ist2 (pc' := 2) rfl rfl rfl ?_
  refine w_iconst (pc' := 3) 0 rfl rfl ic_0 ?_
  refine w_ist3 (pc' := 4) rfl rfl rfl ?_
  have e0 := lp_rowsWith xs hb hR hB hp hk (T.1 157 p) 0 (by omega) 0
  rw [Nat.zero_add] at e0
  exact e0
theorem q_al_le (T : q_T) (p mk : Nat) : ∀ r k, q_al T p mk r k ≤ r := by
  intro r
  induction r with
  | zero => exact fun _ => Nat.le_refl _
  | succ r ih =>
    intro k
    have := ih (k + 1)
    rw [q_al]
    split <;> omega
set_option maxRecDepth 100000 in
set_option maxHeartbeats 4000000 in
theorem v_la_steps (xs : List Int32) {b : Nat} (hb : q_isL b) {T : q_T} {m : am_Mm} (hR : q_Rl b T m) (hB : q_Bd T) {p a kn : Nat} (hp : p < T.1 153 0) (hs : T.1 157 p < 8) (ha : a < 4) (hd : T.1 159 p < 100000) (hkn : kn < 1000) : am_V xs 2 46 [.ref b, .ref (b + 6 + 4 * p), .int (nI a), .int (nI kn)] m (am_qn (fun m' => q_Rl b (f_gb T p a kn) m' ∧ q_Fw b m m')) := by
  have hb1 := q_isL_lt hb
  have hn0 : T.1 153 0 < 7 := hB 153 0
  have hF : q_Fw b m m := q_Fw.rf
  have b9 : T.1 157 p < 9 := hB 157 p
  have b6 : T.1 156 p < 16 := hB 156 p
  have hst0 := f_stp_lt (a := T.1 156 p) (b := a) b6
  have bm0 : (T.1 162 (f_stp (T.1 156 p) a)) < 8 := hB 162 _
  have hB1 : q_Bd (q_Tu T 156 p (f_stp (T.1 156 p) a)) := hB.u hst0
  refine am_V_of ky_46 (Nat.le_of_ble_eq_true rfl) ?_
  show am_P xs 1 la_stepsAndDraws 0 [some (.ref b), some (.ref (b + 6 + 4 * p)), some (.int (nI a)), some (.int (nI kn)), none] [] m _
  refine w_aload_n (pc' := 1) rfl rfl rfl rfl ?_
  refine w_aload_n (pc' := 2) rfl rfl rfl rfl ?_
  refine w_getI (pc' := 5) rfl rfl rfl (shD hb (p := p) (by omega)) rfl ?_
  have b1 : T.1 156 p < 16 := hB 156 (p)
  rw [show m.1 (b + 6 + 4 * p) 3 = nI (T.1 156 p) from (hR.2.2.2.2.2 p (by omega)).2.2.1]
  refine w_iload_n (pc' := 6) rfl rfl rfl ?_
  refine w_cS2i (pc' := 9) (v_k_step xs m (a := (T.1 156 p)) (b := a) (by omega) (by omega)) (by decide) rfl rfl rfl (Or.inl rfl) (Nat.le_of_ble_eq_true rfl) (fun m' hm' => ?_)
  rw [show m' = m from hm']
  clear hm' m'
  have hst2 := f_stp_lt (a := (T.1 156 p)) (b := a) (by omega)
  refine w_putI (pc' := 12) rfl rfl rfl (shD hb (p := p) (by omega)) rfl rfl rfl ?_
  refine w_any (fun q => q_Rl b (q_Tu T 156 (p) ((f_stp (T.1 156 p) a))) q ∧ q_Fw b m q) ⟨hR.d (p := p) (x := (f_stp (T.1 156 p) a)) (by omega) (by omega) (by omega), hF.u (by omega)⟩ (fun m1 hm1 => ?_)
  obtain ⟨hR_1, hF_1⟩ := hm1
  have hnn1 : (q_Tu T 156 (p) ((f_stp (T.1 156 p) a))).1 153 0 = T.1 153 0 := q_Tu_ne (by omega)
  refine w_aload_n (pc' := 13) rfl rfl rfl rfl ?_
  refine w_aload_n (pc' := 14) rfl rfl rfl rfl ?_
  refine w_getI (pc' := 17) rfl rfl rfl (shD hb (p := p) (by omega)) rfl ?_
  rw [show m1.1 (b + 6 + 4 * p) 3 = nI (f_stp (T.1 156 p) a) from ((hR_1.2.2.2.2.2 p (by omega)).2.2.1).trans (congrArg nI (q_Tu_eq))]
  refine w_cV1i (pc' := 20) (v_la_markAt xs hb hR_1 (i := f_stp (T.1 156 p) a) (by omega)) (by decide) rfl rfl rfl (Nat.le_of_ble_eq_true rfl) (shL hb) rfl (fun m' hm' => ?_)
  rw [show m' = m1 from hm']
  clear hm' m'
  rw [show ((q_Tu T 156 (p) ((f_stp (T.1 156 p) a)))).1 162 (f_stp (T.1 156 p) a) = T.1 162 (f_stp (T.1 156 p) a) from q_Tu_ne (by omega)]
  refine w_ist4 (pc' := 22) rfl rfl rfl ?_
  refine w_aload_n (pc' := 23) rfl rfl rfl rfl ?_
  refine w_iload_n (pc' := 24) rfl rfl rfl ?_
  refine w_iload (pc' := 26) rfl rfl rfl ?_
  refine w_cV2n (pc' := 29) (v_dr_writes xs hb hR_1 hB1 (p := p) (a := a) (mk := (T.1 162 (f_stp (T.1 156 p) a))) (by rw [q_Tu_ne (by omega)]; exact hp) (by rw [q_Tu_ne (by omega)]; exact hs) (by omega)) (by decide) rfl rfl rfl (Nat.le_of_ble_eq_true rfl) (shD hb (p := p) (by omega)) rfl (fun m2 hm' => ?_)
  obtain ⟨hR_2, hF_2⟩ := hm'
  have hF_2 := hF_1.tr hF_2
  rw [show (q_Tu T 156 p (f_stp (T.1 156 p) a)).1 157 p = T.1 157 p from q_Tu_ne (by omega), show (q_Tu T 156 p (f_stp (T.1 156 p) a)).1 159 p = T.1 159 p from q_Tu_ne (by omega)] at hR_2
  have hnn2 : (q_Tu (q_Tu (q_Tu (q_Tu T 156 (p) (f_stp (T.1 156 p) a)) 160 (8 * p + T.1 157 p) (10 * a + T.1 162 (f_stp (T.1 156 p) a))) 157 (p) (T.1 157 p + 1)) 159 (p) (T.1 159 p + 1)).1 153 0 = T.1 153 0 := (q_Tu_ne (by omega)).trans ((q_Tu_ne (by omega)).trans ((q_Tu_ne (by omega)).trans (q_Tu_ne (by omega))))
  refine w_aload_n (pc' := 30) rfl rfl rfl rfl ?_
  refine w_dup (pc' := 31) rfl rfl rfl ?_
  refine w_getI (pc' := 34) rfl rfl rfl (shL hb) rfl ?_
  have b3 : T.1 153 10 < 65536 := hB 153 (10)
  rw [show m2.1 b 1 = nI (T.1 153 10) from (hR_2.2.1).trans (congrArg nI ((q_Tu_ne (by omega)).trans ((q_Tu_ne (by omega)).trans ((q_Tu_ne (by omega)).trans (q_Tu_ne (by omega))))))]
  refine w_iconst (pc' := 35) 1 rfl rfl ic_1 ?_
  refine w_aload_n (pc' := 36) rfl rfl rfl rfl ?_
  refine w_getI (pc' := 39) rfl rfl rfl (shD hb (p := p) (by omega)) rfl ?_
  rw [show m2.1 (b + 6 + 4 * p) 3 = nI (f_stp (T.1 156 p) a) from ((hR_2.2.2.2.2.2 p (by omega)).2.2.1).trans (congrArg nI ((q_Tu_ne (by omega)).trans ((q_Tu_ne (by omega)).trans ((q_Tu_ne (by omega)).trans (q_Tu_eq)))))]
  refine w_ishl (pc' := 40) rfl rfl ?_
  rw [show (1 : Int32) <<< (nI (f_stp (T.1 156 p) a) &&& 31) = nI (2 ^ f_stp (T.1 156 p) a) from nI_bit _ (by omega)]
  refine w_ior (pc' := 41) rfl rfl ?_
  rw [show nI (T.1 153 10) ||| nI (2 ^ f_stp (T.1 156 p) a) = nI (T.1 153 10 ||| 2 ^ f_stp (T.1 156 p) a) from nx_or _ _]
  refine w_putI (pc' := 44) rfl rfl rfl (shL hb) rfl rfl rfl ?_
  refine w_any (fun q => q_Rl b (q_Tu (q_Tu (q_Tu (q_Tu (q_Tu T 156 (p) (f_stp (T.1 156 p) a)) 160 (8 * p + T.1 157 p) (10 * a + T.1 162 (f_stp (T.1 156 p) a))) 157 (p) (T.1 157 p + 1)) 159 (p) (T.1 159 p + 1)) 153 (10) ((T.1 153 10 ||| 2 ^ f_stp (T.1 156 p) a))) q ∧ q_Fw b m q) ⟨hR_2.n (x := (T.1 153 10 ||| 2 ^ f_stp (T.1 156 p) a)) (by omega), hF_2.u (by omega)⟩ (fun m3 hm3 => ?_)
  obtain ⟨hR_3, hF_3⟩ := hm3
  have hnn3 : (q_Tu (q_Tu (q_Tu (q_Tu (q_Tu T 156 (p) (f_stp (T.1 156 p) a)) 160 (8 * p + T.1 157 p) (10 * a + T.1 162 (f_stp (T.1 156 p) a))) 157 (p) (T.1 157 p + 1)) 159 (p) (T.1 159 p + 1)) 153 (10) ((T.1 153 10 ||| 2 ^ f_stp (T.1 156 p) a))).1 153 0 = T.1 153 0 := (q_Tu_ne (by omega)).trans ((q_Tu_ne (by omega)).trans ((q_Tu_ne (by omega)).trans ((q_Tu_ne (by omega)).trans (q_Tu_ne (by omega)))))
  have egb : (q_Tu (q_Tu (q_Tu (q_Tu (q_Tu T 156 (p) (f_stp (T.1 156 p) a)) 160 (8 * p + T.1 157 p) (10 * a + T.1 162 (f_stp (T.1 156 p) a))) 157 (p) (T.1 157 p + 1)) 159 (p) (T.1 159 p + 1)) 153 (10) ((T.1 153 10 ||| 2 ^ f_stp (T.1 156 p) a))) = q_gb T p a := by
    unfold q_gb
    rw [q_Tu_cm (c := 159) (c' := 153) (by omega)]
  rw [egb] at hR_3
  have hBg := q_gb_Bd hB hs ha hd
  refine w_aload_n (pc' := 45) rfl rfl rfl rfl ?_
  refine w_iload (pc' := 47) rfl rfl rfl ?_
  refine w_cV1i (pc' := 50) (v_dr_rowsWith xs hb hR_3 hBg (p := p) (mk := (T.1 162 (f_stp (T.1 156 p) a))) (by rw [q_gb_o (by omega) (by omega) (by omega) (by omega) (by omega)]; exact hp) (by omega)) (by decide) rfl rfl rfl (Nat.le_of_ble_eq_true rfl) (shD hb (p := p) (by omega)) rfl (fun m' hm' => ?_)
  rw [show m' = m3 from hm']
  clear hm' m'
  rw [show (q_gb T p a).1 157 p = T.1 157 p + 1 from (q_Tu_ne (by omega)).trans ((q_Tu_ne (by omega)).trans q_Tu_eq)]
  have hal := q_al_le (q_gb T p a) p (T.1 162 (f_stp (T.1 156 p) a)) (T.1 157 p + 1) 0
  refine w_iload_n (pc' := 51) rfl rfl rfl ?_
  refine w_ic_lt (t := 59) (pc' := 54) rfl (by decide) rfl (fun h51 => ?_) (fun h51 => ?_)
  · have g4 : (q_al (q_gb T p a) p (T.1 162 (f_stp (T.1 156 p) a)) (T.1 157 p + 1) 0) < kn := (nI_ltI (a := (q_al (q_gb T p a) p (T.1 162 (f_stp (T.1 156 p) a)) (T.1 157 p + 1) 0)) (b := kn) (by omega) (by omega)).mp h51
    refine w_vret rfl rfl ?_
    rw [show f_gb T p a kn = q_gb T p a from if_neg (by omega)]
    exact ⟨rfl, hR_3, hF_3⟩
  · have g5 : ¬ (q_al (q_gb T p a) p (T.1 162 (f_stp (T.1 156 p) a)) (T.1 157 p + 1) 0) < kn := fun q => h51 ((nI_ltI (a := (q_al (q_gb T p a) p (T.1 162 (f_stp (T.1 156 p) a)) (T.1 157 p + 1) 0)) (b := kn) (by omega) (by omega)).mpr q)
    have hnp : p < (q_gb T p a).1 153 0 := by rw [q_gb_o (by omega) (by omega) (by omega) (by omega) (by omega)]; exact hp
    have hn9 : (q_gb T p a).1 153 0 < 7 := hBg 153 0
    refine w_aload_n (pc' := 55) rfl rfl rfl rfl ?_
    refine w_iconst (pc' := 56) 1 rfl rfl ic_1 ?_
    refine w_putB (pc' := 59) rfl rfl rfl (shD hb (p := p) (by omega)) rfl rfl (by decide) rfl ?_
    refine w_any (fun q => q_Rl b (q_Tu (q_gb T p a) 158 (p) (1)) q ∧ q_Fw b m q) ⟨hR_3.d (p := p) (x := 1) (by omega) (by omega) (by omega), hF_3.u (by omega)⟩ (fun m4 hm4 => ?_)
    obtain ⟨hR_4, hF_4⟩ := hm4
    have hnn4 : (q_Tu (q_gb T p a) 158 (p) (1)).1 153 0 = (q_gb T p a).1 153 0 := q_Tu_ne (by omega)
    refine w_vret rfl rfl ?_
    rw [show f_gb T p a kn = q_Tu (q_gb T p a) 158 p 1 from if_pos (by omega)]
    exact ⟨rfl, hR_4, hF_4⟩
