theorem q_L1 : q_isL 1 := Or.inl rfl
theorem q_L31 : q_isL 31 := Or.inr (Or.inl rfl)
theorem q_L61 : q_isL 61 := Or.inr (Or.inr rfl)
/-- what is told by hand, at 91 or (THE IMAGE's) at 104 -/
def q_Rh (b : Nat) (T : q_T) (m : am_Mm) : Prop :=
  m.1 (b + 1) 4 = nI (T.1 153 28) ∧ ((∀ i, i < T.1 153 28 → m.1 (b + 2) i = nI (T.1 171 i) ∧ (m.1 (b + 3) i = nI (T.1 172 i) ∧ m.1 (b + 4) i = nI (T.1 173 i))) ∧ (m.1 (b + 5) 4 = nI (T.1 153 32) ∧ ((∀ i, i < T.1 153 32 → m.1 (b + 6) i = nI (T.1 174 i) ∧ (T.1 174 i ≠ 0 → m.1 (b + 7) i = nI (T.1 175 i))) ∧ (m.1 (b + 9) 4 = nI (T.1 153 35) ∧ ∀ i, i < T.1 153 35 → m.1 (b + 10) i = nI (T.1 176 i) ∧ m.1 (b + 11) i = nI (T.1 177 i)))))
theorem q_Rh.eq {b : Nat} {T T' : q_T} {m m' : am_Mm} (h : q_Rh b T m) (hm : ∀ c, b + 1 ≤ c → c < b + 13 → m'.1 c = m.1 c) (hT : ∀ c k, (171 ≤ c ∧ c ≤ 177) ∨ (c = 153 ∧ (k = 28 ∨ k = 32 ∨ k = 35)) → T'.1 c k = T.1 c k) : q_Rh b T' m' := by
  obtain ⟨h1, h2, h3, h4, h5, h6⟩ := h
  unfold q_Rh
  rw [hm (b + 1) (by omega) (by omega), hm (b + 2) (by omega) (by omega), hm (b + 3) (by omega) (by omega), hm (b + 4) (by omega) (by omega), hm (b + 5) (by omega) (by omega), hm (b + 6) (by omega) (by omega), hm (b + 7) (by omega) (by omega), hm (b + 9) (by omega) (by omega), hm (b + 10) (by omega) (by omega), hm (b + 11) (by omega) (by omega), hT 153 28 (by omega), hT 153 32 (by omega), hT 153 35 (by omega)]
  refine ⟨h1, fun i hi => ?_, h3, fun i hi => ?_, h5, fun i hi => ?_⟩
  · rw [hT 171 i (by omega), hT 172 i (by omega), hT 173 i (by omega)]
    exact h2 i hi
  · rw [hT 174 i (by omega), hT 175 i (by omega)]
    exact h4 i hi
  · rw [hT 176 i (by omega), hT 177 i (by omega)]
    exact h6 i hi
/-- the rest: how many offices, THE TEXT, THE TRACE, whether THE IMAGE is taken, the TAPES -/
def q_Rx (T : q_T) (m : am_Mm) : Prop :=
  m.1 0 8 = nI T.2.1.length ∧ (m.1 117 1 = nI (T.1 153 12) ∧ ((∀ i, i < T.1 153 12 → m.1 118 i = nI (T.1 163 i)) ∧ (m.1 120 1 = nI (T.1 153 38) ∧ ((∀ i, i < 20 → i < T.1 153 38 → m.1 121 i = nI (T.1 178 i)) ∧ (m.1 0 5 = nI (T.1 153 40) ∧ ∀ t, t < 6 → m.1 (141 + 2 * t) 0 = nI (T.1 182 t) - 1 ∧ (m.1 (141 + 2 * t) 1 = nI (T.1 183 t) ∧ ∀ i, i < 60 → m.2 (142 + 2 * t) i = T.2.2 t i))))))
def q_Rc (T : q_T) (m : am_Mm) : Prop := q_Rl 1 T m ∧ (q_Ro T m ∧ (q_Rh 91 T m ∧ (q_Rx T m ∧ (T.1 153 40 = 1 → q_Rl 31 (q_und T) m ∧ q_Rh 104 (q_und T) m))))
/-- what a question changes: the trial, and the rows that hold nothing -/
def q_Fq (m m' : am_Mm) : Prop := (∀ c, ¬ (61 ≤ c ∧ c < 91) → ¬ (4 ≤ c ∧ c ≤ 6) → m'.1 c = m.1 c) ∧ m'.2 = m.2
theorem q_Fq.rf {m : am_Mm} : q_Fq m m := ⟨fun _ _ _ => rfl, rfl⟩
theorem q_Fq.tr {m m' m'' : am_Mm} (h : q_Fq m m') (h' : q_Fq m' m'') : q_Fq m m'' := ⟨fun c a b => (h'.1 c a b).trans (h.1 c a b), h'.2.trans h.2⟩
theorem q_Fl.Fq {m m' : am_Mm} (h : q_Fl 61 m m') : q_Fq m m' := ⟨fun c a _ => h.1 c (by omega), h.2⟩
/-- the model's cells stay -/
def q_FM (m m' : am_Mm) : Prop := ∀ c, 153 ≤ c → m'.1 c = m.1 c ∧ m'.2 c = m.2 c
theorem q_FM.rf {m : am_Mm} : q_FM m m := fun _ _ => ⟨rfl, rfl⟩
theorem q_FM.tr {m m' m'' : am_Mm} (h : q_FM m m') (h' : q_FM m' m'') : q_FM m m'' := fun c hc => ⟨((h' c hc).1).trans (h c hc).1, ((h' c hc).2).trans (h c hc).2⟩
theorem q_Fq.FM {m m' : am_Mm} (h : q_Fq m m') : q_FM m m' := fun c hc => ⟨h.1 c (by omega) (by omega), by rw [h.2]⟩
theorem q_Fl.FM {b : Nat} {m m' : am_Mm} (h : q_Fl b m m') (hb : b + 30 ≤ 153) : q_FM m m' := fun c hc => ⟨h.1 c (by omega), by rw [h.2]⟩
theorem q_Rm.FM {T : q_T} {m m' : am_Mm} (h : q_Rm T m) (hF : q_FM m m') : q_Rm T m' := by
  refine ⟨fun c k hv => ?_, q_ROf.same h.2.1 (congrFun (hF 153 (by omega)).1 _) (congrFun (hF 153 (by omega)).1 _) (fun c h1 h2 => (hF c (by omega)).1), fun t i ht hi => ?_⟩
  · by_cases e : 153 ≤ c
    · rw [(hF c e).1]
      exact h.1 c k hv
    · exfalso
      have h1 := e
      unfold q_vd at hv
      split at hv <;> first | omega | cases hv
  · rw [(hF 184 (by omega)).2]
    exact h.2.2 t i ht hi
theorem q_Rx.eq {T T' : q_T} {m m' : am_Mm} (h : q_Rx T m) (hm : ∀ c, (c = 0 ∨ (117 ≤ c ∧ c < 123) ∨ (141 ≤ c ∧ c < 153)) → m'.1 c = m.1 c ∧ m'.2 c = m.2 c) (h2 : T'.2 = T.2) (hT : ∀ c k, (c = 163 ∨ c = 178 ∨ c = 182 ∨ c = 183) ∨ (c = 153 ∧ (k = 12 ∨ k = 38 ∨ k = 40)) → T'.1 c k = T.1 c k) : q_Rx T' m' := by
  obtain ⟨a1, a2, a3, a4, a5, a6, a7⟩ := h
  unfold q_Rx
  rw [(hm 0 (by omega)).1, (hm 117 (by omega)).1, (hm 118 (by omega)).1, (hm 120 (by omega)).1, (hm 121 (by omega)).1, h2, hT 153 12 (by omega), hT 153 38 (by omega), hT 153 40 (by omega)]
  refine ⟨a1, a2, fun i hi => ?_, a4, fun i h1 h2 => ?_, a6, fun t ht => ?_⟩
  · rw [hT 163 i (by omega)]
    exact a3 i hi
  · rw [hT 178 i (by omega)]
    exact a5 i h1 h2
  · rw [(hm (141 + 2 * t) (by omega)).1, (hm (142 + 2 * t) (by omega)).2, hT 182 t (by omega), hT 183 t (by omega)]
    exact a7 t ht
/-- after a question all is as it was -/
theorem q_Rc.q {T : q_T} {m m' : am_Mm} (h : q_Rc T m) (hF : q_Fq m m') (hB : q_Bd T) (hBu : T.1 153 40 = 1 → q_Bd (q_und T)) (hl : T.2.1.length ≤ 6) : q_Rc T m' := by
  obtain ⟨h1, h2, h3, h4, h5⟩ := h
  have b0 : T.1 153 0 < 7 := hB 153 0
  refine ⟨h1.eq (fun c c1 c2 c3 => hF.1 c (by omega) (fun z => c3 (by unfold q_jL; omega))) (fun _ _ _ => rfl) (by omega), h2.eq (fun c c1 c2 => hF.1 c (by omega) (by omega)) rfl hl, h3.eq (fun c c1 c2 => hF.1 c (by omega) (by omega)) (fun _ _ _ => rfl), h4.eq (fun c hc => ⟨hF.1 c (by omega) (by omega), by rw [hF.2]⟩) rfl (fun _ _ _ => rfl), fun hi => ?_⟩
  obtain ⟨h6, h7⟩ := h5 hi
  have b1 : (q_und T).1 153 0 < 7 := hBu hi 153 0
  exact ⟨h6.eq (fun c c1 c2 c3 => hF.1 c (by omega) (by omega)) (fun _ _ _ => rfl) (by omega), h7.eq (fun c c1 c2 => hF.1 c (by omega) (by omega)) (fun _ _ _ => rfl)⟩
/-- the class's cells alone matter -/
theorem q_Rc.FC {T : q_T} {m m' : am_Mm} (h : q_Rc T m) (hF : q_FC m m') (hB : q_Bd T) (hBu : T.1 153 40 = 1 → q_Bd (q_und T)) (hl : T.2.1.length ≤ 6) : q_Rc T m' := by
  obtain ⟨h1, h2, h3, h4, h5⟩ := h
  have b0 : T.1 153 0 < 7 := hB 153 0
  refine ⟨h1.eq (fun c c1 c2 _ => (hF c (by omega)).1) (fun _ _ _ => rfl) (by omega), h2.eq (fun c c1 c2 => (hF c (by omega)).1) rfl hl, h3.eq (fun c c1 c2 => (hF c (by omega)).1) (fun _ _ _ => rfl), h4.eq (fun c hc => hF c (by omega)) rfl (fun _ _ _ => rfl), fun hi => ?_⟩
  obtain ⟨h6, h7⟩ := h5 hi
  have b1 : (q_und T).1 153 0 < 7 := hBu hi 153 0
  exact ⟨h6.eq (fun c c1 c2 _ => (hF c (by omega)).1) (fun _ _ _ => rfl) (by omega), h7.eq (fun c c1 c2 => (hF c (by omega)).1) (fun _ _ _ => rfl)⟩
/-- the rows' objects -/
def q_isR (a M : Nat) : Prop := (a = 92 ∧ M = 5) ∨ ((a = 96 ∧ M = 10) ∨ ((a = 100 ∧ M = 8) ∨ ((a = 105 ∧ M = 5) ∨ ((a = 109 ∧ M = 10) ∨ (a = 113 ∧ M = 8)))))
theorem shR {a M : Nat} (h : q_isR a M) : am_sh[a]? = some (.inr (.inr (4, [(3, .int (nI M)), (3, .ref (a + 1)), (3, .ref (a + 2)), (3, .ref (a + 3)), (0, .null)]))) := by
  rcases h with ⟨rfl, rfl⟩ | ⟨rfl, rfl⟩ | ⟨rfl, rfl⟩ | ⟨rfl, rfl⟩ | ⟨rfl, rfl⟩ | ⟨rfl, rfl⟩ <;> rfl
theorem shR1 {a M : Nat} (h : q_isR a M) : am_sh[a + 1]? = some (.inl (.int, M)) := by
  rcases h with ⟨rfl, rfl⟩ | ⟨rfl, rfl⟩ | ⟨rfl, rfl⟩ | ⟨rfl, rfl⟩ | ⟨rfl, rfl⟩ | ⟨rfl, rfl⟩ <;> rfl
theorem shR2 {a M : Nat} (h : q_isR a M) : am_sh[a + 2]? = some (.inl (.int, M)) := by
  rcases h with ⟨rfl, rfl⟩ | ⟨rfl, rfl⟩ | ⟨rfl, rfl⟩ | ⟨rfl, rfl⟩ | ⟨rfl, rfl⟩ | ⟨rfl, rfl⟩ <;> rfl
theorem shR3 {a M : Nat} (h : q_isR a M) : am_sh[a + 3]? = some (.inl (.int, M)) := by
  rcases h with ⟨rfl, rfl⟩ | ⟨rfl, rfl⟩ | ⟨rfl, rfl⟩ | ⟨rfl, rfl⟩ | ⟨rfl, rfl⟩ | ⟨rfl, rfl⟩ <;> rfl
theorem q_isR_lt {a M : Nat} (h : q_isR a M) : 92 ≤ a ∧ (a + 4 ≤ 117 ∧ (M < 11 ∧ 5 ≤ M)) := by
  rcases h with ⟨rfl, rfl⟩ | ⟨rfl, rfl⟩ | ⟨rfl, rfl⟩ | ⟨rfl, rfl⟩ | ⟨rfl, rfl⟩ | ⟨rfl, rfl⟩ <;> omega
/-- what a row's coming makes of memory -/
def q_ap (m : am_Mm) (a n : Nat) (x y z : Int32) : am_Mm := am_u (am_u (am_u (am_u m (a + 1) n x) (a + 2) n y) (a + 3) n z) a 4 (nI (n + 1))
set_option maxRecDepth 100000 in
set_option maxHeartbeats 4000000 in
theorem v_ro_append (xs : List Int32) {a M n : Nat} (hr : q_isR a M) {m : am_Mm} (hn : m.1 a 4 = nI n) (hnM : n ≤ M) (x y z : Int32) : am_V xs 1 96 [.ref a, .int x, .int y, .int z] m (am_qi (bB (decide (n < M))) (· = if n < M then q_ap m a n x y z else m)) := by
  have hr1 := q_isR_lt hr
  refine am_V_of ky_96 (Nat.le_of_ble_eq_true rfl) ?_
  show am_P xs 0 ro_append 0 [some (.ref a), some (.int x), some (.int y), some (.int z)] [] m _
  refine w_aload_n (pc' := 1) rfl rfl rfl rfl ?_
  refine w_getI (pc' := 4) rfl rfl rfl (shR hr) rfl ?_
  rw [show m.1 a 4 = nI n from hn]
  refine w_if_lt (t := 18) (pc' := 7) rfl (by decide) rfl (fun h4 => ?_) (fun h4 => ?_)
  · have g1 : n < 0 := (nI_ltI (a := n) (b := 0) (by omega) (by omega)).mp h4
    omega
  · have g2 : ¬ n < 0 := fun q => h4 ((nI_ltI (a := n) (b := 0) (by omega) (by omega)).mpr q)
    refine w_aload_n (pc' := 8) rfl rfl rfl rfl ?_
    refine w_getI (pc' := 11) rfl rfl rfl (shR hr) rfl ?_
    rw [show m.1 a 4 = nI n from hn]
    refine w_aload_n (pc' := 12) rfl rfl rfl rfl ?_
    refine w_getC (pc' := 15) rfl rfl rfl (shR hr) rfl ?_
    refine w_ic_lt (t := 20) (pc' := 18) rfl (by decide) rfl (fun h15 => ?_) (fun h15 => ?_)
    · have g3 : n < M := (nI_ltI (a := n) (b := M) (by omega) (by omega)).mp h15
      refine w_aload_n (pc' := 21) rfl rfl rfl rfl ?_
      refine w_getC (pc' := 24) rfl rfl rfl (shR hr) rfl ?_
      refine w_aload_n (pc' := 25) rfl rfl rfl rfl ?_
      refine w_getI (pc' := 28) rfl rfl rfl (shR hr) rfl ?_
      rw [show m.1 a 4 = nI n from hn]
      refine w_iload_n (pc' := 29) rfl rfl rfl ?_
      refine w_iast (j := (n)) (pc' := 30) rfl rfl (shR1 hr) rfl (by omega) (by omega) ?_
      refine w_aload_n (pc' := 31) rfl rfl rfl rfl ?_
      refine w_getC (pc' := 34) rfl rfl rfl (shR hr) rfl ?_
      refine w_aload_n (pc' := 35) rfl rfl rfl rfl ?_
      refine w_getI (pc' := 38) rfl rfl rfl (shR hr) rfl ?_
      rw [show (am_u m (a + 1) n x).1 a 4 = nI n from (am_u_ne (by omega)).trans (hn)]
      refine w_iload_n (pc' := 39) rfl rfl rfl ?_
      refine w_iast (j := (n)) (pc' := 40) rfl rfl (shR2 hr) rfl (by omega) (by omega) ?_
      refine w_aload_n (pc' := 41) rfl rfl rfl rfl ?_
      refine w_getC (pc' := 44) rfl rfl rfl (shR hr) rfl ?_
      refine w_aload_n (pc' := 45) rfl rfl rfl rfl ?_
      refine w_getI (pc' := 48) rfl rfl rfl (shR hr) rfl ?_
      rw [show (am_u (am_u m (a + 1) n x) (a + 2) n y).1 a 4 = nI n from (am_u_ne (by omega)).trans ((am_u_ne (by omega)).trans (hn))]
      refine w_iload_n (pc' := 49) rfl rfl rfl ?_
      refine w_iast (j := (n)) (pc' := 50) rfl rfl (shR3 hr) rfl (by omega) (by omega) ?_
      refine w_aload_n (pc' := 51) rfl rfl rfl rfl ?_
      refine w_dup (pc' := 52) rfl rfl rfl ?_
      refine w_getI (pc' := 55) rfl rfl rfl (shR hr) rfl ?_
      rw [show (am_u (am_u (am_u m (a + 1) n x) (a + 2) n y) (a + 3) n z).1 a 4 = nI n from (am_u_ne (by omega)).trans ((am_u_ne (by omega)).trans ((am_u_ne (by omega)).trans (hn)))]
      refine w_iconst (pc' := 56) 1 rfl rfl ic_1 ?_
      refine w_iadd (pc' := 57) rfl rfl ?_
      rw [show nI (n) + (1 : Int32) = nI (n + 1) from nI_add _ _]
      refine w_putI (pc' := 60) rfl rfl rfl (shR hr) rfl rfl rfl ?_
      refine w_iconst (pc' := 61) 1 rfl rfl ic_1 ?_
      refine w_iret rfl rfl (by first | rfl | exact am_nbB _) ?_
      rw [decide_eq_true (by omega)]
      exact ⟨rfl, (if_pos (by omega)).symm⟩
    · have g4 : ¬ n < M := fun q => h15 ((nI_ltI (a := n) (b := M) (by omega) (by omega)).mpr q)
      refine w_iconst (pc' := 19) 0 rfl rfl ic_0 ?_
      refine w_iret rfl rfl (by first | rfl | exact am_nbB _) ?_
      rw [decide_eq_false (by omega)]
      exact ⟨rfl, (if_neg (by omega)).symm⟩
set_option maxRecDepth 100000 in
set_option maxHeartbeats 4000000 in
theorem v_ro_clear (xs : List Int32) {a M : Nat} (hr : q_isR a M) {m : am_Mm} : am_V xs 1 95 [.ref a] m (am_qn (· = am_u m a 4 (nI 0))) := by
  refine am_V_of ky_95 (Nat.le_of_ble_eq_true rfl) ?_
  show am_P xs 0 ro_clear 0 [some (.ref a)] [] m _
  refine w_aload_n (pc' := 1) rfl rfl rfl rfl ?_
  refine w_iconst (pc' := 2) 0 rfl rfl ic_0 ?_
  refine w_putI (pc' := 5) rfl rfl rfl (shR hr) rfl rfl rfl ?_
  refine w_vret rfl rfl ?_
  exact ⟨rfl, rfl⟩
