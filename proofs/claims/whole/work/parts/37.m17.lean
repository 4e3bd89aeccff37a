def q_Hr (h : Nat) (T : q_T) : Prop := T.1 153 11 ≤ 9999 + h ∧ ∀ i, T.1 159 i ≤ 9999 + h
def q_Y (h : Nat) (T : q_T) : Prop := q_Bd T ∧ (q_Bo T ∧ (q_Bv T ∧ q_Hr h T))
/-- what HOURS leave as it is -/
def q_As (T T' : q_T) : Prop := T'.2 = T.2 ∧ ((∀ c k, (c < 156 ∨ 160 < c) → ¬ (c = 153 ∧ (k = 10 ∨ k = 11)) → T'.1 c k = T.1 c k) ∧ ∀ c k, 156 ≤ c → c ≤ 160 → ¬ q_pi c k < 182 → T'.1 c k = T.1 c k)
theorem q_As.rf {T : q_T} : q_As T T := ⟨rfl, fun _ _ _ _ => rfl, fun _ _ _ _ _ => rfl⟩
theorem q_As.tr {T T' T'' : q_T} (h : q_As T T') (h' : q_As T' T'') : q_As T T'' := ⟨h'.1.trans h.1, fun c k a b => (h'.2.1 c k a b).trans (h.2.1 c k a b), fun c k a b d => (h'.2.2 c k a b d).trans (h.2.2 c k a b d)⟩
/-- the kept places alone change -/
def q_Ag (T T' : q_T) : Prop := T'.2 = T.2 ∧ ∀ c k, ¬ q_pi c k < 182 → T'.1 c k = T.1 c k
theorem q_Ag.rf {T : q_T} : q_Ag T T := ⟨rfl, fun _ _ _ => rfl⟩
theorem q_Ag.tr {T T' T'' : q_T} (h : q_Ag T T') (h' : q_Ag T' T'') : q_Ag T T'' := ⟨h'.1.trans h.1, fun c k a => (h'.2 c k a).trans (h.2 c k a)⟩
theorem q_Ag.u {T T' : q_T} {c k x : Nat} (h : q_Ag T T') (hp : q_pi c k < 182) : q_Ag T (q_Tu T' c k x) := ⟨h.1, fun c' k' a => (q_Tu_ne (fun q => a (by rw [q.1, q.2]; exact hp))).trans (h.2 c' k' a)⟩
theorem q_As.Ag {T T' : q_T} (h : q_As T T') : q_Ag T T' := by
  refine ⟨h.1, fun c k a => ?_⟩
  by_cases e : 156 ≤ c ∧ c ≤ 160
  · exact h.2.2 c k e.1 e.2 a
  · refine h.2.1 c k (by omega) ?_
    rintro ⟨rfl, rfl | rfl⟩
    · exact a (by decide)
    · exact a (by decide)
theorem f_gb_As {T : q_T} {p a kn : Nat} (hp : p < 6) (hs : T.1 157 p < 8) : q_As T (f_gb T p a kn) := by
  refine ⟨f_gb_2, fun c k h1 h2 => f_gb_o (by omega) (by omega) (by omega) (by omega) (by omega) (by omega), fun c k h1 h2 h3 => f_gb_o ?_ ?_ ?_ (by omega) ?_ ?_⟩
  · rintro ⟨rfl, rfl⟩; rw [q_pi_156 hp] at h3; omega
  · rintro ⟨rfl, rfl⟩; rw [q_pi_160 (by omega)] at h3; omega
  · rintro ⟨rfl, rfl⟩; rw [q_pi_157 hp] at h3; omega
  · rintro ⟨rfl, rfl⟩; rw [q_pi_159 hp] at h3; omega
  · rintro ⟨rfl, rfl⟩; rw [q_pi_158 hp] at h3; omega
theorem q_go_inv {W : Nat → Nat} {kn : Nat} {T0 : q_T} (hW : ∀ i a, W i = a + 1 → T0.1 157 i < 8 ∧ a < 4) (hd : ∀ i, T0.1 159 i < 99999) : ∀ (r k : Nat) (T : q_T), k + r ≤ 6 → q_Bd T → (∀ i, k ≤ i → T.1 157 i = T0.1 157 i) → (∀ i, k ≤ i → T.1 159 i = T0.1 159 i) → (∀ i, T.1 159 i ≤ T0.1 159 i + 1) → q_Bd (q_go W kn r k T) ∧ (q_As T (q_go W kn r k T) ∧ ((∀ i, (q_go W kn r k T).1 159 i ≤ T0.1 159 i + 1) ∧ (q_go W kn r k T).1 153 11 = T.1 153 11)) := by
  intro r
  induction r with
  | zero => exact fun k T _ hB _ _ h3 => ⟨hB, q_As.rf, h3, rfl⟩
  | succ r ih =>
    intro k T hk hB h1 h2 h3
    rw [q_go]
    by_cases hw : W k = 0
    · rw [if_pos hw]
      exact ih (k + 1) T (by omega) hB (fun i hi => h1 i (by omega)) (fun i hi => h2 i (by omega)) h3
    · rw [if_neg hw]
      obtain ⟨a, ha⟩ : ∃ a, W k = a + 1 := ⟨W k - 1, by omega⟩
      obtain ⟨w1, w2⟩ := hW k a ha
      rw [ha, Nat.add_sub_cancel]
      have e1 := h1 k (by omega)
      have e2 := h2 k (by omega)
      have e3 := hd k
      have hA : q_As T (f_gb T k a kn) := f_gb_As (by omega) (by omega)
      obtain ⟨i1, i2, i3, i4⟩ := ih (k + 1) (f_gb T k a kn) (by omega) (f_gb_Bd hB (by omega) w2 (by omega)) (fun i hi => (f_gb_o (by omega) (by omega) (by omega) (by omega) (by omega) (by omega)).trans (h1 i (by omega))) (fun i hi => (f_gb_o (by omega) (by omega) (by omega) (by omega) (by omega) (by omega)).trans (h2 i (by omega))) (fun i => by
        by_cases e : i = k
        · subst e
          rw [f_gb_59]
          omega
        · rw [f_gb_o (by omega) (by omega) (by omega) (by omega) (by omega) (by omega)]
          exact h3 i)
      exact ⟨i1, hA.tr i2, i3, i4.trans (f_gb_o (by omega) (by omega) (by omega) (by omega) (by omega) (by omega))⟩
theorem q_ge_inv {h : Nat} {T : q_T} (hY : q_Y h T) (hh : h < 10000) : q_Bd (q_ge T) ∧ (q_As T (q_ge T) ∧ ((∀ i, (q_ge T).1 159 i ≤ T.1 159 i + 1) ∧ (q_ge T).1 153 11 = T.1 153 11)) := by
  obtain ⟨hB, -, -, h1, h2⟩ := hY
  have b0 : T.1 153 0 < 7 := hB 153 0
  refine q_go_inv (fun i a ha => ⟨?_, ?_⟩) (fun i => by have := h2 i; omega) (T.1 153 0) 0 T (by omega) hB (fun _ _ => rfl) (fun _ _ => rfl) (fun i => Nat.le_succ _)
  · have := q_ws_1 ha
    have b1 : T.1 157 i < 9 := hB 157 i
    omega
  · have := q_ws_lt T i
    omega
theorem f_gh_As {h : Nat} {T : q_T} (hY : q_Y h T) (hh : h < 10000) : q_As T (f_gh T) := by
  obtain ⟨-, hA, -, -⟩ := q_ge_inv hY hh
  exact ⟨hA.1, fun c k a b => (q_Tu_ne (by omega)).trans (hA.2.1 c k a b), fun c k a b d => (q_Tu_ne (by omega)).trans (hA.2.2 c k a b d)⟩
theorem f_gh_hour {h : Nat} {T : q_T} (hY : q_Y h T) (hh : h < 10000) : (f_gh T).1 153 11 = T.1 153 11 + 1 := q_Tu_eq.trans (congrArg (· + 1) (q_ge_inv hY hh).2.2.2)
theorem q_Bo.As {T T' : q_T} (h : q_Bo T) (hA : q_As T T') : q_Bo T' := by
  unfold q_Bo
  rw [hA.1, hA.2.1 153 19 (by omega) (by omega)]
  exact h
theorem q_Bv.As {T T' : q_T} (h : q_Bv T) (hA : q_As T T') : q_Bv T' := by
  unfold q_Bv
  rw [hA.1]
  exact h
theorem f_gh_Y {h : Nat} {T : q_T} (hY : q_Y h T) (hh : h < 10000) : q_Y (h + 1) (f_gh T) := by
  have hA := f_gh_As hY hh
  have hr := f_gh_hour hY hh
  obtain ⟨i1, i2, i3, i4⟩ := q_ge_inv hY hh
  obtain ⟨hB, hO, hV, h1, h2⟩ := hY
  refine ⟨i1.u (show _ < 2 ^ 40 by omega), hO.As hA, hV.As hA, by omega, fun i => ?_⟩
  have e := i3 i
  have e2 := h2 i
  have e3 : (f_gh T).1 159 i = (q_ge T).1 159 i := q_Tu_ne (by omega)
  omega
/-- n HOURS -/
def f_gn : Nat → q_T → q_T
  | 0, T => T
  | n + 1, T => f_gn n (f_gh T)
theorem f_gn_inv : ∀ (n h : Nat) (T : q_T), q_Y h T → h + n ≤ 10000 → q_Y (h + n) (f_gn n T) ∧ (q_As T (f_gn n T) ∧ (f_gn n T).1 153 11 = T.1 153 11 + n) := by
  intro n
  induction n with
  | zero => exact fun h T hY _ => ⟨hY, q_As.rf, rfl⟩
  | succ n ih =>
    intro h T hY hh
    obtain ⟨a, b, c⟩ := ih (h + 1) (f_gh T) (f_gh_Y hY (by omega)) (by omega)
    refine ⟨?_, (f_gh_As hY (by omega)).tr b, ?_⟩
    · rw [show h + (n + 1) = h + 1 + n by omega]
      exact a
    · have := f_gh_hour hY (by omega)
      show (f_gn n (f_gh T)).1 153 11 = _
      omega
theorem f_gn_1 : ∀ (n : Nat) (T : q_T), f_gn (n + 1) T = f_gh (f_gn n T) := by
  intro n
  induction n with
  | zero => exact fun _ => rfl
  | succ n ih => exact fun T => ih (f_gh T)
theorem q_pi_lo {c k : Nat} (h : c < 153) : q_pi c k = 999 := by
  unfold q_pi
  split <;> first | rfl | omega
def q_D : Nat → Bool := fun x => decide (x < 182)
theorem q_Rm_kp {T : q_T} {m : am_Mm} (h : q_Rm T m) : q_Rm T (am_kp m 180 q_D) := by
  have e : ∀ c, c ≠ 180 → (am_kp m 180 q_D).1 c = m.1 c := fun c hc => by
    funext k
    exact if_neg (fun q => hc q.1)
  refine ⟨fun c k hv => ?_, q_ROf.same h.2.1 (congrFun (e 153 (by decide)) _) (congrFun (e 153 (by decide)) _) (fun c h1 h2 => e c (by omega)), h.2.2⟩
  rw [e c (by rintro rfl; cases hv)]
  exact h.1 c k hv
theorem q_kp_FC {m : am_Mm} : q_FC m (am_kp m 180 q_D) := fun c hc => ⟨by
  funext k
  exact if_neg (fun q => by omega), rfl⟩
/-- back to what was kept -/
theorem q_again {T T' : q_T} {m m1 m2 : am_Mm} (h : q_Rm T m) (hk : m1 = am_kp m 180 q_D) (h2 : q_Rm T' m2) (hF : q_FB m1 m2) (hA : q_Ag T T') : q_Rm T (am_ag m2 180 q_D) ∧ q_FC m (am_ag m2 180 q_D) := by
  have hi : ∀ c k, ¬ q_pi c k < 182 → (am_ag m2 180 q_D).1 c k = m2.1 c k := fun c k q => if_neg (fun z => q (of_decide_eq_true z))
  have h9 : ∀ c k, q_pi c k = 999 → (am_ag m2 180 q_D).1 c k = m2.1 c k := fun c k q => hi c k (by omega)
  refine ⟨⟨fun c k hv => ?_, ?_, ?_⟩, fun c hc => ⟨?_, ?_⟩⟩
  · by_cases q : q_pi c k < 182
    · have e1 : (am_ag m2 180 q_D).1 c k = m2.1 180 (q_pi c k) := if_pos (decide_eq_true q)
      have e2 : (am_kp m 180 q_D).1 180 (q_pi c k) = m.1 (q_kp (q_pi c k)).1 (q_kp (q_pi c k)).2 := if_pos ⟨rfl, decide_eq_true q⟩
      rw [e1, (hF 180 (Or.inr rfl)).1, hk, e2, q_kp_pi c k q]
      exact h.1 c k hv
    · rw [hi c k q, h2.1 c k hv, hA.2 c k q]
  · have e := h2.2.1
    rw [hA.1] at e
    refine q_ROf.same e (h9 _ _ rfl) (h9 _ _ rfl) (fun c h1 h2 => ?_)
    funext k
    refine h9 c k ?_
    rcases (show c = 164 ∨ c = 165 ∨ c = 166 ∨ c = 167 ∨ c = 168 ∨ c = 169 by omega) with rfl | rfl | rfl | rfl | rfl | rfl <;> rfl
  · intro t i ht hi2
    have := h2.2.2 t i ht hi2
    rw [hA.1] at this
    exact this
  · funext k
    rw [h9 c k (q_pi_lo hc), (hF c (Or.inl hc)).1, hk]
    exact congrFun (q_kp_FC c hc).1 k
  · show m2.2 c = m.2 c
    rw [(hF c (Or.inl hc)).2, hk]
    exact (q_kp_FC c hc).2
set_option maxRecDepth 100000 in
set_option maxHeartbeats 4000000 in
theorem lp_goesOn (xs : List Int32) {m0 : am_Mm} {n : Nat} (hn : n < 2000) : ∀ (r k : Nat), k + r = n → ∀ (T : q_T) (m : am_Mm) (h0 : Nat), q_Rm T m → q_FB m0 m → q_Y h0 T → h0 + r ≤ 1000 → am_P xs 6 m_goesOn 2 [some (.ref 153), some (.int (nI n)), some (.int (nI k))] [] m (am_qn (q_GB (f_gn r T) m0)) := by
  intro r
  induction r with
  | zero =>
    intro k hk T m h0 h hF hY hr
    refine w_iload_n (pc' := 3) rfl rfl rfl ?_
    refine w_iload_n (pc' := 4) rfl rfl rfl ?_
    refine w_ic_ge (t := 17) (pc' := 7) rfl (by decide) rfl (fun h4 => ?_) (fun h4 => ?_)
    · have g1 : n ≤ k := (nI_leI (a := n) (b := k) (by omega) (by omega)).mp h4
      refine w_vret rfl rfl ?_
      exact ⟨rfl, h, hF⟩
    · have g2 : ¬ n ≤ k := fun q => h4 ((nI_leI (a := n) (b := k) (by omega) (by omega)).mpr q)
      omega
  | succ r ih =>
    intro k hk T m h0 h hF hY hr
    refine w_iload_n (pc' := 3) rfl rfl rfl ?_
    refine w_iload_n (pc' := 4) rfl rfl rfl ?_
    refine w_ic_ge (t := 17) (pc' := 7) rfl (by decide) rfl (fun h4 => ?_) (fun h4 => ?_)
    · have g1 : n ≤ k := (nI_leI (a := n) (b := k) (by omega) (by omega)).mp h4
      omega
    · have g2 : ¬ n ≤ k := fun q => h4 ((nI_leI (a := n) (b := k) (by omega) (by omega)).mpr q)
      refine w_aload_n (pc' := 8) rfl rfl rfl rfl ?_
      refine w_cV0n (pc' := 11) (v_m_goesHour xs h hY.1 hY.2.1 hY.2.2.1 (by have := hY.2.2.2.1; omega) (fun i => by have := hY.2.2.2.2 i; omega)) (by decide) rfl rfl rfl (Nat.le_of_ble_eq_true rfl) sh_153 rfl (fun m1 hm' => ?_)
      obtain ⟨h_1, hG_1⟩ := hm'
      have hF_1 := hF.tr hG_1
      refine w_iinc2 (pc' := 14) 1 rfl rfl ic_1 rfl ?_
      rw [nI_inc]
      refine w_goto (pc' := 2) rfl (by decide) ?_
      exact ih (k + 1) (by omega) (f_gh T) m1 (h0 + 1) h_1 hF_1 (f_gh_Y hY (by omega)) (by omega)
set_option maxRecDepth 100000 in
set_option maxHeartbeats 4000000 in
theorem v_m_goesOn (xs : List Int32) {T : q_T} {m : am_Mm} {n h0 : Nat} (h : q_Rm T m) (hY : q_Y h0 T) (hn : h0 + n ≤ 1000) : am_V xs 7 192 [.ref 153, .int (nI n)] m (am_qn (q_GB (f_gn n T) m)) := by
  refine am_V_of ky_192 (Nat.le_of_ble_eq_true rfl) ?_
  show am_P xs 6 m_goesOn 0 [some (.ref 153), some (.int (nI n)), none] [] m _
  refine w_iconst (pc' := 1) 0 rfl rfl ic_0 ?_
  refine w_ist2 (pc' := 2) rfl rfl rfl ?_
  exact lp_goesOn xs (by omega) n 0 (by omega) T m h0 h q_FB.rf hY hn
