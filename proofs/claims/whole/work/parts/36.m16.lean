theorem am_P.up {xs : List Int32} {d d' : Nat} {M : am_M} {pc : Nat} {L : am_L} {st : List Value} {m : am_Mm} {Q : am_Q} (h : am_P xs d M pc L st m Q) (hd : d ≤ d') : am_P xs d' M pc L st m Q := by
  obtain ⟨n, v, m', h1, h2⟩ := h
  exact ⟨n, v, m', am_run_le (am_call_le xs d d' n n hd (Nat.le_refl _)) _ _ _ _ _ _ _ (Nat.le_refl _) h1, h2⟩
def q_ws (T : q_T) (i : Nat) : Nat := if T.1 158 i = 1 ∨ T.1 157 i = 8 then 0 else f_way T i + 1
theorem q_ws_lt (T : q_T) (i : Nat) : q_ws T i < 5 := by
  have := f_way_lt T i
  unfold q_ws
  split <;> omega
theorem q_ws_1 {T : q_T} {i a : Nat} (h : q_ws T i = a + 1) : ¬ T.1 157 i = 8 := by
  intro q
  rw [show q_ws T i = 0 from if_pos (Or.inr q)] at h
  omega
def q_go (W : Nat → Nat) (kn : Nat) : Nat → Nat → q_T → q_T
  | 0, _, T => T
  | r + 1, k, T => q_go W kn r (k + 1) (if W k = 0 then T else f_gb T k (W k - 1) kn)
def q_ge (T : q_T) : q_T := q_go (q_ws T) (f_know T) (T.1 153 0) 0 T
def f_gh (T : q_T) : q_T := q_Tu (q_ge T) 153 11 ((q_ge T).1 153 11 + 1)
def q_FB (m m' : am_Mm) : Prop := ∀ c, (c < 153 ∨ c = 180) → m'.1 c = m.1 c ∧ m'.2 c = m.2 c
theorem q_FB.rf {m : am_Mm} : q_FB m m := fun _ _ => ⟨rfl, rfl⟩
theorem q_FB.tr {m m' m'' : am_Mm} (h : q_FB m m') (h' : q_FB m' m'') : q_FB m m'' := fun c hc => ⟨((h' c hc).1).trans (h c hc).1, ((h' c hc).2).trans (h c hc).2⟩
theorem q_FB.u {m m' : am_Mm} {c k : Nat} {x : Int32} (h : q_FB m m') (hc : 153 ≤ c ∧ ¬ c = 180) : q_FB m (am_u m' c k x) := fun c' hc' => ⟨(am_u_nc (by omega)).trans (h c' hc').1, (h c' hc').2⟩
theorem q_FB.FC {m m' : am_Mm} (h : q_FB m m') : q_FC m m' := fun c hc => h c (Or.inl hc)
theorem q_FA.FB {m m' : am_Mm} (h : q_FA m m') : q_FB m m' := fun c hc => h c (by omega)
def q_GB (T : q_T) (m : am_Mm) : am_Mm → Prop := fun m' => q_Rm T m' ∧ q_FB m m'
/-- nothing but the stack of truths and the ways changes -/
def q_Sw (m m' : am_Mm) : Prop := (∀ c, c ≠ 170 → c ≠ 181 → m'.1 c = m.1 c) ∧ m'.2 = m.2
theorem q_Sw.rf {m : am_Mm} : q_Sw m m := ⟨fun _ _ _ => rfl, rfl⟩
theorem q_Sw.st {m m' m'' : am_Mm} (h : q_Sw m m') (h' : q_St m' m'') : q_Sw m m'' := ⟨fun c hc hd => (h'.1 c hc).trans (h.1 c hc hd), h'.2.trans h.2⟩
theorem q_Sw.w {m m' : am_Mm} {k : Nat} {x : Int32} (h : q_Sw m m') : q_Sw m (am_u m' 181 k x) := ⟨fun c hc hd => (am_u_nc hd).trans (h.1 c hc hd), h.2⟩
theorem q_Sw.FB {m m' : am_Mm} (h : q_Sw m m') : q_FB m m' := fun c hc => ⟨h.1 c (by omega) (by omega), by rw [h.2]⟩
theorem q_Sw.Rm {T : q_T} {m m' : am_Mm} (h : q_Sw m m') (hR : q_Rm T m) : q_Rm T m' := by
  refine ⟨fun c k hv => ?_, q_ROf.same hR.2.1 (congrFun (h.1 153 (by decide) (by decide)) _) (congrFun (h.1 153 (by decide) (by decide)) _) (fun c h1 h2 => h.1 c (by omega) (by omega)), ?_⟩
  · rw [h.1 c (by rintro rfl; cases hv) (by rintro rfl; cases hv)]
    exact hR.1 c k hv
  · rw [h.2]
    exact hR.2.2
theorem q_wk {T : q_T} {m : am_Mm} {k : Nat} {v : Int32} (h : ∀ i, i < k → m.1 181 i = nI (q_ws T i) - 1) (hv : v = nI (q_ws T k) - 1) : ∀ i, i < k + 1 → (am_u m 181 k v).1 181 i = nI (q_ws T i) - 1 := by
  intro i hi
  by_cases e : i = k
  · subst e
    rw [am_u_eq, hv]
  · rw [am_u_ne (fun q => e q.2)]
    exact h i (by omega)
theorem kno_lt : ∀ (l : List q_Cl) (a : Nat), a < 100 → (∀ cl, cl ∈ l → cl.2.1 < 100) → kno l a < 100 := by
  intro l
  induction l with
  | nil => intro a ha _; exact ha
  | cons cl l ih =>
    intro a ha hl
    refine ih _ ?_ (fun c hc => hl c (List.mem_cons_of_mem _ hc))
    have := hl cl (List.mem_cons_self)
    split <;> omega
theorem q_of_mem {T : q_T} {cl : q_Cl} (h : cl ∈ q_of T) : ∃ o, o ∈ T.2.1 ∧ cl ∈ o := by
  unfold q_of at h
  split at h
  · exact absurd h (List.not_mem_nil)
  · cases e : T.2.1[T.1 153 19 - 1]? with
    | none =>
      rw [e] at h
      exact absurd h (List.not_mem_nil)
    | some o =>
      rw [e] at h
      exact ⟨o, List.mem_of_getElem? e, h⟩
theorem f_know_lt {T : q_T} (hO : q_Bo T) : f_know T < 100 := kno_lt _ 3 (by decide) (fun cl hc => by
  obtain ⟨o, h1, h2⟩ := q_of_mem hc
  exact (hO.2 o h1 cl h2).2)
set_option maxRecDepth 100000 in
set_option maxHeartbeats 4000000 in
theorem lp_gh1 (xs : List Int32) {T : q_T} {m0 : am_Mm} {Q : am_Q} (h0 : q_Rm T m0) (hB : q_Bd T) (hO : q_Bo T) (hV : q_Bv T) (hh : T.1 153 11 < 20000) {kn : Nat} (hK : ∀ m, q_Sw m0 m → (∀ i, i < T.1 153 0 → m.1 181 i = nI (q_ws T i) - 1) → am_P xs 5 m_goesHour 57 [some (.ref 153), some (.int (nI kn)), some (.int (nI (T.1 153 0)))] [] m Q) : ∀ (r k : Nat), k + r = T.1 153 0 → ∀ (m : am_Mm), q_Sw m0 m → (∀ i, i < k → m.1 181 i = nI (q_ws T i) - 1) → am_P xs 5 m_goesHour 7 [some (.ref 153), some (.int (nI kn)), some (.int (nI k))] [] m (Q) := by
  intro r
  induction r with
  | zero =>
    intro k hk m hS hw
    have h := hS.Rm h0
    refine w_iload_n (pc' := 8) rfl rfl rfl ?_
    refine w_aload_n (pc' := 9) rfl rfl rfl rfl ?_
    refine w_getI (pc' := 12) rfl rfl rfl sh_153 rfl ?_
    rw [show m.1 153 0 = nI (T.1 153 (0)) from (rf_0 h :)]
    have b1 : (T.1 153 (0)) < 7 := hB 153 (0)
    refine w_ic_ge (t := 57) (pc' := 15) rfl (by decide) rfl (fun h12 => ?_) (fun h12 => ?_)
    · have g2 : (T.1 153 (0)) ≤ k := (nI_leI (a := (T.1 153 (0))) (b := k) (by omega) (by omega)).mp h12
      obtain rfl : k = T.1 153 0 := by omega
      exact hK m hS hw
    · have g3 : ¬ (T.1 153 (0)) ≤ k := fun q => h12 ((nI_leI (a := (T.1 153 (0))) (b := k) (by omega) (by omega)).mpr q)
      omega
  | succ r ih =>
    intro k hk m hS hw
    have h := hS.Rm h0
    refine w_iload_n (pc' := 8) rfl rfl rfl ?_
    refine w_aload_n (pc' := 9) rfl rfl rfl rfl ?_
    refine w_getI (pc' := 12) rfl rfl rfl sh_153 rfl ?_
    rw [show m.1 153 0 = nI (T.1 153 (0)) from (rf_0 h :)]
    have b1 : (T.1 153 (0)) < 7 := hB 153 (0)
    refine w_ic_ge (t := 57) (pc' := 15) rfl (by decide) rfl (fun h12 => ?_) (fun h12 => ?_)
    · have g2 : (T.1 153 (0)) ≤ k := (nI_leI (a := (T.1 153 (0))) (b := k) (by omega) (by omega)).mp h12
      omega
    · have g3 : ¬ (T.1 153 (0)) ≤ k := fun q => h12 ((nI_leI (a := (T.1 153 (0))) (b := k) (by omega) (by omega)).mpr q)
      refine w_aload_n (pc' := 16) rfl rfl rfl rfl ?_
      refine w_getC (pc' := 19) rfl rfl rfl sh_153 rfl ?_
      refine w_iload_n (pc' := 20) rfl rfl rfl ?_
      refine w_aload_n (pc' := 21) rfl rfl rfl rfl ?_
      refine w_getC (pc' := 24) rfl rfl rfl sh_153 rfl ?_
      refine w_iload_n (pc' := 25) rfl rfl rfl ?_
      refine w_iald (j := (k)) (pc' := 26) rfl rfl sh_158 rfl (by omega) (by decide) ?_
      rw [show m.1 158 k = nI (T.1 158 (k)) from (rd_158 h _ :)]
      have b4 : (T.1 158 (k)) < 2 := hB 158 (k)
      refine w_iconst (pc' := 27) 1 rfl rfl ic_1 ?_
      refine w_ic_eq (t := 41) (pc' := 30) rfl (by decide) rfl (fun h27 => ?_) (fun h27 => ?_)
      · have g5 : (T.1 158 (k)) = 1 := (nI_eq (a := (T.1 158 (k))) (b := 1) (by omega) (by omega)).mp h27
        refine w_iconst (pc' := 42) (-1) rfl rfl ic_m1 ?_
        refine w_goto (pc' := 50) rfl (by decide) ?_
        refine w_iast (j := (k)) (pc' := 51) rfl rfl sh_181 rfl (by omega) (by decide) ?_
        refine w_iinc2 (pc' := 54) 1 rfl rfl ic_1 rfl ?_
        rw [nI_inc]
        refine w_goto (pc' := 7) rfl (by decide) ?_
        exact ih (k + 1) (by omega) _ hS.w (q_wk hw (by rw [show q_ws T k = 0 from if_pos (Or.inl (by omega))]; decide))
      · have g6 : ¬ (T.1 158 (k)) = 1 := fun q => h27 ((nI_eq (a := (T.1 158 (k))) (b := 1) (by omega) (by omega)).mpr q)
        refine w_aload_n (pc' := 31) rfl rfl rfl rfl ?_
        refine w_getC (pc' := 34) rfl rfl rfl sh_153 rfl ?_
        refine w_iload_n (pc' := 35) rfl rfl rfl ?_
        refine w_iald (j := (k)) (pc' := 36) rfl rfl sh_157 rfl (by omega) (by decide) ?_
        rw [show m.1 157 k = nI (T.1 157 (k)) from (rd_157 h _ :)]
        have b7 : (T.1 157 (k)) < 9 := hB 157 (k)
        refine w_bipush (pc' := 38) 8 rfl rfl bp_8 ?_
        refine w_ic_ne (t := 45) (pc' := 41) rfl (by decide) rfl (fun h38 => ?_) (fun h38 => ?_)
        · have g8 : ¬ (T.1 157 (k)) = 8 := fun q => h38 ((nI_eq (a := (T.1 157 (k))) (b := 8) (by omega) (by omega)).mpr q)
          refine w_aload_n (pc' := 46) rfl rfl rfl rfl ?_
          refine w_iload_n (pc' := 47) rfl rfl rfl ?_
          refine w_cV1i (pc' := 50) (v_m_wayOf xs h hB hO hV hh (p := k) (by omega)) (by decide) rfl rfl rfl (Nat.le_of_ble_eq_true rfl) sh_153 rfl (fun m1 hm' => ?_)
          have S_1 := hS.st hm'
          have h_1 := S_1.Rm h0
          have W_1 : ∀ i, i < k → m1.1 181 i = nI (q_ws T i) - 1 := fun i hi => by rw [hm'.1 181 (by decide)]; exact hw i hi
          refine w_iast (j := (k)) (pc' := 51) rfl rfl sh_181 rfl (by omega) (by decide) ?_
          refine w_iinc2 (pc' := 54) 1 rfl rfl ic_1 rfl ?_
          rw [nI_inc]
          refine w_goto (pc' := 7) rfl (by decide) ?_
          exact ih (k + 1) (by omega) _ S_1.w (q_wk W_1 (by rw [show q_ws T k = f_way T k + 1 from if_neg (by omega)]; exact (nI_pred _).symm))
        · have g9 : (T.1 157 (k)) = 8 := (nI_eq (a := (T.1 157 (k))) (b := 8) (by omega) (by omega)).mp h38
          refine w_iconst (pc' := 42) (-1) rfl rfl ic_m1 ?_
          refine w_goto (pc' := 50) rfl (by decide) ?_
          refine w_iast (j := (k)) (pc' := 51) rfl rfl sh_181 rfl (by omega) (by decide) ?_
          refine w_iinc2 (pc' := 54) 1 rfl rfl ic_1 rfl ?_
          rw [nI_inc]
          refine w_goto (pc' := 7) rfl (by decide) ?_
          exact ih (k + 1) (by omega) _ hS.w (q_wk hw (by rw [show q_ws T k = 0 from if_pos (Or.inr (by omega))]; decide))
set_option maxRecDepth 100000 in
set_option maxHeartbeats 4000000 in
theorem lp_gh2 (xs : List Int32) {T : q_T} {m0 : am_Mm} (hB0 : q_Bd T) {kn : Nat} (hkn : kn < 1000) (hW : ∀ i, i < T.1 153 0 → m0.1 181 i = nI (q_ws T i) - 1) (hd : ∀ i, T.1 159 i < 100000) : ∀ (r k : Nat), k + r = T.1 153 0 → ∀ (Tk : q_T) (m : am_Mm), q_Rm Tk m → q_FA m0 m → q_Bd Tk → Tk.1 153 0 = T.1 153 0 → (∀ i, k ≤ i → Tk.1 157 i = T.1 157 i) → (∀ i, k ≤ i → Tk.1 159 i = T.1 159 i) → am_P xs 3 m_goesHour 59 [some (.ref 153), some (.int (nI kn)), some (.int (nI k))] [] m (am_qn (q_GA (q_Tu (q_go (q_ws T) kn r k Tk) 153 11 ((q_go (q_ws T) kn r k Tk).1 153 11 + 1)) m0)) := by
  intro r
  induction r with
  | zero =>
    intro k hk Tk m h hF hB hn h57 h59
    have b0 : Tk.1 153 0 < 7 := hB 153 0
    refine w_iload_n (pc' := 60) rfl rfl rfl ?_
    refine w_aload_n (pc' := 61) rfl rfl rfl rfl ?_
    refine w_getI (pc' := 64) rfl rfl rfl sh_153 rfl ?_
    rw [show m.1 153 0 = nI (Tk.1 153 (0)) from (rf_0 h :)]
    have b1 : (Tk.1 153 (0)) < 7 := hB 153 (0)
    refine w_ic_ge (t := 95) (pc' := 67) rfl (by decide) rfl (fun h64 => ?_) (fun h64 => ?_)
    · have g2 : (Tk.1 153 (0)) ≤ k := (nI_leI (a := (Tk.1 153 (0))) (b := k) (by omega) (by omega)).mp h64
      refine w_aload_n (pc' := 96) rfl rfl rfl rfl ?_
      refine w_dup (pc' := 97) rfl rfl rfl ?_
      refine w_getI (pc' := 100) rfl rfl rfl sh_153 rfl ?_
      rw [show m.1 153 11 = nI (Tk.1 153 (11)) from (rf_11 h :)]
      refine w_iconst (pc' := 101) 1 rfl rfl ic_1 ?_
      refine w_iadd (pc' := 102) rfl rfl ?_
      rw [show nI ((Tk.1 153 (11))) + (1 : Int32) = nI ((Tk.1 153 (11)) + 1) from nI_add _ _]
      refine w_putI (pc' := 105) rfl rfl rfl sh_153 rfl rfl rfl ?_
      refine w_genA (h.u (c := 153) (k := 11) (x := (Tk.1 153 (11)) + 1) rfl (y := _) (show _ = q_enc _ _ _ from rfl)) (hF.u (by decide)) (fun m1 h_1 hF_1 => ?_)
      refine w_vret rfl rfl ?_
      exact ⟨rfl, h_1, hF_1⟩
    · have g3 : ¬ (Tk.1 153 (0)) ≤ k := fun q => h64 ((nI_leI (a := (Tk.1 153 (0))) (b := k) (by omega) (by omega)).mpr q)
      omega
  | succ r ih =>
    intro k hk Tk m h hF hB hn h57 h59
    have b0 : Tk.1 153 0 < 7 := hB 153 0
    have hq5 := q_ws_lt T k
    refine w_iload_n (pc' := 60) rfl rfl rfl ?_
    refine w_aload_n (pc' := 61) rfl rfl rfl rfl ?_
    refine w_getI (pc' := 64) rfl rfl rfl sh_153 rfl ?_
    rw [show m.1 153 0 = nI (Tk.1 153 (0)) from (rf_0 h :)]
    have b1 : (Tk.1 153 (0)) < 7 := hB 153 (0)
    refine w_ic_ge (t := 95) (pc' := 67) rfl (by decide) rfl (fun h64 => ?_) (fun h64 => ?_)
    · have g2 : (Tk.1 153 (0)) ≤ k := (nI_leI (a := (Tk.1 153 (0))) (b := k) (by omega) (by omega)).mp h64
      omega
    · have g3 : ¬ (Tk.1 153 (0)) ≤ k := fun q => h64 ((nI_leI (a := (Tk.1 153 (0))) (b := k) (by omega) (by omega)).mpr q)
      refine w_aload_n (pc' := 68) rfl rfl rfl rfl ?_
      refine w_getC (pc' := 71) rfl rfl rfl sh_153 rfl ?_
      refine w_iload_n (pc' := 72) rfl rfl rfl ?_
      refine w_iald (j := (k)) (pc' := 73) rfl rfl sh_181 rfl (by omega) (by decide) ?_
      rw [show m.1 181 k = nI (q_ws T k) - 1 from by rw [(hF 181 (by omega)).1]; exact hW k (by omega)]
      refine w_iconst (pc' := 74) (-1) rfl rfl ic_m1 ?_
      refine w_ic_eq (t := 89) (pc' := 77) rfl (by decide) rfl (fun h74 => ?_) (fun h74 => ?_)
      · have g4 : (q_ws T k) = 0 := (nI_pp (a := (q_ws T k)) (b := 0) (by omega) (by omega)).mp h74
        refine w_iinc2 (pc' := 92) 1 rfl rfl ic_1 rfl ?_
        rw [nI_inc]
        refine w_goto (pc' := 59) rfl (by decide) ?_
        rw [show q_go (q_ws T) kn (r + 1) k Tk = q_go (q_ws T) kn r (k + 1) Tk from congrArg (q_go (q_ws T) kn r (k + 1)) (if_pos (by omega))]
        exact ih (k + 1) (by omega) Tk m h hF hB hn (fun i hi => h57 i (by omega)) (fun i hi => h59 i (by omega))
      · have g5 : ¬ (q_ws T k) = 0 := fun q => h74 ((nI_pp (a := (q_ws T k)) (b := 0) (by omega) (by omega)).mpr q)
        obtain ⟨a, ha⟩ : ∃ a, q_ws T k = a + 1 := ⟨q_ws T k - 1, by omega⟩
        have hs8 := q_ws_1 ha
        have b157 : T.1 157 k < 9 := hB0 157 k
        have e57 : Tk.1 157 k = T.1 157 k := h57 k (by omega)
        have e59 : Tk.1 159 k = T.1 159 k := h59 k (by omega)
        have hd9 := hd k
        refine id ?_
        · refine w_aload_n (pc' := 78) rfl rfl rfl rfl ?_
          refine w_iload_n (pc' := 79) rfl rfl rfl ?_
          refine w_aload_n (pc' := 80) rfl rfl rfl rfl ?_
          refine w_getC (pc' := 83) rfl rfl rfl sh_153 rfl ?_
          refine w_iload_n (pc' := 84) rfl rfl rfl ?_
          refine w_iald (j := (k)) (pc' := 85) rfl rfl sh_181 rfl (by omega) (by decide) ?_
          rw [show m.1 181 k = nI a from by rw [(hF 181 (by omega)).1, hW k (by omega), ha]; exact nI_pred a]
          refine w_iload_n (pc' := 86) rfl rfl rfl ?_
          refine w_cV3n (pc' := 89) (v_m_goesBy xs h hB (p := k) (a := a) (kn := kn) (by omega) (by omega) (by omega) (by omega) hkn) (by decide) rfl rfl rfl (Nat.le_of_ble_eq_true rfl) sh_153 rfl (fun m1 hm' => ?_)
          obtain ⟨h_1, hG_1⟩ := hm'
          have hF_1 := hF.tr hG_1
          refine w_iinc2 (pc' := 92) 1 rfl rfl ic_1 rfl ?_
          rw [nI_inc]
          refine w_goto (pc' := 59) rfl (by decide) ?_
          rw [show q_go (q_ws T) kn (r + 1) k Tk = q_go (q_ws T) kn r (k + 1) (f_gb Tk k a kn) from congrArg (q_go (q_ws T) kn r (k + 1)) ((if_neg (by omega)).trans (congrArg (fun z => f_gb Tk k z kn) (by omega)))]
          exact ih (k + 1) (by omega) (f_gb Tk k a kn) m1 h_1 hF_1 (f_gb_Bd hB (by omega) (by omega) (by omega)) ((f_gb_o (by omega) (by omega) (by omega) (by omega) (by omega) (by omega)).trans hn) (fun i hi => (f_gb_o (by omega) (by omega) (by omega) (by omega) (by omega) (by omega)).trans (h57 i (by omega))) (fun i hi => (f_gb_o (by omega) (by omega) (by omega) (by omega) (by omega) (by omega)).trans (h59 i (by omega)))
set_option maxRecDepth 100000 in
set_option maxHeartbeats 4000000 in
theorem v_m_goesHour (xs : List Int32) {T : q_T} {m : am_Mm} (h : q_Rm T m) (hB : q_Bd T) (hO : q_Bo T) (hV : q_Bv T) (hh : T.1 153 11 < 20000) (hd : ∀ i, T.1 159 i < 100000) : am_V xs 6 157 [.ref 153] m (am_qn (q_GB (f_gh T) m)) := by
  refine am_V_of ky_157 (Nat.le_of_ble_eq_true rfl) ?_
  show am_P xs 5 m_goesHour 0 [some (.ref 153), none, none] [] m _
  refine w_aload_n (pc' := 1) rfl rfl rfl rfl ?_
  refine w_cV0i (pc' := 4) (v_m_know xs h hB hO) (by decide) rfl rfl rfl (Nat.le_of_ble_eq_true rfl) sh_153 rfl (fun m' hm' => ?_)
  rw [show m' = m from hm']
  clear hm' m'
  refine w_ist1 (pc' := 5) rfl rfl rfl ?_
  refine w_iconst (pc' := 6) 0 rfl rfl ic_0 ?_
  refine w_ist2 (pc' := 7) rfl rfl rfl ?_
  have hkl := f_know_lt hO
  refine lp_gh1 xs h hB hO hV hh (kn := f_know T) (fun m1 hS hw => ?_) (T.1 153 0) 0 (by omega) m q_Sw.rf (fun i hi => absurd hi (by omega))
  refine w_iconst (pc' := 58) 0 rfl rfl ic_0 ?_
  refine w_ist2 (pc' := 59) rfl rfl rfl ?_
  have e0 := lp_gh2 xs hB (kn := f_know T) (by omega) hw hd (T.1 153 0) 0 (by omega) T m1 (hS.Rm h) q_FA.rf hB rfl (fun _ _ => rfl) (fun _ _ => rfl)
  exact (e0.mono (Q' := am_qn (q_GB (f_gh T) m)) (fun v m' q => ⟨q.1, q.2.1, hS.FB.tr q.2.2.FB⟩)).up (by decide)
