def q_isL (b : Nat) : Prop := b = 1 ∨ (b = 31 ∨ b = 61)
theorem shL {b : Nat} (h : q_isL b) : am_sh[b]? = some (.inr (.inr (2, [(3, .ref (b + 1)), (0, .null), (0, .null), (2, .null), (3, .ref (b + 2)), (0, .null), (3, .ref (b + 3)), (3, .ref (b + 4)), (3, .ref (b + 5))]))) := by
  rcases h with rfl | rfl | rfl <;> rfl
theorem shLm {b : Nat} (h : q_isL b) : am_sh[b + 1]? = some (.inl (.int, 16)) := by rcases h with rfl | rfl | rfl <;> rfl
theorem shLd {b : Nat} (h : q_isL b) : am_sh[b + 2]? = some (.inr (.inl (.object "LostSheets$Drawer", [some (b + 6), some (b + 10), some (b + 14), some (b + 18), some (b + 22), some (b + 26)]))) := by rcases h with rfl | rfl | rfl <;> rfl
theorem shLw {b : Nat} (h : q_isL b) : am_sh[b + 3]? = some (.inl (.int, 6)) := by rcases h with rfl | rfl | rfl <;> rfl
theorem shLa {b : Nat} (h : q_isL b) : am_sh[b + 4]? = some (.inl (.int, 6)) := by rcases h with rfl | rfl | rfl <;> rfl
theorem shLt {b : Nat} (h : q_isL b) : am_sh[b + 5]? = some (.inl (.int, 8)) := by rcases h with rfl | rfl | rfl <;> rfl
theorem q_p6 {p : Nat} (h : p < 6) : p = 0 ∨ p = 1 ∨ p = 2 ∨ p = 3 ∨ p = 4 ∨ p = 5 := by omega
theorem shD {b p : Nat} (h : q_isL b) (hp : p < 6) : am_sh[b + 6 + 4 * p]? = some (.inr (.inr (1, [(3, .int (nI p)), (0, .null), (0, .null), (0, .null), (0, .null), (0, .null), (1, .null), (3, .ref (b + 6 + 4 * p + 1)), (3, .ref (b + 6 + 4 * p + 2)), (3, .ref (b + 6 + 4 * p + 3))]))) := by
  rcases h with rfl | rfl | rfl <;> rcases q_p6 hp with rfl | rfl | rfl | rfl | rfl | rfl <;> rfl
theorem shDw {b p : Nat} (h : q_isL b) (hp : p < 6) : am_sh[b + 6 + 4 * p + 1]? = some (.inl (.int, 8)) := by
  rcases h with rfl | rfl | rfl <;> rcases q_p6 hp with rfl | rfl | rfl | rfl | rfl | rfl <;> rfl
theorem shDm {b p : Nat} (h : q_isL b) (hp : p < 6) : am_sh[b + 6 + 4 * p + 2]? = some (.inl (.int, 8)) := by
  rcases h with rfl | rfl | rfl <;> rcases q_p6 hp with rfl | rfl | rfl | rfl | rfl | rfl <;> rfl
theorem shDr {b p : Nat} (h : q_isL b) (hp : p < 6) : am_sh[b + 6 + 4 * p + 3]? = some (.inl (.int, 4)) := by
  rcases h with rfl | rfl | rfl <;> rcases q_p6 hp with rfl | rfl | rfl | rfl | rfl | rfl <;> rfl
theorem drD {b p : Nat} (hp : p < 6) : ([some (b + 6), some (b + 10), some (b + 14), some (b + 18), some (b + 22), some (b + 26)] : List (Option Nat))[p]? = some (some (b + 6 + 4 * p)) := by
  rcases q_p6 hp with rfl | rfl | rfl | rfl | rfl | rfl <;> rfl
theorem q_isL_lt {b : Nat} (h : q_isL b) : 1 ≤ b ∧ b + 30 ≤ 91 := by
  rcases h with rfl | rfl | rfl <;> omega
/-- how the office that holds is told -/
def q_oc (x : Nat) : Int32 := if x = 0 then -1 else nI (120 + 3 * x)
/-- a drawer's object holds what the model holds of it -/
def q_Rd (D p : Nat) (T : q_T) (m : am_Mm) : Prop :=
  m.1 D 1 = nI (T.1 154 p) ∧ (m.1 D 2 = nI (T.1 155 p) ∧ (m.1 D 3 = nI (T.1 156 p) ∧ (m.1 D 4 = nI (T.1 157 p) ∧ (m.1 D 5 = nI (T.1 159 p) ∧ (m.1 D 6 = nI (T.1 158 p) ∧ ((∀ i, i < T.1 157 p → m.1 (D + 1) i = nI (T.1 160 (8 * p + i) / 10) ∧ m.1 (D + 2) i = nI (T.1 160 (8 * p + i) % 10)) ∧ ∀ i, i < 4 → m.1 (D + 3) i = nI (T.1 161 (4 * p + i))))))))
/-- a Land holds the land of the model -/
def q_Rl (b : Nat) (T : q_T) (m : am_Mm) : Prop :=
  m.1 b 5 = nI (T.1 153 0) ∧ (m.1 b 1 = nI (T.1 153 10) ∧ (m.1 b 2 = nI (T.1 153 11) ∧ (m.1 b 3 = q_oc (T.1 153 19) ∧ ((∀ c, c < 16 → m.1 (b + 1) c = nI (T.1 162 c)) ∧ ∀ p, p < T.1 153 0 → q_Rd (b + 6 + 4 * p) p T m))))
/-- nothing but the cells of one Land changes -/
def q_Fl (b : Nat) (m m' : am_Mm) : Prop := (∀ c, ¬ (b ≤ c ∧ c < b + 30) → m'.1 c = m.1 c) ∧ m'.2 = m.2
theorem q_Fl.rf {b : Nat} {m : am_Mm} : q_Fl b m m := ⟨fun _ _ => rfl, rfl⟩
theorem q_Fl.tr {b : Nat} {m m' m'' : am_Mm} (h : q_Fl b m m') (h' : q_Fl b m' m'') : q_Fl b m m'' := ⟨fun c hc => (h'.1 c hc).trans (h.1 c hc), h'.2.trans h.2⟩
theorem q_Fl.u {b : Nat} {m m' : am_Mm} (h : q_Fl b m m') {c k : Nat} {x : Int32} (hc : b ≤ c ∧ c < b + 30) : q_Fl b m (am_u m' c k x) := ⟨fun c' hc' => (am_u_nc (fun q => hc' (by rw [q]; exact hc))).trans (h.1 c' hc'), h.2⟩
/-- the Land's own rows that hold nothing from call to call -/
def q_jL (b c : Nat) : Prop := b + 3 ≤ c ∧ c ≤ b + 5
theorem q_Rd.eq {D p : Nat} {T T' : q_T} {m m' : am_Mm} (h : q_Rd D p T m) (hm : ∀ c, D ≤ c → c < D + 4 → m'.1 c = m.1 c) (hT : ∀ c k, 154 ≤ c → c ≤ 161 → T'.1 c k = T.1 c k) : q_Rd D p T' m' := by
  obtain ⟨h1, h2, h3, h4, h5, h6, h7, h8⟩ := h
  unfold q_Rd
  rw [hm D (by omega) (by omega), hm (D + 1) (by omega) (by omega), hm (D + 2) (by omega) (by omega), hm (D + 3) (by omega) (by omega), hT 154 p (by omega) (by omega), hT 155 p (by omega) (by omega), hT 156 p (by omega) (by omega), hT 157 p (by omega) (by omega), hT 158 p (by omega) (by omega), hT 159 p (by omega) (by omega)]
  refine ⟨h1, h2, h3, h4, h5, h6, fun i hi => ?_, fun i hi => ?_⟩
  · rw [hT 160 _ (by omega) (by omega)]
    exact h7 i hi
  · rw [hT 161 _ (by omega) (by omega)]
    exact h8 i hi
/-- the same land, elsewhere in memory nothing matters -/
theorem q_Rl.eq {b : Nat} {T T' : q_T} {m m' : am_Mm} (h : q_Rl b T m) (hm : ∀ c, b ≤ c → c < b + 30 → ¬ q_jL b c → m'.1 c = m.1 c) (hT : ∀ c k, (154 ≤ c ∧ c ≤ 162) ∨ (c = 153 ∧ (k = 0 ∨ k = 10 ∨ k = 11 ∨ k = 19)) → T'.1 c k = T.1 c k) (hb : T.1 153 0 ≤ 6) : q_Rl b T' m' := by
  obtain ⟨h1, h2, h3, h4, h5, h6⟩ := h
  have e1 := hm b (by omega) (by omega) (by unfold q_jL; omega)
  have e2 := hm (b + 1) (by omega) (by omega) (by unfold q_jL; omega)
  unfold q_Rl
  rw [e1, e2, hT 153 0 (by omega), hT 153 10 (by omega), hT 153 11 (by omega), hT 153 19 (by omega)]
  refine ⟨h1, h2, h3, h4, fun c hc => ?_, fun p hp => ?_⟩
  · rw [hT 162 c (by omega)]
    exact h5 c hc
  · exact (h6 p hp).eq (fun c c1 c2 => hm c (by omega) (by omega) (by unfold q_jL; omega)) (fun c k c1 c2 => hT c k (by omega))
theorem q_Rl.fl {b b' : Nat} {T : q_T} {m m' : am_Mm} (h : q_Rl b T m) (hf : q_Fl b' m m') (hb : b + 30 ≤ b' ∨ b' + 30 ≤ b) (h0 : T.1 153 0 ≤ 6) : q_Rl b T m' := h.eq (fun c c1 c2 _ => hf.1 c (by omega)) (fun _ _ _ => rfl) h0
/-- a row of the Land's own is written -/
theorem q_Rl.jk {b c k : Nat} {x : Int32} {T : q_T} {m : am_Mm} (h : q_Rl b T m) (hc : b + 3 ≤ c ∧ c ≤ b + 5) (h0 : T.1 153 0 ≤ 6) : q_Rl b T (am_u m c k x) := h.eq (fun c' c1 c2 c3 => am_u_nc (fun q => c3 (by rw [q]; exact hc))) (fun _ _ _ => rfl) h0
/-- one number of a drawer -/
theorem q_Rl.d {b p f c x : Nat} {T : q_T} {m : am_Mm} (h : q_Rl b T m) (hp : p < T.1 153 0) (h0 : T.1 153 0 ≤ 6) (hf : (f = 1 ∧ c = 154) ∨ (f = 2 ∧ c = 155) ∨ (f = 3 ∧ c = 156) ∨ (f = 5 ∧ c = 159) ∨ (f = 6 ∧ c = 158) ∨ (f = 4 ∧ c = 157 ∧ x ≤ T.1 157 p)) : q_Rl b (q_Tu T c p x) (am_u m (b + 6 + 4 * p) f (nI x)) := by
  obtain ⟨h1, h2, h3, h4, h5, h6⟩ := h
  have hc : 154 ≤ c ∧ c ≤ 159 := by omega
  refine ⟨(am_u_ne (by omega)).trans (h1.trans (congrArg nI (q_Tu_ne (by omega)).symm)), (am_u_ne (by omega)).trans (h2.trans (congrArg nI (q_Tu_ne (by omega)).symm)), (am_u_ne (by omega)).trans (h3.trans (congrArg nI (q_Tu_ne (by omega)).symm)), (am_u_ne (by omega)).trans (h4.trans (congrArg q_oc (q_Tu_ne (by omega)).symm)), fun k hk => (am_u_ne (by omega)).trans ((h5 k hk).trans (congrArg nI (q_Tu_ne (by omega)).symm)), fun q hq => ?_⟩
  rw [show (q_Tu T c p x).1 153 0 = T.1 153 0 from q_Tu_ne (by omega)] at hq
  obtain ⟨d1, d2, d3, d4, d5, d6, d7, d8⟩ := h6 q hq
  have key : ∀ g e, ((g = 1 ∧ e = 154) ∨ (g = 2 ∧ e = 155) ∨ (g = 3 ∧ e = 156) ∨ (g = 5 ∧ e = 159) ∨ (g = 6 ∧ e = 158) ∨ (g = 4 ∧ e = 157)) → m.1 (b + 6 + 4 * q) g = nI (T.1 e q) → (am_u m (b + 6 + 4 * p) f (nI x)).1 (b + 6 + 4 * q) g = nI ((q_Tu T c p x).1 e q) := by
    intro g e hg hm
    by_cases z : q = p ∧ g = f
    · obtain ⟨rfl, rfl⟩ := z
      have : e = c := by omega
      subst this
      rw [am_u_eq, q_Tu_eq]
    · rw [am_u_ne (by omega), q_Tu_ne (by omega)]
      exact hm
  refine ⟨key 1 154 (by omega) d1, key 2 155 (by omega) d2, key 3 156 (by omega) d3, key 4 157 (by omega) d4, key 5 159 (by omega) d5, key 6 158 (by omega) d6, fun i hi => ?_, fun i hi => ?_⟩
  · have hi2 : i < T.1 157 q := by
      by_cases z : c = 157 ∧ q = p
      · obtain ⟨rfl, rfl⟩ := z
        rw [q_Tu_eq] at hi
        omega
      · rw [q_Tu_ne (by omega)] at hi
        exact hi
    rw [am_u_ne (by omega), am_u_ne (by omega), q_Tu_ne (by omega)]
    exact d7 i hi2
  · rw [am_u_ne (by omega), q_Tu_ne (by omega)]
    exact d8 i hi
/-- a mark -/
theorem q_Rl.mk {b c x : Nat} {T : q_T} {m : am_Mm} (h : q_Rl b T m) : q_Rl b (q_Tu T 162 c x) (am_u m (b + 1) c (nI x)) := by
  obtain ⟨h1, h2, h3, h4, h5, h6⟩ := h
  refine ⟨(am_u_ne (by omega)).trans (h1.trans (congrArg nI (q_Tu_ne (by omega)).symm)), (am_u_ne (by omega)).trans (h2.trans (congrArg nI (q_Tu_ne (by omega)).symm)), (am_u_ne (by omega)).trans (h3.trans (congrArg nI (q_Tu_ne (by omega)).symm)), (am_u_ne (by omega)).trans (h4.trans (congrArg q_oc (q_Tu_ne (by omega)).symm)), fun k hk => ?_, fun q hq => (h6 q hq).eq (fun c' c1 c2 => am_u_nc (by omega)) (fun c' k' c1 c2 => q_Tu_ne (by omega))⟩
  by_cases e : k = c
  · subst e
    rw [am_u_eq, q_Tu_eq]
  · rw [am_u_ne (by omega), q_Tu_ne (by omega)]
    exact h5 k hk
/-- a number of the Land itself -/
theorem q_Rl.n {b f k x : Nat} {T : q_T} {m : am_Mm} (h : q_Rl b T m) (hf : (f = 1 ∧ k = 10) ∨ (f = 2 ∧ k = 11)) : q_Rl b (q_Tu T 153 k x) (am_u m b f (nI x)) := by
  obtain ⟨h1, h2, h3, h4, h5, h6⟩ := h
  have key : ∀ g e, ((g = 1 ∧ e = 10) ∨ (g = 2 ∧ e = 11)) → m.1 b g = nI (T.1 153 e) → (am_u m b f (nI x)).1 b g = nI ((q_Tu T 153 k x).1 153 e) := by
    intro g e hg hm
    by_cases z : g = f
    · subst z
      have : e = k := by omega
      subst this
      rw [am_u_eq, q_Tu_eq]
    · rw [am_u_ne (by omega), q_Tu_ne (by omega)]
      exact hm
  refine ⟨(am_u_ne (by omega)).trans (h1.trans (congrArg nI (q_Tu_ne (by omega)).symm)), key 1 10 (by omega) h2, key 2 11 (by omega) h3, (am_u_ne (by omega)).trans (h4.trans (congrArg q_oc (q_Tu_ne (by omega)).symm)), fun c hc => (am_u_ne (by omega)).trans ((h5 c hc).trans (congrArg nI (q_Tu_ne (by omega)).symm)), fun q hq => ?_⟩
  rw [show (q_Tu T 153 k x).1 153 0 = T.1 153 0 from q_Tu_ne (by omega)] at hq
  exact (h6 q hq).eq (fun c' c1 c2 => am_u_nc (by omega)) (fun c' k' c1 c2 => q_Tu_ne (by omega))
/-- a row comes to a sheet -/
theorem q_Rl.wr {b p a mk : Nat} {T : q_T} {m : am_Mm} (h : q_Rl b T m) (hp : p < T.1 153 0) (h0 : T.1 153 0 ≤ 6) (hs : T.1 157 p < 8) (hk : mk < 10) (hb9 : ∀ q, T.1 157 q < 9) : q_Rl b (q_Tu (q_Tu T 160 (8 * p + T.1 157 p) (10 * a + mk)) 157 p (T.1 157 p + 1)) (am_u (am_u (am_u m (b + 6 + 4 * p + 1) (T.1 157 p) (nI a)) (b + 6 + 4 * p + 2) (T.1 157 p) (nI mk)) (b + 6 + 4 * p) 4 (nI (T.1 157 p + 1))) := by
  obtain ⟨h1, h2, h3, h4, h5, h6⟩ := h
  have eT : ∀ c k, c ≠ 157 → c ≠ 160 → (q_Tu (q_Tu T 160 (8 * p + T.1 157 p) (10 * a + mk)) 157 p (T.1 157 p + 1)).1 c k = T.1 c k := fun c k x y => (q_Tu_ne (by omega)).trans (q_Tu_ne (by omega))
  have em : ∀ c k, ¬ (c = b + 6 + 4 * p + 1) → ¬ (c = b + 6 + 4 * p + 2) → ¬ (c = b + 6 + 4 * p ∧ k = 4) → (am_u (am_u (am_u m (b + 6 + 4 * p + 1) (T.1 157 p) (nI a)) (b + 6 + 4 * p + 2) (T.1 157 p) (nI mk)) (b + 6 + 4 * p) 4 (nI (T.1 157 p + 1))).1 c k = m.1 c k := fun c k x y z => (am_u_ne z).trans ((am_u_ne (by omega)).trans (am_u_ne (by omega)))
  refine ⟨(em _ _ (by omega) (by omega) (by omega)).trans (h1.trans (congrArg nI (eT _ _ (by omega) (by omega)).symm)), (em _ _ (by omega) (by omega) (by omega)).trans (h2.trans (congrArg nI (eT _ _ (by omega) (by omega)).symm)), (em _ _ (by omega) (by omega) (by omega)).trans (h3.trans (congrArg nI (eT _ _ (by omega) (by omega)).symm)), (em _ _ (by omega) (by omega) (by omega)).trans (h4.trans (congrArg q_oc (eT _ _ (by omega) (by omega)).symm)), fun c hc => (em _ _ (by omega) (by omega) (by omega)).trans ((h5 c hc).trans (congrArg nI (eT _ _ (by omega) (by omega)).symm)), fun q hq => ?_⟩
  rw [eT 153 0 (by omega) (by omega)] at hq
  obtain ⟨d1, d2, d3, d4, d5, d6, d7, d8⟩ := h6 q hq
  refine ⟨(em _ _ (by omega) (by omega) (by omega)).trans (d1.trans (congrArg nI (eT _ _ (by omega) (by omega)).symm)), (em _ _ (by omega) (by omega) (by omega)).trans (d2.trans (congrArg nI (eT _ _ (by omega) (by omega)).symm)), (em _ _ (by omega) (by omega) (by omega)).trans (d3.trans (congrArg nI (eT _ _ (by omega) (by omega)).symm)), ?_, (em _ _ (by omega) (by omega) (by omega)).trans (d5.trans (congrArg nI (eT _ _ (by omega) (by omega)).symm)), (em _ _ (by omega) (by omega) (by omega)).trans (d6.trans (congrArg nI (eT _ _ (by omega) (by omega)).symm)), fun i hi => ?_, fun i hi => (em _ _ (by omega) (by omega) (by omega)).trans ((d8 i hi).trans (congrArg nI (eT _ _ (by omega) (by omega)).symm))⟩
  · by_cases z : q = p
    · subst z
      rw [am_u_eq, q_Tu_eq]
    · rw [am_u_ne (by omega), am_u_ne (by omega), am_u_ne (by omega), q_Tu_ne (by omega), q_Tu_ne (by omega)]
      exact d4
  · by_cases z : q = p
    · subst z
      rw [q_Tu_eq] at hi
      by_cases y : i = T.1 157 q
      · subst y
        rw [q_Tu_ne (by omega), q_Tu_eq, am_u_ne (by omega), am_u_ne (by omega), am_u_eq, am_u_ne (by omega), am_u_eq]
        exact ⟨congrArg nI (by omega), congrArg nI (by omega)⟩
      · rw [q_Tu_ne (by omega), q_Tu_ne (by omega), am_u_ne (by omega), am_u_ne (by omega), am_u_ne (by omega), am_u_ne (by omega), am_u_ne (by omega), am_u_ne (by omega)]
        exact d7 i (by omega)
    · rw [q_Tu_ne (by omega), q_Tu_ne (by omega)] at hi
      have hb := hb9 q
      rw [q_Tu_ne (by omega), q_Tu_ne (by omega), am_u_ne (by omega), am_u_ne (by omega), am_u_ne (by omega), am_u_ne (by omega), am_u_ne (by omega), am_u_ne (by omega)]
      exact d7 i hi
/-- how an office stands there: its steps and their numbers -/
def q_stp (x : Nat) : Nat × Nat := if 3 ≤ x then (3 * ((x - 3) / 300) + (x - 3) / 100 % 3, (x - 3) % 100) else (18 + x, 0)
def q_sts : List q_Cl → List (Nat × Nat)
  | [] => []
  | cl :: l => if cl.1 < 2 then cl.2.2.map q_stp ++ (21 + cl.1, cl.2.1) :: q_sts l else q_sts l
def q_Ro (T : q_T) (m : am_Mm) : Prop := ∀ j o, T.2.1[j]? = some o → m.1 (123 + 3 * j) 0 = nI (kno o 3) ∧ (m.1 (123 + 3 * j) 3 = nI (q_sts o).length ∧ ((q_sts o).length ≤ 100 ∧ ∀ i s, (q_sts o)[i]? = some s → m.1 (123 + 3 * j + 1) i = nI s.1 ∧ m.1 (123 + 3 * j + 2) i = nI s.2))
theorem shO {j : Nat} (h : j < 6) : am_sh[123 + 3 * j]? = some (.inr (.inr (3, [(0, .null), (3, .ref (123 + 3 * j + 1)), (3, .ref (123 + 3 * j + 2)), (0, .null)]))) := by
  rcases q_p6 h with rfl | rfl | rfl | rfl | rfl | rfl <;> rfl
theorem shOs {j : Nat} (h : j < 6) : am_sh[123 + 3 * j + 1]? = some (.inl (.int, 100)) := by
  rcases q_p6 h with rfl | rfl | rfl | rfl | rfl | rfl <;> rfl
theorem shOn {j : Nat} (h : j < 6) : am_sh[123 + 3 * j + 2]? = some (.inl (.int, 100)) := by
  rcases q_p6 h with rfl | rfl | rfl | rfl | rfl | rfl <;> rfl
theorem q_Ro.eq {T T' : q_T} {m m' : am_Mm} (h : q_Ro T m) (hm : ∀ c, 123 ≤ c → c < 141 → m'.1 c = m.1 c) (hT : T'.2.1 = T.2.1) (hl : T.2.1.length ≤ 6) : q_Ro T' m' := by
  intro j o ho
  rw [hT] at ho
  have hj : j < T.2.1.length := (List.getElem?_eq_some_iff.mp ho).1
  obtain ⟨a, b, c, d⟩ := h j o ho
  rw [hm (123 + 3 * j) (by omega) (by omega), hm (123 + 3 * j + 1) (by omega) (by omega), hm (123 + 3 * j + 2) (by omega) (by omega)]
  exact ⟨a, b, c, d⟩
theorem q_Ro.fl {b : Nat} {T : q_T} {m m' : am_Mm} (h : q_Ro T m) (hf : q_Fl b m m') (hb : b + 30 ≤ 123) (hl : T.2.1.length ≤ 6) : q_Ro T m' := h.eq (fun c c1 c2 => hf.1 c (by omega)) rfl hl
