def q_Tp (T : q_T) : Prop := ∀ t, t < 6 → T.1 182 t = 0 → T.1 183 t = 0
/-- what stays true from call to call -/
def q_Kp (T : q_T) : Prop := q_I T ∧ q_Tp T
theorem q_Kp.of {T T' : q_T} (h : q_Kp T) (hY : q_Y 0 T') (hA : q_Ag T T') (hT : ∀ c k, (171 ≤ c ∧ c ≤ 183) ∨ (c = 153 ∧ (k = 0 ∨ k = 28 ∨ k = 32 ∨ k = 40)) → T'.1 c k = T.1 c k) : q_Kp T' := by
  obtain ⟨⟨⟨-, h6, hS, hP⟩, hu⟩, hTp⟩ := h
  refine ⟨⟨⟨hY, by rw [hA.1]; exact h6, fun i hi => ?_, fun i hi ha => ?_⟩, fun h40 => ?_⟩, fun t ht hz => ?_⟩
  · rw [hT 153 28 (by omega)] at hi
    rw [hT 171 i (by omega), hT 153 0 (by omega)]
    exact hS i hi
  · rw [hT 153 32 (by omega)] at hi
    rw [hT 174 i (by omega)] at ha
    rw [hT 175 i (by omega), hT 153 0 (by omega)]
    exact hP i hi ha
  · rw [hT 153 40 (by omega)] at h40
    rw [q_und_ag hA]
    exact hu h40
  · rw [hT 182 t (by omega)] at hz
    rw [hT 183 t (by omega)]
    exact hTp t ht hz
theorem q_Kp.u {T : q_T} (h : q_Kp T) {c k x : Nat} (hc : 154 ≤ c ∧ c ≤ 162 ∧ c ≠ 159) (hx : x < q_B c k) (hp : q_pi c k < 182) : q_Kp (q_Tu T c k x) := h.of (h.1.1.1.u hx (by omega) (by omega)) (q_Ag.rf.u hp) (fun c' k' hc' => q_Tu_ne (by omega))
theorem i_put {T : q_T} (h : q_Kp T) (d c : Int32) : q_Kp (f_put T d c).2 := by
  have b0 : T.1 153 0 < 7 := h.1.1.1.1 153 0
  unfold f_put
  split
  · rename_i e
    obtain ⟨p, hp, rfl⟩ := q_is_of e.1 (by omega)
    obtain ⟨j, hj, rfl⟩ := q_is_of e.2 (by omega)
    rw [nI_clamp (show p < 2 ^ 31 by omega), nI_clamp (show j < 2 ^ 31 by omega)]
    exact h.u (by omega) (show j < 16 by omega) (by rw [q_pi_156 (by omega)]; omega)
  · exact h
theorem i_anew {T : q_T} (h : q_Kp T) (d : Int32) : q_Kp (f_anew T d).2 := by
  have b0 : T.1 153 0 < 7 := h.1.1.1.1 153 0
  unfold f_anew
  split
  · rename_i e
    obtain ⟨p, hp, rfl⟩ := q_is_of e (by omega)
    rw [nI_clamp (show p < 2 ^ 31 by omega)]
    exact (h.u (c := 157) (by omega) (show 0 < 9 by omega) (by rw [q_pi_157 (by omega)]; omega)).u (by omega) (show 0 < 2 by omega) (by rw [q_pi_158 (by omega)]; omega)
  · exact h
theorem i_mark {T : q_T} (h : q_Kp T) (c n : Int32) : q_Kp (f_mark T c n).2 := by
  unfold f_mark
  split
  · rename_i e
    split
    · rename_i e2
      obtain ⟨p, hp, rfl⟩ := q_is_of e (by omega)
      obtain ⟨j, hj, rfl⟩ := q_is_of e2 (by omega)
      rw [nI_clamp (show p < 2 ^ 31 by omega), nI_clamp (show j < 2 ^ 31 by omega)]
      exact h.u (by omega) (show j < 8 by omega) (by rw [q_pi_162 (by omega)]; omega)
    · exact h
  · exact h
theorem i_row {T : q_T} (h : q_Kp T) (d p n : Int32) : q_Kp (f_row T d p n).2 := by
  have b0 : T.1 153 0 < 7 := h.1.1.1.1 153 0
  unfold f_row
  split
  · rename_i e
    split
    · rename_i e2
      split
      · obtain ⟨d, hd, rfl⟩ := q_is_of e.1 (by omega)
        obtain ⟨p, hp, rfl⟩ := q_is_of e.2 (by omega)
        obtain ⟨j, hj, rfl⟩ := q_is_of e2 (by omega)
        rw [nI_clamp (show p < 2 ^ 31 by omega), nI_clamp (show j < 2 ^ 31 by omega), nI_clamp (show d < 2 ^ 31 by omega)]
        exact h.u (by omega) (show j < 10 by omega) (by rw [q_pi_161 (by omega)]; omega)
      · exact h
    · exact h
  · exact h
theorem f_cgh_hi {T : q_T} (hY : q_Y 0 T) {c k : Nat} (hc : (171 ≤ c ∧ c ≤ 183) ∨ (c = 153 ∧ (k = 0 ∨ k = 28 ∨ k = 32 ∨ k = 40))) : (f_cap (f_gh T)).1 c k = T.1 c k := by
  refine Eq.trans ?_ ((f_gh_As hY (by omega)).2.1 c k (by omega) (by omega))
  show (if c = 159 then q_cap (f_gh T) ((f_gh T).1 153 0) k else (f_gh T).1 c k) = (f_gh T).1 c k
  exact if_neg (by omega)
theorem i_pn : ∀ (n : Nat) (T : q_T), q_Kp T → T.1 153 11 + n ≤ 9999 → q_Kp (f_pn n T) := by
  intro n
  induction n with
  | zero => exact fun _ h _ => h
  | succ n ih =>
    intro T h hn
    have hY := h.1.1.1
    have b0 : (f_gh T).1 153 0 < 7 := by rw [f_gh_n]; exact hY.1 153 0
    rw [f_pn]
    refine ih _ (h.of (f_cap_Y hY (by omega)) ((f_gh_As hY (by omega)).Ag.tr (f_cap_Ag b0)) (fun c k hc => f_cgh_hi hY hc)) ?_
    rw [show (f_cap (f_gh T)).1 153 11 = (f_gh T).1 153 11 from (show (if 153 = 159 then q_cap (f_gh T) ((f_gh T).1 153 0) 11 else (f_gh T).1 153 11) = _ from if_neg (by omega)), f_gh_hour hY (by omega)]
    omega
theorem i_pass {T : q_T} (h : q_Kp T) (n : Int32) : q_Kp (f_pass T n).2 := by
  unfold f_pass
  split
  · split
    · rename_i e
      exact i_pn _ T h e
    · exact h
  · exact h
/-- what the tapes, the text and the trace do not touch -/
theorem q_Kp.x {T T' : q_T} (h : q_Kp T) (hB : q_Bd T') (h21 : T'.2.1 = T.2.1) (hT : ∀ c k, (154 ≤ c ∧ c ≤ 162) ∨ (171 ≤ c ∧ c ≤ 177) ∨ c = 179 ∨ (c = 153 ∧ k ≠ 12 ∧ k ≠ 38) → T'.1 c k = T.1 c k) (hp : q_Tp T') : q_Kp T' := by
  obtain ⟨⟨⟨hY, h6, hS, hP⟩, hu⟩, -⟩ := h
  have eu : ∀ c k, (154 ≤ c ∧ c ≤ 162) ∨ (171 ≤ c ∧ c ≤ 177) ∨ c = 179 ∨ (c = 153 ∧ k ≠ 12 ∧ k ≠ 38) → (q_und T').1 c k = (q_und T).1 c k := fun c k hc => by
    show (if q_pi c k < 182 then T'.1 179 (q_pi c k) else T'.1 c k) = if q_pi c k < 182 then T.1 179 (q_pi c k) else T.1 c k
    rw [hT 179 _ (by omega), hT c k hc]
  have key : ∀ U U' : q_T, q_J U → q_Bd U' → U'.2.1 = U.2.1 → (∀ c k, (154 ≤ c ∧ c ≤ 162) ∨ (171 ≤ c ∧ c ≤ 177) ∨ c = 179 ∨ (c = 153 ∧ k ≠ 12 ∧ k ≠ 38) → U'.1 c k = U.1 c k) → q_J U' := by
    intro U U' hJ hB' e21 e
    obtain ⟨⟨-, hO, hV, hr, hd⟩, g6, gS, gP⟩ := hJ
    refine ⟨⟨hB', ?_, ?_, ?_, fun i => ?_⟩, by rw [e21]; exact g6, fun i hi => ?_, fun i hi ha => ?_⟩
    · unfold q_Bo
      rw [e21, e 153 19 (by omega)]
      exact hO
    · unfold q_Bv
      rw [e21]
      exact hV
    · rw [e 153 11 (by omega)]
      exact hr
    · rw [e 159 i (by omega)]
      exact hd i
    · rw [e 153 28 (by omega)] at hi
      rw [e 171 i (by omega), e 153 0 (by omega)]
      exact gS i hi
    · rw [e 153 32 (by omega)] at hi
      rw [e 174 i (by omega)] at ha
      rw [e 175 i (by omega), e 153 0 (by omega)]
      exact gP i hi ha
  refine ⟨⟨key T T' ⟨hY, h6, hS, hP⟩ hB h21 hT, fun h40 => ?_⟩, hp⟩
  rw [hT 153 40 (by omega)] at h40
  refine key (q_und T) (q_und T') (hu h40) (fun c k => ?_) h21 eu
  show (if q_pi c k < 182 then T'.1 179 (q_pi c k) else T'.1 c k) < q_B c k
  split
  · rename_i e
    rw [hT 179 _ (by omega)]
    have z := (hu h40).1.1 c k
    rw [show (q_und T).1 c k = T.1 179 (q_pi c k) from if_pos e] at z
    exact z
  · exact hB c k
theorem i_feed {T : q_T} (h : q_Kp T) (s : Int32) : q_Kp (f_feed T s).2 := by
  have b12 : T.1 153 12 < 101 := h.1.1.1.1 153 12
  unfold f_feed
  split
  · rename_i e
    split
    · exact h
    · obtain ⟨j, hj, rfl⟩ := q_is_of e (by omega)
      rw [nI_clamp (show j < 2 ^ 31 by omega)]
      exact h.x ((h.1.1.1.1.u (show T.1 153 12 + 1 < 101 by omega)).u (show j < 128 by omega)) rfl (fun c k hc => (q_Tu_ne (by omega)).trans (q_Tu_ne (by omega))) (fun t ht hz => by
        rw [show (q_Tu (q_Tu T 153 12 (T.1 153 12 + 1)) 163 (T.1 153 12) j).1 183 t = T.1 183 t from (q_Tu_ne (by omega)).trans (q_Tu_ne (by omega))]
        exact h.2 t ht (((q_Tu_ne (by omega)).trans (q_Tu_ne (by omega))).symm.trans hz))
  · exact h
theorem i_item {T : q_T} (h : q_Kp T) (t i : Int32) (v : Int64) : q_Kp (f_item T t i v).2 := by
  unfold f_item
  split
  · split
    · split
      · exact h.x h.1.1.1.1 rfl (fun c k hc => rfl) h.2
      · exact h
    · exact h
  · exact h
theorem i_shift {T : q_T} (h : q_Kp T) (t i o j n : Int32) : q_Kp (f_shift T t i o j n).2 := by
  unfold f_shift
  split
  · split
    · split
      · split
        · exact h
        · exact h.x h.1.1.1.1 rfl (fun c k hc => rfl) h.2
      · exact h
    · exact h
  · exact h
theorem i_undo {T : q_T} (h : q_Kp T) : q_Kp (f_undo T).2 := by
  unfold f_undo
  split
  · exact h
  · rename_i e
    have b40 : T.1 153 40 < 2 := h.1.1.1.1 153 40
    have h1 := h.1.2 (by omega)
    refine ⟨⟨h1, fun _ => ?_⟩, fun t ht hz => ?_⟩
    · rw [und_und]
      exact h1
    · have hz' : (q_und T).1 182 t = 0 := hz
      rw [und_x (by omega)] at hz'
      show (q_und T).1 183 t = 0
      rw [und_x (by omega)]
      exact h.2 t ht hz'
