theorem i_dT {T : q_T} (h : q_Kp T) {x y z : Nat} (h6 : T.1 153 0 < 6) (hx : x < 7) (hy : y < 10) (hz : z < 16) : q_Kp (q_dT T x y z) := by
  have hB := h.1.1.1.1
  have e0 : (q_dT T x y z).1 153 0 = T.1 153 0 + 1 := q_Tu_eq
  have eo : ∀ c k, (c = 153 ∧ k ≠ 0) ∨ 162 ≤ c → (q_dT T x y z).1 c k = T.1 c k := fun c k hc => (q_Tu_ne (by omega)).trans ((q_Tu_ne (by omega)).trans ((q_Tu_ne (by omega)).trans ((q_Tu_ne (by omega)).trans ((q_Tu_ne (by omega)).trans ((q_Tu_ne (by omega)).trans ((q_Tu_ne (by omega)).trans ((q_Tu_ne (by omega)).trans ((q_Tu_ne (by omega)).trans ((q_Tu_ne (by omega)).trans (q_Tu_ne (by omega)))))))))))
  have e9 : ∀ i, (q_dT T x y z).1 159 i ≤ 9999 := fun i => by
    by_cases e : i = T.1 153 0
    · subst e
      rw [show (q_dT T x y z).1 159 (T.1 153 0) = 0 from (q_Tu_ne (by omega)).trans ((q_Tu_ne (by omega)).trans ((q_Tu_ne (by omega)).trans ((q_Tu_ne (by omega)).trans ((q_Tu_ne (by omega)).trans (q_Tu_eq)))))]
      omega
    · rw [show (q_dT T x y z).1 159 i = T.1 159 i from (q_Tu_ne (by omega)).trans ((q_Tu_ne (by omega)).trans ((q_Tu_ne (by omega)).trans ((q_Tu_ne (by omega)).trans ((q_Tu_ne (by omega)).trans ((q_Tu_ne (by omega)).trans ((q_Tu_ne (by omega)).trans ((q_Tu_ne (by omega)).trans ((q_Tu_ne (by omega)).trans ((q_Tu_ne (by omega)).trans (q_Tu_ne (by omega)))))))))))]
      exact h.1.1.1.2.2.2.2 i
  have hBd : q_Bd (q_dT T x y z) := ((((((((((hB.u (show x < 7 by omega)).u (show y < 10 by omega)).u (show z < 16 by omega)).u (show 0 < 9 by omega)).u (show 0 < 2 by omega)).u (show 0 < 2 ^ 40 by omega)).u (show 0 < 10 by omega)).u (show 0 < 10 by omega)).u (show 0 < 10 by omega)).u (show 0 < 10 by omega)).u (show T.1 153 0 + 1 < 7 by omega)
  have hA := q_dT_Ag (x := x) (y := y) (z := z) h6
  obtain ⟨⟨⟨⟨-, hO, hV, hr, hd⟩, g6, gS, gP⟩, hu⟩, hTp⟩ := h
  refine ⟨⟨⟨⟨hBd, ?_, hV, ?_, e9⟩, g6, fun i hi => ?_, fun i hi ha => ?_⟩, fun h40 => ?_⟩, fun t ht hz => ?_⟩
  · unfold q_Bo
    rw [eo 153 19 (by omega)]
    exact hO
  · rw [eo 153 11 (by omega)]
    exact hr
  · rw [eo 153 28 (by omega)] at hi
    rw [eo 171 i (by omega), e0]
    exact Nat.lt_succ_of_lt (gS i hi)
  · rw [eo 153 32 (by omega)] at hi
    rw [eo 174 i (by omega)] at ha
    rw [eo 175 i (by omega), e0]
    exact Nat.lt_succ_of_lt (gP i hi ha)
  · rw [eo 153 40 (by omega)] at h40
    rw [q_und_ag hA]
    exact hu h40
  · rw [eo 182 t (by omega)] at hz
    rw [eo 183 t (by omega)]
    exact hTp t ht hz
theorem i_drawer {T : q_T} (h : q_Kp T) (k v c : Int32) : q_Kp (f_drawer T k v c).2 := by
  have b0 : T.1 153 0 < 7 := h.1.1.1.1 153 0
  unfold f_drawer
  by_cases e : q_is k 7 = true ∧ q_is c 16 = true
  · rw [if_pos e]
    by_cases e1 : q_is v 10 = true
    · rw [if_pos e1]
      by_cases e2 : T.1 153 0 = 6
      · rw [if_pos e2]
        exact h
      · rw [if_neg e2]
        obtain ⟨x, hx, rfl⟩ := q_is_of e.1 (by omega)
        obtain ⟨z, hz, rfl⟩ := q_is_of e.2 (by omega)
        obtain ⟨y, hy, rfl⟩ := q_is_of e1 (by omega)
        rw [nI_clamp (show x < 2 ^ 31 by omega), nI_clamp (show y < 2 ^ 31 by omega), nI_clamp (show z < 2 ^ 31 by omega)]
        exact i_dT h (by omega) hx hy hz
    · rw [if_neg e1]
      exact h
  · rw [if_neg e]
    exact h
