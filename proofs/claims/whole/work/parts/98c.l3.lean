theorem s_of (T : q_T) (d u : Int32) : (f_of T d u).2 = T := by
  simp only [f_of, apply_ite Prod.snd, ite_self]
theorem i_of {T : q_T} (h : q_Kp T) (d u : Int32) : q_Kp (f_of T d u).2 := by
  rw [s_of]
  exact h
theorem s_sheet (T : q_T) (d i : Int32) : (f_sheet T d i).2 = T := by
  simp only [f_sheet, apply_ite Prod.snd, ite_self]
theorem i_sheet {T : q_T} (h : q_Kp T) (d i : Int32) : q_Kp (f_sheet T d i).2 := by
  rw [s_sheet]
  exact h
theorem s_told (T : q_T) (u : Int32) : (f_told T u).2 = T := by
  simp only [f_told, apply_ite Prod.snd, ite_self]
theorem i_told {T : q_T} (h : q_Kp T) (u : Int32) : q_Kp (f_told T u).2 := by
  rw [s_told]
  exact h
theorem s_on (T : q_T) (n u : Int32) : (f_on T n u).2 = T := by
  simp only [f_on, apply_ite Prod.snd, ite_self]
theorem i_on {T : q_T} (h : q_Kp T) (n u : Int32) : q_Kp (f_on T n u).2 := by
  rw [s_on]
  exact h
theorem s_best (T : q_T) (n u : Int32) : (f_best T n u).2 = T := by
  simp only [f_best, apply_ite Prod.snd, ite_self]
theorem i_best {T : q_T} (h : q_Kp T) (n u : Int32) : q_Kp (f_best T n u).2 := by
  rw [s_best]
  exact h
theorem s_can (T : q_T) (d u : Int32) : (f_can T d u).2 = T := by
  simp only [f_can, apply_ite Prod.snd, ite_self]
theorem i_can {T : q_T} (h : q_Kp T) (d u : Int32) : q_Kp (f_can T d u).2 := by
  rw [s_can]
  exact h
theorem s_odds (T : q_T) (d n u : Int32) : (f_odds T d n u).2 = T := by
  simp only [f_odds, apply_ite Prod.snd, ite_self]
theorem i_odds {T : q_T} (h : q_Kp T) (d n u : Int32) : q_Kp (f_odds T d n u).2 := by
  rw [s_odds]
  exact h
theorem s_mean (T : q_T) (n u : Int32) : (f_mean T n u).2 = T := by
  simp only [f_mean, apply_ite Prod.snd, ite_self]
theorem i_mean {T : q_T} (h : q_Kp T) (n u : Int32) : q_Kp (f_mean T n u).2 := by
  rw [s_mean]
  exact h
theorem s_ends (T : q_T) (u : Int32) : (f_ends T u).2 = T := by
  simp only [f_ends, apply_ite Prod.snd, ite_self]
theorem i_ends {T : q_T} (h : q_Kp T) (u : Int32) : q_Kp (f_ends T u).2 := by
  rw [s_ends]
  exact h
theorem s_looked (T : q_T) : (f_looked T).2 = T := by
  simp only [f_looked, apply_ite Prod.snd, ite_self]
theorem i_looked {T : q_T} (h : q_Kp T) : q_Kp (f_looked T).2 := by
  rw [s_looked]
  exact h
theorem s_judge (T : q_T) (t i : Int32) : (f_judge T t i).2 = T := by
  simp only [f_judge, apply_ite Prod.snd, ite_self]
theorem i_judge {T : q_T} (h : q_Kp T) (t i : Int32) : q_Kp (f_judge T t i).2 := by
  rw [s_judge]
  exact h
theorem s_trace (T : q_T) (i : Int32) : (f_trace T i).2 = T := by
  simp only [f_trace, apply_ite Prod.snd, ite_self]
theorem i_trace {T : q_T} (h : q_Kp T) (i : Int32) : q_Kp (f_trace T i).2 := by
  rw [s_trace]
  exact h
theorem s_taken (T : q_T) (d k : Int32) : (f_taken T d k).2 = T := by
  simp only [f_taken, apply_ite Prod.snd, ite_self]
theorem i_taken {T : q_T} (h : q_Kp T) (d k : Int32) : q_Kp (f_taken T d k).2 := by
  rw [s_taken]
  exact h
theorem s_count (T : q_T) (a : Int32) : (f_count T a).2 = T := by
  simp only [f_count, apply_ite Prod.snd, ite_self]
theorem i_count {T : q_T} (h : q_Kp T) (a : Int32) : q_Kp (f_count T a).2 := by
  rw [s_count]
  exact h
theorem s_read (T : q_T) (t i : Int32) : (f_read T t i).2 = T := by
  simp only [f_read, apply_ite Prod.snd, ite_self]
theorem i_read {T : q_T} (h : q_Kp T) (t i : Int32) : q_Kp (f_read T t i).2 := by
  rw [s_read]
  exact h
theorem q_m0_Rm : q_Rm q_T0 q_m0 := by
  refine ⟨fun c k hv => ?_, ⟨Nat.zero_le _, rfl, 0, Nat.le_refl _, rfl, fun j o h => by cases h⟩, fun t i _ _ => rfl⟩
  by_cases h1 : c = 162
  · subst h1
    rfl
  · by_cases h2 : c = 182
    · subst h2
      show (-1 : Int32) = nI 0 - 1
      decide
    · by_cases h3 : c = 153 ∧ k = 19
      · obtain ⟨rfl, rfl⟩ := h3
        decide
      · by_cases h4 : c = 179 ∧ k = 181
        · obtain ⟨rfl, rfl⟩ := h4
          decide
        · have hc : 153 ≤ c := by
            by_cases e : 153 ≤ c
            · exact e
            · exfalso
              have h1 := e
              unfold q_vd at hv
              split at hv <;> first | omega | cases hv
          show (if c = 2 ∨ c = 32 ∨ c = 62 ∨ c = 162 then nI (k % 8) else if c = 182 ∨ (c = 153 ∧ k = 19) ∨ ((c = 1 ∨ c = 31 ∨ c = 61) ∧ k = 3) ∨ (c = 117 ∧ k = 4) ∨ ((c = 141 ∨ c = 143 ∨ c = 145 ∨ c = 147 ∨ c = 149 ∨ c = 151) ∧ k = 0) then -1 else if (c = 123 ∨ c = 126 ∨ c = 129 ∨ c = 132 ∨ c = 135 ∨ c = 138) ∧ k = 0 then 3 else (0 : Int32)) = q_enc c k (if c = 162 then k % 8 else if c = 179 ∧ k = 181 then 1 else 0)
          rw [if_neg (by omega), if_neg (by omega), if_neg (by omega), if_neg h1, if_neg h4]
          unfold q_enc
          rw [if_neg (by omega)]
          rfl
theorem q_m0_Rc : q_Rc q_T0 q_m0 := by
  refine ⟨⟨rfl, rfl, rfl, rfl, fun c _ => rfl, fun p hp => absurd hp (Nat.not_lt_zero _)⟩, (fun j o h => by cases h), ⟨rfl, fun i hi => absurd hi (Nat.not_lt_zero _), rfl, fun i hi => absurd hi (Nat.not_lt_zero _), rfl, fun i hi => absurd hi (Nat.not_lt_zero _)⟩, ⟨rfl, rfl, fun i hi => absurd hi (Nat.not_lt_zero _), rfl, fun i _ hi => absurd hi (Nat.not_lt_zero _), rfl, fun t ht => ?_⟩, fun h => absurd (show 0 = 1 from h) (by omega)⟩
  rcases q_p6 ht with rfl | rfl | rfl | rfl | rfl | rfl <;> exact ⟨by decide, rfl, fun i _ => rfl⟩
theorem q_B_pos (c k : Nat) : 1 < q_B c k := by
  unfold q_B
  repeat' split
  all_goals omega
theorem q_T0_Bd : q_Bd q_T0 := by
  intro c k
  show (if c = 162 then k % 8 else if c = 179 ∧ k = 181 then 1 else 0) < q_B c k
  have h := q_B_pos c k
  by_cases e : c = 162
  · subst e
    rw [if_pos rfl]
    show k % 8 < 8
    omega
  · rw [if_neg e]
    split <;> omega
theorem q_T0_Kp : q_Kp q_T0 := ⟨⟨⟨⟨q_T0_Bd, ⟨Nat.zero_le _, fun o ho => by cases ho⟩, fun o ho => (by cases ho), Nat.zero_le _, fun i => Nat.zero_le _⟩, Nat.zero_le _, fun i hi => absurd hi (Nat.not_lt_zero _), fun i hi => absurd hi (Nat.not_lt_zero _)⟩, fun h => absurd (show 0 = 1 from h) (by omega)⟩, fun t ht h => rfl⟩
theorem q_J.Pl {T : q_T} (h : q_J T) : q_Pl T := fun k hk ha => by
  have b0 : T.1 153 0 < 7 := h.1.1 153 0
  have := h.2.2.2 k hk ha
  omega
theorem lw_nx {T : q_T} {m1 m2 : am_Mm} (hC : q_Rc T m1) (hG : q_FC m1 m2) (hK : q_Kp T) : q_Rc T m2 := hC.FC hG hK.1.1.1.1 (fun h => (hK.1.2 h).1.1) hK.1.1.2.1
theorem lg_cmp_self (x : Int64) : lg_cmp x x = 0 := by
  unfold lg_cmp
  rw [if_neg Int64.lt_irrefl, if_pos rfl]
