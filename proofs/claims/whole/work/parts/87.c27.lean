theorem q_J.of {T T' : q_T} (h : q_J T) (hB : q_Bd T') (h2 : T'.2.1 = T.2.1) (e : ∀ c k, c = 159 ∨ c = 171 ∨ c = 174 ∨ c = 175 ∨ (c = 153 ∧ (k = 0 ∨ k = 11 ∨ k = 19 ∨ k = 28 ∨ k = 32)) → T'.1 c k = T.1 c k) : q_J T' := by
  obtain ⟨⟨-, hO, hV, hr, hd⟩, g6, gS, gP⟩ := h
  refine ⟨⟨hB, ?_, ?_, ?_, fun i => ?_⟩, by rw [h2]; exact g6, fun i hi => ?_, fun i hi ha => ?_⟩
  · unfold q_Bo
    rw [h2, e 153 19 (by omega)]
    exact hO
  · unfold q_Bv
    rw [h2]
    exact hV
  · rw [e 153 11 (by omega)]
    exact hr
  · rw [e 159 i (by omega)]
    exact hd i
  · rw [e 153 28 (by omega)] at hi
    rw [e 171 i (by omega), e 153 0 (by omega)]
    exact gS i hi
  · rw [e 153 32 (by omega)] at hi
    rw [e 174 i (by omega)] at ha
    rw [e 175 i (by omega), e 153 0 (by omega)]
    exact gP i hi ha
theorem q_B_le (c k : Nat) : q_B c k ≤ 2 ^ 40 := by
  unfold q_B
  split <;> first | decide | (split <;> decide)
theorem i_image {T : q_T} (h : q_Kp T) : q_Kp (f_image T).2 := by
  have hB := h.1.1.1.1
  show q_Kp (q_im (q_Tu T 153 40 1))
  have b9 : ∀ k, (q_im (q_Tu T 153 40 1)).1 179 k < 2 ^ 40 := fun k => by
    show (if 179 = 179 ∧ k < 182 then (q_Tu T 153 40 1).1 (q_kp k).1 (q_kp k).2 else (q_Tu T 153 40 1).1 179 k) < 2 ^ 40
    have hB1 := hB.u (c := 153) (k := 40) (x := 1) (show 1 < 2 by omega)
    split
    · exact Nat.lt_of_lt_of_le (hB1 _ _) (q_B_le _ _)
    · exact Nat.lt_of_lt_of_le (hB1 179 k) (q_B_le _ _)
  have hB2 : q_Bd (q_im (q_Tu T 153 40 1)) := fun c k => by
    by_cases e : c = 179
    · subst e
      exact b9 k
    · by_cases f : c = 153 ∧ k = 40
      · obtain ⟨rfl, rfl⟩ := f
        rw [im_40]
        show 1 < 2
        omega
      · rw [im_o e f]
        exact hB c k
  refine ⟨⟨h.1.1.of hB2 rfl (fun c k hc => im_o (by omega) (by omega)), fun _ => h.1.1.of (fun c k => ?_) rfl (fun c k hc => und_im (by omega) (by omega))⟩, fun t ht hz => ?_⟩
  · by_cases e : c = 179
    · subst e
      rw [und_o (show q_pi 179 k = 999 from rfl)]
      exact b9 k
    · by_cases f : c = 153 ∧ k = 40
      · obtain ⟨rfl, rfl⟩ := f
        rw [und_x (by omega), im_40]
        show 1 < 2
        omega
      · rw [und_im e f]
        exact hB c k
  · rw [im_o (by omega) (by omega)] at hz
    rw [im_o (by omega) (by omega)]
    exact h.2 t ht hz
theorem q_Kp.h {T T' : q_T} (h : q_Kp T) (hB : q_Bd T') (hA : q_Ag T T') (hT : ∀ c k, ¬ (171 ≤ c ∧ c ≤ 177) → ¬ (c = 153 ∧ (k = 28 ∨ k = 32 ∨ k = 35)) → T'.1 c k = T.1 c k) (hS : q_Sd T') (hP : q_Pd T') : q_Kp T' := by
  obtain ⟨⟨⟨⟨-, hO, hV, hr, hd⟩, h6, -, -⟩, hu⟩, hTp⟩ := h
  refine ⟨⟨⟨⟨hB, ?_, ?_, ?_, fun i => ?_⟩, by rw [hA.1]; exact h6, hS, hP⟩, fun h40 => ?_⟩, fun t ht hz => ?_⟩
  · unfold q_Bo
    rw [hA.1, hT 153 19 (by omega) (by omega)]
    exact hO
  · unfold q_Bv
    rw [hA.1]
    exact hV
  · rw [hT 153 11 (by omega) (by omega)]
    exact hr
  · rw [hT 159 i (by omega) (by omega)]
    exact hd i
  · rw [hT 153 40 (by omega) (by omega)] at h40
    rw [q_und_ag hA]
    exact hu h40
  · rw [hT 182 t (by omega) (by omega)] at hz
    rw [hT 183 t (by omega) (by omega)]
    exact hTp t ht hz
theorem i_book {T : q_T} (h : q_Kp T) (c k : Int32) : q_Kp (f_book T c k).2 := by
  have hB := h.1.1.1.1
  have b35 : T.1 153 35 < 9 := hB 153 35
  unfold f_book
  split
  · exact h.h (hB.u (show 0 < 9 by omega)) (q_Ag.rf.u (by decide)) (fun c k h1 h2 => q_Tu_ne (by omega)) (fun i hi => h.1.1.2.2.1 i hi) (fun i hi ha => h.1.1.2.2.2 i hi ha)
  · split
    · rename_i e1
      split
      · rename_i e2
        split
        · exact h
        · obtain ⟨c, hc, rfl⟩ := q_is_of e1 (by omega)
          obtain ⟨k, hk, rfl⟩ := q_is_of e2 (by omega)
          rw [nI_clamp (show c < 2 ^ 31 by omega), nI_clamp (show k < 2 ^ 31 by omega)]
          have eT : ∀ c' k', ¬ (c' = 176 ∨ c' = 177) → ¬ (c' = 153 ∧ k' = 35) → (q_Tu (q_Tu (q_Tu T 176 (T.1 153 35) c) 153 35 (T.1 153 35 + 1)) 177 (T.1 153 35) k).1 c' k' = T.1 c' k' := fun c' k' x y => (q_Tu_ne (by omega)).trans ((q_Tu_ne (by omega)).trans (q_Tu_ne (by omega)))
          refine h.h (((hB.u (show c < 16 by omega)).u (show T.1 153 35 + 1 < 9 by omega)).u (show k < 8 by omega)) (((q_Ag.rf.u (by rw [q_pi_176 (by omega)]; omega)).u (by decide)).u (by rw [q_pi_177 (by omega)]; omega)) (fun c' k' x y => eT c' k' (by omega) (by omega)) (fun i hi => ?_) (fun i hi ha => ?_)
          · rw [eT 153 28 (by omega) (by omega)] at hi
            rw [eT 171 i (by omega) (by omega), eT 153 0 (by omega) (by omega)]
            exact h.1.1.2.2.1 i hi
          · rw [eT 153 32 (by omega) (by omega)] at hi
            rw [eT 174 i (by omega) (by omega)] at ha
            rw [eT 175 i (by omega) (by omega), eT 153 0 (by omega) (by omega)]
            exact h.1.1.2.2.2 i hi ha
      · exact h
    · exact h
theorem i_see {T : q_T} (h : q_Kp T) (d n k : Int32) : q_Kp (f_see T d n k).2 := by
  have hB := h.1.1.1.1
  have b28 : T.1 153 28 < 6 := hB 153 28
  have b0 : T.1 153 0 < 7 := hB 153 0
  unfold f_see
  split
  · exact h.h (hB.u (show 0 < 6 by omega)) (q_Ag.rf.u (by decide)) (fun c k h1 h2 => q_Tu_ne (by omega)) (fun i hi => absurd hi (by rw [show (q_Tu T 153 28 0).1 153 28 = 0 from q_Tu_eq]; omega)) (fun i hi ha => h.1.1.2.2.2 i hi ha)
  · split
    · rename_i e0
      split
      · rename_i e1
        split
        · exact h
        · obtain ⟨d, hd, rfl⟩ := q_is_of e0 (by omega)
          obtain ⟨n, hn, rfl⟩ := q_is_of e1.1 (by omega)
          obtain ⟨k, hk, rfl⟩ := q_is_of e1.2 (by omega)
          rw [nI_clamp (show d < 2 ^ 31 by omega), nI_clamp (show n < 2 ^ 31 by omega), nI_clamp (show k < 2 ^ 31 by omega)]
          have eT : ∀ c' k', ¬ (171 ≤ c' ∧ c' ≤ 173) → ¬ (c' = 153 ∧ k' = 28) → (q_Tu (q_Tu (q_Tu (q_Tu T 171 (T.1 153 28) d) 172 (T.1 153 28) n) 153 28 (T.1 153 28 + 1)) 173 (T.1 153 28) k).1 c' k' = T.1 c' k' := fun c' k' x y => (q_Tu_ne (by omega)).trans ((q_Tu_ne (by omega)).trans ((q_Tu_ne (by omega)).trans (q_Tu_ne (by omega))))
          refine h.h ((((hB.u (show d < 6 by omega)).u (show n < 13 by omega)).u (show T.1 153 28 + 1 < 6 by omega)).u (show k < 8 by omega)) ((((q_Ag.rf.u (by rw [q_pi_171 (by omega)]; omega)).u (by rw [q_pi_172 (by omega)]; omega)).u (by decide)).u (by rw [q_pi_173 (by omega)]; omega)) (fun c' k' x y => eT c' k' (by omega) (by omega)) (fun i hi => ?_) (fun i hi ha => ?_)
          · rw [show (q_Tu (q_Tu (q_Tu (q_Tu T 171 (T.1 153 28) d) 172 (T.1 153 28) n) 153 28 (T.1 153 28 + 1)) 173 (T.1 153 28) k).1 153 28 = T.1 153 28 + 1 from (q_Tu_ne (by omega)).trans q_Tu_eq] at hi
            rw [eT 153 0 (by omega) (by omega)]
            by_cases e : i = T.1 153 28
            · subst e
              rw [show (q_Tu (q_Tu (q_Tu (q_Tu T 171 (T.1 153 28) d) 172 (T.1 153 28) n) 153 28 (T.1 153 28 + 1)) 173 (T.1 153 28) k).1 171 (T.1 153 28) = d from (q_Tu_ne (by omega)).trans ((q_Tu_ne (by omega)).trans ((q_Tu_ne (by omega)).trans q_Tu_eq))]
              exact hd
            · rw [show (q_Tu (q_Tu (q_Tu (q_Tu T 171 (T.1 153 28) d) 172 (T.1 153 28) n) 153 28 (T.1 153 28 + 1)) 173 (T.1 153 28) k).1 171 i = T.1 171 i from (q_Tu_ne (by omega)).trans ((q_Tu_ne (by omega)).trans ((q_Tu_ne (by omega)).trans (q_Tu_ne (by omega))))]
              exact h.1.1.2.2.1 i (by omega)
          · rw [eT 153 32 (by omega) (by omega)] at hi
            rw [eT 174 i (by omega) (by omega)] at ha
            rw [eT 175 i (by omega) (by omega), eT 153 0 (by omega) (by omega)]
            exact h.1.1.2.2.2 i hi ha
      · exact h
    · exact h
theorem i_plan {T : q_T} (h : q_Kp T) (a n : Int32) : q_Kp (f_plan T a n).2 := by
  have hB := h.1.1.1.1
  have b32 : T.1 153 32 < 11 := hB 153 32
  have b0 : T.1 153 0 < 7 := hB 153 0
  unfold f_plan
  by_cases em : a = -1
  · rw [if_pos em]
    exact h.h (hB.u (show 0 < 11 by omega)) (q_Ag.rf.u (by decide)) (fun c k h1 h2 => q_Tu_ne (by omega)) (fun i hi => h.1.1.2.2.1 i hi) (fun i hi ha => absurd hi (by rw [show (q_Tu T 153 32 0).1 153 32 = 0 from q_Tu_eq]; omega))
  · rw [if_neg em]
    by_cases e0 : q_pr T a n = true
    · rw [if_pos (q_pr_iff.mpr e0)]
      split
      · exact h
      · obtain ⟨j, hj, rfl, h12, hn⟩ := q_pr_of hB e0
        rw [nI_clamp (show j < 2 ^ 31 by omega)]
        have hv : (if j = 0 then 0 else n.toNatClampNeg) < 16 := by
          split
          · omega
          · rename_i z
            exact (hn z).2
        have hv2 : (j = 1 ∨ j = 2) → (if j = 0 then 0 else n.toNatClampNeg) < T.1 153 0 := fun z => by
          rw [if_neg (by omega)]
          exact h12 z
        generalize (if j = 0 then 0 else n.toNatClampNeg) = v at hv hv2
        have eT : ∀ c' k', ¬ (174 ≤ c' ∧ c' ≤ 175) → ¬ (c' = 153 ∧ k' = 32) → (q_Tu (q_Tu (q_Tu T 174 (T.1 153 32) j) 153 32 (T.1 153 32 + 1)) 175 (T.1 153 32) v).1 c' k' = T.1 c' k' := fun c' k' x y => (q_Tu_ne (by omega)).trans ((q_Tu_ne (by omega)).trans (q_Tu_ne (by omega)))
        refine h.h (((hB.u (show j < 4 by omega)).u (show T.1 153 32 + 1 < 11 by omega)).u (show v < 16 by omega)) (((q_Ag.rf.u (by rw [q_pi_174 (by omega)]; omega)).u (by decide)).u (by rw [q_pi_175 (by omega)]; omega)) (fun c' k' x y => eT c' k' (by omega) (by omega)) (fun i hi => ?_) (fun i hi ha => ?_)
        · rw [eT 153 28 (by omega) (by omega)] at hi
          rw [eT 171 i (by omega) (by omega), eT 153 0 (by omega) (by omega)]
          exact h.1.1.2.2.1 i hi
        · rw [show (q_Tu (q_Tu (q_Tu T 174 (T.1 153 32) j) 153 32 (T.1 153 32 + 1)) 175 (T.1 153 32) v).1 153 32 = T.1 153 32 + 1 from (q_Tu_ne (by omega)).trans q_Tu_eq] at hi
          rw [eT 153 0 (by omega) (by omega)]
          by_cases e : i = T.1 153 32
          · subst e
            rw [show (q_Tu (q_Tu (q_Tu T 174 (T.1 153 32) j) 153 32 (T.1 153 32 + 1)) 175 (T.1 153 32) v).1 174 (T.1 153 32) = j from (q_Tu_ne (by omega)).trans ((q_Tu_ne (by omega)).trans q_Tu_eq)] at ha
            rw [show (q_Tu (q_Tu (q_Tu T 174 (T.1 153 32) j) 153 32 (T.1 153 32 + 1)) 175 (T.1 153 32) v).1 175 (T.1 153 32) = v from q_Tu_eq]
            exact hv2 ha
          · rw [show (q_Tu (q_Tu (q_Tu T 174 (T.1 153 32) j) 153 32 (T.1 153 32 + 1)) 175 (T.1 153 32) v).1 174 i = T.1 174 i from (q_Tu_ne (by omega)).trans ((q_Tu_ne (by omega)).trans (q_Tu_ne (by omega)))] at ha
            rw [show (q_Tu (q_Tu (q_Tu T 174 (T.1 153 32) j) 153 32 (T.1 153 32 + 1)) 175 (T.1 153 32) v).1 175 i = T.1 175 i from (q_Tu_ne (by omega)).trans ((q_Tu_ne (by omega)).trans (q_Tu_ne (by omega)))]
            exact h.1.1.2.2.2 i (by omega) ha
    · rw [if_neg (fun z => e0 (q_pr_iff.mp z))]
      exact h
theorem i_tape {T : q_T} (h : q_Kp T) (t s n : Int32) : q_Kp (f_tape T t s n).2 := by
  have hB := h.1.1.1.1
  unfold f_tape
  split
  · rename_i e0
    split
    · rename_i e1
      split
      · exact h
      · rename_i e2
        obtain ⟨t, ht, rfl⟩ := q_is_of e0 (by omega)
        obtain ⟨j, hj, ej⟩ := q_is_of e1.1 (by omega)
        have e1b := e1.2
        rw [ej, nI_clamp (show j < 2 ^ 31 by omega)] at e1b e2
        rw [ej, nI_clamp (show j < 2 ^ 31 by omega), nI_clamp (show t < 2 ^ 31 by omega)]
        have hv : (if 0 < j then n.toNatClampNeg else 0) < 61 := by
          split
          · rename_i z
            obtain ⟨i, hi, rfl⟩ := nI_of (x := n) (fun q => e2 ⟨z, q⟩)
            rw [nI_clamp hi]
            have := (nI_leI (a := i) (b := 60) hi (by omega)).mp (Int32.not_lt.mp (fun q => e1b ⟨z, q⟩))
            omega
          · omega
        have hv0 : j = 0 → (if 0 < j then n.toNatClampNeg else 0) = 0 := fun z => if_neg (by omega)
        generalize (if 0 < j then n.toNatClampNeg else 0) = v at hv hv0
        refine h.x ((hB.u (show j < 6 by omega)).u (show v < 61 by omega)) rfl (fun c k hc => (q_Tu_ne (T := q_Tu T 182 t j) (by omega)).trans (q_Tu_ne (by omega))) (fun t' ht' hz => ?_)
        have hz' : (q_Tu (q_Tu T 182 t j) 183 t v).1 182 t' = 0 := hz
        show (q_Tu (q_Tu T 182 t j) 183 t v).1 183 t' = 0
        rw [show (q_Tu (q_Tu T 182 t j) 183 t v).1 182 t' = (q_Tu T 182 t j).1 182 t' from q_Tu_ne (by omega)] at hz'
        by_cases e : t' = t
        · subst e
          rw [q_Tu_eq] at hz' ⊢
          exact hv0 hz'
        · rw [show (q_Tu T 182 t j).1 182 t' = T.1 182 t' from q_Tu_ne (by omega)] at hz'
          rw [show (q_Tu (q_Tu T 182 t j) 183 t v).1 183 t' = T.1 183 t' from (q_Tu_ne (by omega)).trans (q_Tu_ne (by omega))]
          exact h.2 t' ht' hz'
    · exact h
  · exact h
