/-- codes that leave one truth more, with so much room -/
def q_vx (d : Nat) (c : List Nat) : Prop := ∀ (t : Nat) (rest : List Nat), t + d ≤ 30 → vld (c ++ rest) t = vld rest (t + 1)
theorem q_vx.up {d e : Nat} {c : List Nat} (h : q_vx d c) (hd : d ≤ e) : q_vx e c := fun t rest ht => h t rest (by omega)
theorem vx_test {tx : Nat → Nat} {n pos : Nat} (h : (p_test tx n pos).1 = true) : q_vx 1 (p_test tx n pos).2.2 := by
  rcases hx : (if pos < n then ixn (q_str 3) (tx pos) 0 else none) with _ | l
  · rw [show p_test tx n pos = (false, pos, []) from by unfold p_test; rw [hx]] at h
    exact absurd (show false = true from h) (by decide)
  · rcases hx2 : (if pos + 1 < n then ixn (q_str 4) (tx (pos + 1)) 0 else none) with _ | g
    · rw [show p_test tx n pos = (false, pos + 1, []) from by unfold p_test; rw [hx]; dsimp only; rw [hx2]] at h
      exact absurd (show false = true from h) (by decide)
    · obtain ⟨h1, h2⟩ := q_lt_n hx
      obtain ⟨h3, h4⟩ := q_lt_n hx2
      have hl : l < 6 := ixn_lt _ _ _ _ h2
      have hg : g < 3 := ixn_lt _ _ _ _ h4
      obtain ⟨n1, n2, n3, n4, n5⟩ := p_num_le (tx := tx) (n := n) (pos := pos + 2) (by omega)
      by_cases hz : 0 < (p_num tx n (pos + 2)).1
      · rw [show p_test tx n pos = (true, (p_num tx n (pos + 2)).2.2, [3 + 300 * l + 100 * g + (p_num tx n (pos + 2)).2.1]) from by unfold p_test; rw [hx]; dsimp only; rw [hx2]; dsimp only; rw [if_pos hz]]
        generalize hN : (p_num tx n (pos + 2)).2.1 = N at n3 ⊢
        intro t rest ht
        show vld ((3 + 300 * l + 100 * g + N) :: rest) t = _
        rw [vld, decide_eq_true (show 3 + 300 * l + 100 * g + N < 1803 by omega), if_pos (show 3 ≤ 3 + 300 * l + 100 * g + N by omega), decide_eq_true (show t < 30 by omega), Bool.true_and, Bool.true_and]
      · rw [show p_test tx n pos = (false, (p_num tx n (pos + 2)).2.2, []) from by unfold p_test; rw [hx]; dsimp only; rw [hx2]; dsimp only; rw [if_neg hz]] at h
        exact absurd (show false = true from h) (by decide)
theorem vx_op {d op : Nat} {a b : List Nat} (hop : op = 1 ∨ op = 2) (ha : q_vx (d + 1) a) (hb : q_vx d b) : q_vx (d + 1) (a ++ (b ++ [op])) := by
  intro t rest ht
  rw [List.append_assoc, List.append_assoc, ha t _ ht, hb (t + 1) _ (by omega)]
  show vld (op :: rest) (t + 1 + 1) = _
  rcases hop with rfl | rfl
  · rw [vld, decide_eq_true (show 1 < 1803 by omega), if_neg (by omega), if_neg (by omega), decide_eq_true (show 2 ≤ t + 1 + 1 by omega), Bool.true_and, Bool.true_and, Nat.add_sub_cancel]
  · rw [vld, decide_eq_true (show 2 < 1803 by omega), if_neg (by omega), if_neg (by omega), decide_eq_true (show 2 ≤ t + 1 + 1 by omega), Bool.true_and, Bool.true_and, Nat.add_sub_cancel]
theorem vx_lp {tx : Nat → Nat} {n d c op : Nat} {P : Nat → q_R} (hop : op = 1 ∨ op = 2) (hP : ∀ pos, (P pos).1 = true → q_vx d (P pos).2.2) : ∀ (f pos : Nat) (a : List Nat), q_vx (d + 1) a → (p_lp tx n P c op f pos a).1 = true → q_vx (d + 1) (p_lp tx n P c op f pos a).2.2 := by
  intro f
  induction f with
  | zero => exact fun _ _ ha _ => ha
  | succ f ih =>
    intro pos a ha
    rw [p_lp]
    split
    · split
      · rename_i h2
        exact ih _ _ (vx_op hop ha (hP _ h2))
      · exact fun h => absurd (show false = true from h) (by decide)
    · exact fun _ => ha
theorem vx_sq {tx : Nat → Nat} {n d c op : Nat} {P : Nat → q_R} (hop : op = 1 ∨ op = 2) (hP : ∀ pos, (P pos).1 = true → q_vx d (P pos).2.2) (pos : Nat) : (p_sq tx n P c op pos).1 = true → q_vx (d + 1) (p_sq tx n P c op pos).2.2 := by
  unfold p_sq
  split
  · rename_i h
    exact vx_lp hop hP n _ _ ((hP _ h).up (by omega))
  · exact fun h => absurd (show false = true from h) (by decide)
theorem vx_F {tx : Nat → Nat} {n : Nat} : ∀ (u pos : Nat), (p_F tx n u pos).1 = true → q_vx (1 + 2 * u) (p_F tx n u pos).2.2 := by
  intro u
  induction u with
  | zero => exact fun pos h => vx_test h
  | succ u ih =>
    intro pos
    have hE := fun q => vx_sq (tx := tx) (n := n) (c := 124) (op := 2) (Or.inr rfl) (fun p => vx_sq (tx := tx) (n := n) (c := 38) (op := 1) (Or.inl rfl) ih p) q
    rw [p_F]
    dsimp only
    split
    · split
      · rename_i h2
        intro _ t rest ht
        show vld ((p_F tx n u (pos + 1)).2.2 ++ [0] ++ rest) t = _
        rw [List.append_assoc, ih _ h2 t _ (by omega)]
        show vld (0 :: rest) (t + 1) = _
        rw [vld, decide_eq_true (show 0 < 1803 by omega), if_neg (by omega), if_pos rfl, decide_eq_true (show 1 ≤ t + 1 by omega), Bool.true_and, Bool.true_and]
      · exact fun h => absurd (show false = true from h) (by decide)
    · split
      · split
        · rename_i h2
          split
          · exact fun _ => (hE _ h2).up (by omega)
          · exact fun h => absurd (show false = true from h) (by decide)
        · exact fun h => absurd (show false = true from h) (by decide)
      · exact fun h => (vx_test h).up (by omega)
theorem vld_E {tx : Nat → Nat} {n pos : Nat} (h : (p_E tx n 4 pos).1 = true) : vld (p_E tx n 4 pos).2.2 0 = true := by
  have z := vx_sq (tx := tx) (n := n) (c := 124) (op := 2) (Or.inr rfl) (fun p => vx_sq (tx := tx) (n := n) (c := 38) (op := 1) (Or.inl rfl) (vx_F 4) p) pos h 0 [] (by omega)
  rw [List.append_nil] at z
  exact z
def q_okc (cl : q_Cl) : Prop := cl.1 < 3 ∧ cl.2.1 < 100 ∧ (cl.1 < 2 → vld cl.2.2 0 = true)
theorem p_cl_okc {tx : Nat → Nat} {n pos : Nat} (hn : pos ≤ n) : (p_cl tx n pos).1 = true → q_okc (p_cl tx n pos).2.2 := by
  unfold p_cl
  obtain ⟨a1, a2, a3⟩ := p_all_le (tx := tx) (n := n) (q_str (p_wd (tx pos))) pos hn
  generalize p_all tx n (q_str (p_wd (tx pos))) pos = A at *
  obtain ⟨z1, z2, z3, z4, z5⟩ := p_num_le (tx := tx) (n := n) (pos := A.2) a2
  generalize p_num tx n A.2 = Z at *
  by_cases h0 : (if pos < n then p_wd (tx pos) else 3) = 3
  · rw [if_pos h0]
    exact fun h => absurd (show false = true from h) (by decide)
  · rw [if_neg h0]
    have hw : p_wd (tx pos) < 3 := by
      have hlt : pos < n := by
        by_cases z : pos < n
        · exact z
        · exact absurd (if_neg z) h0
      rw [if_pos hlt] at h0
      unfold p_wd at h0 ⊢
      repeat' split
      all_goals first | omega | (exfalso; revert h0; simp_all)
    split
    · split
      · split
        · exact fun _ => ⟨by show 2 < 3; omega, z3, fun z => absurd (show 2 < 2 from z) (by omega)⟩
        · split
          · split
            · rename_i h3
              exact fun _ => ⟨hw, z3, fun _ => vld_E h3⟩
            · exact fun h => absurd (show false = true from h) (by decide)
          · exact fun h => absurd (show false = true from h) (by decide)
      · exact fun h => absurd (show false = true from h) (by decide)
    · exact fun h => absurd (show false = true from h) (by decide)
theorem p_ol_okc {tx : Nat → Nat} {n : Nat} : ∀ (r pos : Nat) (acc : List q_Cl), pos ≤ n → (∀ cl, cl ∈ acc → q_okc cl) → (p_ol tx n r pos acc).1 = true → ∀ cl, cl ∈ (p_ol tx n r pos acc).2.2 → q_okc cl := by
  intro r
  induction r with
  | zero => exact fun _ _ _ _ h => absurd (show false = true from h) (by decide)
  | succ r ih =>
    intro pos acc hn ha
    rw [p_ol]
    obtain ⟨c1, c2, c3⟩ := p_cl_Gd tx n pos hn
    split
    · rename_i h1
      have hc := p_cl_okc hn h1
      have ha2 : ∀ cl, cl ∈ acc ++ [(p_cl tx n pos).2.2] → q_okc cl := fun cl hcl => by
        rcases List.mem_append.mp hcl with z | z
        · exact ha cl z
        · rw [List.mem_singleton.mp z]
          exact hc
      split
      · exact fun _ => ha2
      · split
        · exact fun h => absurd (show false = true from h) (by decide)
        · split
          · rename_i h4
            exact ih _ _ (p_is_lt h4) ha2
          · exact fun h => absurd (show false = true from h) (by decide)
    · exact fun h => absurd (show false = true from h) (by decide)
theorem q_J.ofi {U U' : q_T} {o : List q_Cl} (hJ : q_J U) (ho : ∀ cl, cl ∈ o → q_okc cl) (hl : U.2.1.length < 6) (e21 : U'.2.1 = U.2.1 ++ [o]) (hB' : q_Bd U') (h19 : U'.1 153 19 ≤ U.2.1.length + 1) (e : ∀ c k, (154 ≤ c ∧ c ≤ 162) ∨ (171 ≤ c ∧ c ≤ 177) ∨ (c = 153 ∧ (k = 0 ∨ k = 11 ∨ k = 28 ∨ k = 32)) → U'.1 c k = U.1 c k) : q_J U' := by
  obtain ⟨⟨-, hO, hV, hr, hd⟩, g6, gS, gP⟩ := hJ
  have el : (U.2.1 ++ [o]).length = U.2.1.length + 1 := by
    rw [List.length_append]
    rfl
  refine ⟨⟨hB', ⟨?_, fun o' ho' cl hcl => ?_⟩, fun o' ho' cl hcl h2 => ?_, ?_, fun i => ?_⟩, ?_, fun i hi => ?_, fun i hi ha => ?_⟩
  · rw [e21, el]
    exact h19
  · rw [e21] at ho'
    rcases List.mem_append.mp ho' with z | z
    · exact hO.2 o' z cl hcl
    · rw [List.mem_singleton.mp z] at hcl
      exact ⟨(ho cl hcl).1, (ho cl hcl).2.1⟩
  · rw [e21] at ho'
    rcases List.mem_append.mp ho' with z | z
    · exact hV o' z cl hcl h2
    · rw [List.mem_singleton.mp z] at hcl
      exact (ho cl hcl).2.2 h2
  · rw [e 153 11 (by omega)]
    exact hr
  · rw [e 159 i (by omega)]
    exact hd i
  · rw [e21, el]
    omega
  · rw [e 153 28 (by omega)] at hi
    rw [e 171 i (by omega), e 153 0 (by omega)]
    exact gS i hi
  · rw [e 153 32 (by omega)] at hi
    rw [e 174 i (by omega)] at ha
    rw [e 175 i (by omega), e 153 0 (by omega)]
    exact gP i hi ha
theorem i_Tn {T : q_T} {o : List q_Cl} (h : q_Kp T) (hl : T.2.1.length < 6) (ho : ∀ cl, cl ∈ o → q_okc cl) : q_Kp (q_Tn T o) := by
  obtain ⟨⟨hJ, hu⟩, hTp⟩ := h
  have eT : ∀ c k, ¬ (c = 153 ∧ (k = 12 ∨ k = 19)) → (q_Tn T o).1 c k = T.1 c k := fun c k a => show (q_Tu (q_Tu T 153 12 0) 153 19 (T.2.1.length + 1)).1 c k = _ from (q_Tu_ne (by omega)).trans (q_Tu_ne (by omega))
  have e19 : (q_Tn T o).1 153 19 = T.2.1.length + 1 := show (q_Tu (q_Tu T 153 12 0) 153 19 (T.2.1.length + 1)).1 153 19 = _ from q_Tu_eq
  have e12 : (q_Tn T o).1 153 12 = 0 := show (q_Tu (q_Tu T 153 12 0) 153 19 (T.2.1.length + 1)).1 153 12 = _ from (q_Tu_ne (by omega)).trans q_Tu_eq
  have hBn : q_Bd (q_Tn T o) := fun c k => show (q_Tu (q_Tu T 153 12 0) 153 19 (T.2.1.length + 1)).1 c k < _ from ((hJ.1.1.u (c := 153) (k := 12) (show 0 < 101 by omega)).u (c := 153) (k := 19) (show T.2.1.length + 1 < 7 by omega)) c k
  refine ⟨⟨hJ.ofi ho hl rfl hBn (by rw [e19]; exact Nat.le_refl _) (fun c k hc => eT c k (by omega)), fun h40 => ?_⟩, fun t ht hz => ?_⟩
  · rw [eT 153 40 (by omega)] at h40
    have eu : ∀ c k, ¬ (c = 153 ∧ k = 12) → (q_und (q_Tn T o)).1 c k = (q_und T).1 c k := by
      intro c k hc
      show (if q_pi c k < 182 then (q_Tn T o).1 179 (q_pi c k) else (q_Tn T o).1 c k) = if q_pi c k < 182 then T.1 179 (q_pi c k) else T.1 c k
      by_cases e : q_pi c k < 182
      · rw [if_pos e, if_pos e, eT 179 _ (by omega)]
      · rw [if_neg e, if_neg e]
        by_cases e2 : c = 153 ∧ k = 19
        · obtain ⟨rfl, rfl⟩ := e2
          exact absurd q_pi_19 e
        · exact eT c k (by omega)
    have hJu := hu h40
    refine hJu.ofi ho hl rfl (fun c k => ?_) ?_ (fun c k hc => eu c k (by omega))
    · by_cases e : c = 153 ∧ k = 12
      · obtain ⟨rfl, rfl⟩ := e
        show (if q_pi 153 12 < 182 then (q_Tn T o).1 179 (q_pi 153 12) else (q_Tn T o).1 153 12) < q_B 153 12
        rw [if_neg (by decide), e12]
        decide
      · rw [eu c k e]
        exact hJu.1.1 c k
    · rw [eu 153 19 (by omega)]
      exact Nat.le_succ_of_le hJu.1.2.1.1
  · rw [eT 182 t (by omega)] at hz
    rw [eT 183 t (by omega)]
    exact hTp t ht hz
theorem i_office {T : q_T} (h : q_Kp T) : q_Kp (f_office T).2 := by
  have g6 := h.1.1.2.1
  unfold f_office
  split
  · exact h
  · split
    · rename_i h1 h2
      exact i_Tn h (by omega) (p_ol_okc 10 0 [] (Nat.zero_le _) (fun cl hcl => by cases hcl) h2)
    · exact h.x (h.1.1.1.1.u (show 0 < 101 by omega)) rfl (fun c k hc => q_Tu_ne (by omega)) (fun t ht hz => by
        rw [q_Tu_ne (by omega)] at hz
        rw [q_Tu_ne (by omega)]
        exact h.2 t ht hz)
