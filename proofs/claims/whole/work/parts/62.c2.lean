theorem am_dec_n {n : Nat} (h : n < 2 ^ 31) : am_dec (nI n) = .ref n := by
  unfold am_dec
  rw [if_neg (nI_pos h), nI_clamp h]
def q_hd (v g n : Nat) : Bool := if g = 0 then decide (v < n) else if g = 1 then decide (v = n) else decide (n < v)
theorem q_an {m : am_Mm} {a l : Nat} {F : Nat → Nat} {v : Int32} (h : ∀ i, i < l → m.1 a i = nI (F i)) (hv : v = nI (F l)) : ∀ i, i < l + 1 → (am_u m a l v).1 a i = nI (F i) := by
  intro i hi
  by_cases e : i = l
  · subst e
    rw [am_u_eq, hv]
  · rw [am_u_ne (by omega)]
    exact h i (by omega)
/-- the truths of an office on the class's number: the newest in the lowest bit -/
def q_tr (x : Int32) (t : Nat) (S : Nat → Bool) : Prop := t ≤ 30 ∧ ∀ i, i < 32 → bt x i = (decide (i < t) && S (t - 1 - i))
theorem bt_bB (b : Bool) : ∀ i, i < 32 → bt (bB b) i = (b && decide (i = 0)) := by
  cases b
  · intro i _
    exact b_0 i
  · exact bt_1
theorem q_tr_top {x : Int32} {t : Nat} {S : Nat → Bool} (h : q_tr x t S) (ht : 1 ≤ t) : x &&& 1 = bB (S (t - 1)) := by
  refine b_ext (fun i hi => ?_)
  rw [b_and, bt_1 i hi, bt_bB _ i hi]
  by_cases e : i = 0
  · subst e
    rw [h.2 0 (by omega), decide_eq_true (show 0 < t by omega), Bool.true_and, Nat.sub_zero]
  · rw [decide_eq_false e, Bool.and_false, Bool.and_false]
theorem bt_pop {x : Int32} {t : Nat} {S : Nat → Bool} (h : q_tr x t S) : ∀ i, i < 32 → bt (x >>> ((1 : Int32) &&& 31)) i = (decide (i + 1 < t) && S (t - 1 - 1 - i)) := by
  intro i hi
  have h1 := h.1
  rw [show x >>> ((1 : Int32) &&& 31) = x >>> (nI 1 &&& 31) from rfl, b_sshr 1 (by omega) x hi]
  split
  · rw [h.2 _ (by omega), show 1 + i = i + 1 by omega, show t - 1 - (i + 1) = t - 1 - 1 - i by omega]
  · rw [h.2 31 (by omega), decide_eq_false (show ¬ 31 < t by omega), decide_eq_false (show ¬ i + 1 < t by omega), Bool.false_and, Bool.false_and]
theorem q_tr.pop {x : Int32} {t : Nat} {S : Nat → Bool} (h : q_tr x t S) : q_tr (x >>> ((1 : Int32) &&& 31)) (t - 1) S := ⟨by have := h.1; omega, fun i hi => by
  rw [bt_pop h i hi]
  congr 1
  rw [decide_eq_decide]
  omega⟩
theorem q_tr.not {x : Int32} {t : Nat} {S : Nat → Bool} (h : q_tr x t S) (ht : 1 ≤ t) : q_tr (x ^^^ 1) t (q_bu S (t - 1) (!S (t - 1))) := ⟨h.1, fun i hi => by
  rw [b_xor, bt_1 i hi, h.2 i hi]
  by_cases e : i = 0
  · subst e
    rw [decide_eq_true (show 0 < t by omega), Nat.sub_zero, show q_bu S (t - 1) (!S (t - 1)) (t - 1) = !S (t - 1) from if_pos rfl]
    cases S (t - 1) <;> rfl
  · rw [decide_eq_false e, Bool.xor_false]
    by_cases f : i < t
    · rw [show q_bu S (t - 1) (!S (t - 1)) (t - 1 - i) = S (t - 1 - i) from if_neg (by omega)]
    · rw [decide_eq_false f, Bool.false_and, Bool.false_and]⟩
theorem q_tr.or {x : Int32} {t : Nat} {S : Nat → Bool} (h : q_tr x t S) (ht : 2 ≤ t) : q_tr ((x >>> ((1 : Int32) &&& 31)) ||| bB (S (t - 1))) (t - 1) (q_bu S (t - 2) (S (t - 2) || S (t - 1))) := ⟨by have := h.1; omega, fun i hi => by
  rw [b_or, bt_pop h i hi, bt_bB _ i hi]
  by_cases e : i = 0
  · subst e
    rw [decide_eq_true (show 0 + 1 < t by omega), decide_eq_true (show 0 < t - 1 by omega), show t - 1 - 1 - 0 = t - 2 by omega, show q_bu S (t - 2) (S (t - 2) || S (t - 1)) (t - 2) = (S (t - 2) || S (t - 1)) from if_pos rfl]
    simp
  · rw [decide_eq_false e, Bool.and_false, Bool.or_false]
    by_cases f : i < t - 1
    · rw [decide_eq_true f, decide_eq_true (show i + 1 < t by omega), show q_bu S (t - 2) (S (t - 2) || S (t - 1)) (t - 1 - 1 - i) = S (t - 1 - 1 - i) from if_neg (by omega)]
    · rw [decide_eq_false f, decide_eq_false (show ¬ i + 1 < t by omega), Bool.false_and, Bool.false_and]⟩
theorem bt_m2 (b : Bool) : ∀ i, i < 32 → bt (bB b - 2) i = (b || decide (¬ i = 0)) := by
  cases b
  · exact (by decide +kernel : ∀ i, i < 32 → bt (bB false - 2) i = (false || decide (¬ i = 0)))
  · exact (by decide +kernel : ∀ i, i < 32 → bt (bB true - 2) i = (true || decide (¬ i = 0)))
theorem q_tr.and {x : Int32} {t : Nat} {S : Nat → Bool} (h : q_tr x t S) (ht : 2 ≤ t) : q_tr ((x >>> ((1 : Int32) &&& 31)) &&& (bB (S (t - 1)) - 2)) (t - 1) (q_bu S (t - 2) (S (t - 2) && S (t - 1))) := ⟨by have := h.1; omega, fun i hi => by
  rw [b_and, bt_pop h i hi, bt_m2 _ i hi]
  by_cases e : i = 0
  · subst e
    rw [decide_eq_true (show 0 + 1 < t by omega), decide_eq_true (show 0 < t - 1 by omega), show t - 1 - 1 - 0 = t - 2 by omega, show q_bu S (t - 2) (S (t - 2) && S (t - 1)) (t - 2) = (S (t - 2) && S (t - 1)) from if_pos rfl]
    simp
  · rw [decide_eq_true e, Bool.or_true, Bool.and_true]
    by_cases f : i < t - 1
    · rw [decide_eq_true f, decide_eq_true (show i + 1 < t by omega), show q_bu S (t - 2) (S (t - 2) && S (t - 1)) (t - 1 - 1 - i) = S (t - 1 - 1 - i) from if_neg (by omega)]
    · rw [decide_eq_false f, decide_eq_false (show ¬ i + 1 < t by omega), Bool.false_and, Bool.false_and]⟩
theorem q_tr.push {x : Int32} {t : Nat} {S : Nat → Bool} (h : q_tr x t S) (ht : t < 30) (b : Bool) : q_tr ((x <<< ((1 : Int32) &&& 31)) ||| bB b) (t + 1) (q_bu S t b) := ⟨by omega, fun i hi => by
  rw [b_or, show x <<< ((1 : Int32) &&& 31) = x <<< (nI 1 &&& 31) from rfl, b_shl 1 (by omega) x hi, bt_bB _ i hi]
  by_cases e : i = 0
  · subst e
    rw [decide_eq_false (show ¬ 1 ≤ 0 by omega), decide_eq_true (show 0 < t + 1 by omega), show t + 1 - 1 - 0 = t by omega, show q_bu S t b t = b from if_pos rfl]
    simp
  · rw [decide_eq_false e, Bool.and_false, Bool.or_false, decide_eq_true (show 1 ≤ i by omega), h.2 _ (by omega), Bool.true_and]
    by_cases f : i < t + 1
    · rw [decide_eq_true f, decide_eq_true (show i - 1 < t by omega), show t + 1 - 1 - i = t - i by omega, show q_bu S t b (t - i) = S (t - i) from if_neg (by omega), show t - 1 - (i - 1) = t - i by omega]
    · rw [decide_eq_false f, decide_eq_false (show ¬ i - 1 < t by omega), Bool.false_and, Bool.false_and]⟩
theorem q_tr_0 (S : Nat → Bool) : q_tr 0 0 S := ⟨by omega, fun i _ => by rw [b_0, decide_eq_false (by omega), Bool.false_and]⟩
/-- an office's steps -/
def tb (F : Nat → Nat) : List (Nat × Nat) → Int32 → Nat → (Nat → Bool) → Int32
  | [], a, _, _ => a
  | s :: l, a, t, S => if s.1 < 18 then tb F l a (t + 1) (q_bu S t (q_hd (F (s.1 / 3)) (s.1 % 3) s.2)) else if s.1 = 18 then tb F l a t (q_bu S (t - 1) (!S (t - 1))) else if s.1 = 19 then tb F l a (t - 1) (q_bu S (t - 2) (S (t - 2) && S (t - 1))) else if s.1 = 20 then tb F l a (t - 1) (q_bu S (t - 2) (S (t - 2) || S (t - 1))) else if s.1 = 21 then tb F l (a + bB (S (t - 1)) * nI s.2) (t - 1) S else tb F l (a - bB (S (t - 1)) * nI s.2) (t - 1) S
def vls : List (Nat × Nat) → Nat → Bool
  | [], _ => true
  | s :: l, t => decide (s.1 < 23 ∧ s.2 < 100) && (if s.1 < 18 then decide (t < 30) && vls l (t + 1) else if s.1 = 18 then decide (1 ≤ t) && vls l t else if s.1 < 21 then decide (2 ≤ t) && vls l (t - 1) else decide (1 ≤ t) && vls l (t - 1))
theorem vls_map : ∀ (c : List Nat) (t n : Nat) (l : List (Nat × Nat)), vld c t = true → n < 100 → vls l 0 = true → ∀ a : Nat, a < 2 → vls (c.map q_stp ++ (21 + a, n) :: l) t = true := by
  intro c
  induction c with
  | nil =>
    intro t n l hv hn hl a ha
    have ht : t = 1 := of_decide_eq_true hv
    subst ht
    rw [List.map_nil, List.nil_append, vls, decide_eq_true (show 21 + a < 23 ∧ n < 100 by omega), if_neg (by omega), if_neg (by omega), if_neg (by omega), hl]
    rfl
  | cons x c ih =>
    intro t n l hv hn hl a ha
    rw [vld] at hv
    obtain ⟨h1, h2⟩ := (Bool.and_eq_true _ _).mp hv
    have h1 := of_decide_eq_true h1
    rw [List.map_cons, List.cons_append, vls]
    by_cases h3 : 3 ≤ x
    · rw [if_pos h3] at h2
      obtain ⟨h4, h5⟩ := (Bool.and_eq_true _ _).mp h2
      have e : q_stp x = (3 * ((x - 3) / 300) + (x - 3) / 100 % 3, (x - 3) % 100) := if_pos h3
      rw [e, decide_eq_true (show 3 * ((x - 3) / 300) + (x - 3) / 100 % 3 < 23 ∧ (x - 3) % 100 < 100 by omega), if_pos (show 3 * ((x - 3) / 300) + (x - 3) / 100 % 3 < 18 by omega), h4, ih _ n l h5 hn hl a ha]
      rfl
    · rw [if_neg h3] at h2
      have e : q_stp x = (18 + x, 0) := if_neg h3
      rw [e, decide_eq_true (show 18 + x < 23 ∧ 0 < 100 by omega), if_neg (show ¬ 18 + x < 18 by omega)]
      by_cases h6 : x = 0
      · rw [if_pos h6] at h2
        obtain ⟨h4, h5⟩ := (Bool.and_eq_true _ _).mp h2
        rw [if_pos (show 18 + x = 18 by omega), h4, ih _ n l h5 hn hl a ha]
        rfl
      · rw [if_neg h6] at h2
        obtain ⟨h4, h5⟩ := (Bool.and_eq_true _ _).mp h2
        rw [if_neg (show ¬ 18 + x = 18 by omega), if_pos (show 18 + x < 21 by omega), h4, ih _ n l h5 hn hl a ha]
        rfl
theorem vls_sts : ∀ (o : List q_Cl), (∀ cl, cl ∈ o → cl.1 < 3 ∧ cl.2.1 < 100) → (∀ cl, cl ∈ o → cl.1 < 2 → vld cl.2.2 0 = true) → vls (q_sts o) 0 = true := by
  intro o
  induction o with
  | nil => exact fun _ _ => rfl
  | cons cl o ih =>
    intro h1 h2
    have hr := ih (fun c hc => h1 c (List.mem_cons_of_mem _ hc)) (fun c hc => h2 c (List.mem_cons_of_mem _ hc))
    rw [q_sts]
    split
    · rename_i h
      exact vls_map _ _ _ _ (h2 cl (List.mem_cons_self) h) (h1 cl (List.mem_cons_self)).2 hr _ h
    · exact hr
theorem tb_map (T : q_T) (p : Nat) : ∀ (c : List Nat) (t : Nat) (S S' : Nat → Bool) (l : List (Nat × Nat)) (a : Int32), vld c t = true → (∀ i, i < t → S i = S' i) → ∃ S'' : Nat → Bool, S'' 0 = evl T p c t S' ∧ tb (f_let T p) (c.map q_stp ++ l) a t S = tb (f_let T p) l a 1 S'' := by
  intro c
  induction c with
  | nil =>
    intro t S S' l a hv hS
    have ht : t = 1 := of_decide_eq_true hv
    subst ht
    exact ⟨S, hS 0 (by omega), rfl⟩
  | cons x c ih =>
    intro t S S' l a hv hS
    rw [vld] at hv
    obtain ⟨h1, h2⟩ := (Bool.and_eq_true _ _).mp hv
    have h1 := of_decide_eq_true h1
    rw [List.map_cons, List.cons_append, tb, evl]
    by_cases h3 : 3 ≤ x
    · rw [if_pos h3] at h2
      obtain ⟨h4, h5⟩ := (Bool.and_eq_true _ _).mp h2
      have e : q_stp x = (3 * ((x - 3) / 300) + (x - 3) / 100 % 3, (x - 3) % 100) := if_pos h3
      rw [e, if_pos (show 3 * ((x - 3) / 300) + (x - 3) / 100 % 3 < 18 by omega), if_pos h3]
      refine ih (t + 1) _ _ l a h5 (fun i hi => ?_)
      unfold q_bu
      try dsimp only
      split
      · rw [show (3 * ((x - 3) / 300) + (x - 3) / 100 % 3) / 3 = (x - 3) / 300 by omega, show (3 * ((x - 3) / 300) + (x - 3) / 100 % 3) % 3 = (x - 3) / 100 % 3 by omega]
        rfl
      · exact hS i (by omega)
    · rw [if_neg h3] at h2
      have e : q_stp x = (18 + x, 0) := if_neg h3
      rw [e, if_neg (show ¬ 18 + x < 18 by omega), if_neg h3]
      by_cases h6 : x = 0
      · rw [if_pos h6] at h2
        obtain ⟨h4, h5⟩ := (Bool.and_eq_true _ _).mp h2
        have h4 := of_decide_eq_true h4
        rw [if_pos (show 18 + x = 18 by omega), if_pos h6]
        refine ih t _ _ l a h5 (fun i hi => ?_)
        unfold q_bu
        try dsimp only
        split
        · rw [hS (t - 1) (by omega)]
        · exact hS i hi
      · rw [if_neg h6] at h2
        obtain ⟨h4, h5⟩ := (Bool.and_eq_true _ _).mp h2
        have h4 := of_decide_eq_true h4
        rw [if_neg (show ¬ 18 + x = 18 by omega), if_neg h6]
        by_cases h7 : x = 1
        · rw [if_pos (show 18 + x = 19 by omega), if_pos h7]
          refine ih (t - 1) _ _ l a h5 (fun i hi => ?_)
          unfold q_bu
          try dsimp only
          split
          · rw [hS (t - 1) (by omega), hS (t - 2) (by omega)]
          · exact hS i (by omega)
        · rw [if_neg (show ¬ 18 + x = 19 by omega), if_pos (show 18 + x = 20 by omega), if_neg h7]
          refine ih (t - 1) _ _ l a h5 (fun i hi => ?_)
          unfold q_bu
          try dsimp only
          split
          · rw [hS (t - 1) (by omega), hS (t - 2) (by omega)]
          · exact hS i (by omega)
theorem i_mul0 (x : Int32) : bB false * x = 0 := by
  show (0 : Int32) * x = 0
  exact Int32.zero_mul
theorem i_mul1 (x : Int32) : bB true * x = x := by
  show (1 : Int32) * x = x
  exact Int32.one_mul _
theorem tb_sts (T : q_T) (p : Nat) : ∀ (o : List q_Cl) (a : Int32) (S : Nat → Bool), (∀ cl, cl ∈ o → cl.1 < 3) → (∀ cl, cl ∈ o → cl.1 < 2 → vld cl.2.2 0 = true) → tb (f_let T p) (q_sts o) a 0 S = sumo T p o a := by
  intro o
  induction o with
  | nil => exact fun _ _ _ _ => rfl
  | cons cl o ih =>
    intro a S h1 h2
    have hr := fun a S => ih a S (fun c hc => h1 c (List.mem_cons_of_mem _ hc)) (fun c hc => h2 c (List.mem_cons_of_mem _ hc))
    rw [q_sts, sumo]
    split
    · rename_i h
      obtain ⟨S', e1, e2⟩ := tb_map T p cl.2.2 0 S (fun _ => false) ((21 + cl.1, cl.2.1) :: q_sts o) a (h2 cl (List.mem_cons_self) h) (fun i hi => absurd hi (by omega))
      rw [e2, tb, if_neg (show ¬ 21 + cl.1 < 18 by omega), if_neg (show ¬ 21 + cl.1 = 18 by omega), if_neg (show ¬ 21 + cl.1 = 19 by omega), if_neg (show ¬ 21 + cl.1 = 20 by omega)]
      rw [show S' (1 - 1) = evl T p cl.2.2 0 (fun _ => false) from e1]
      cases evl T p cl.2.2 0 (fun _ => false) with
      | false =>
        rw [i_mul0, if_neg (show ¬ (cl.1 < 2 ∧ false = true) by simp), Int32.add_zero, Int32.sub_zero]
        split <;> exact hr a _
      | true =>
        rw [i_mul1, if_pos (show cl.1 < 2 ∧ true = true from ⟨h, rfl⟩)]
        by_cases h0 : cl.1 = 0
        · rw [if_pos (show 21 + cl.1 = 21 by omega), if_pos h0]
          exact hr _ _
        · rw [if_neg (show ¬ 21 + cl.1 = 21 by omega), if_neg h0, ← Int32.sub_eq_add_neg]
          exact hr _ _
    · rename_i h
      rw [if_neg (fun z => h z.1)]
      exact hr a S
theorem sumo_add (T : q_T) (p : Nat) : ∀ (o : List q_Cl) (a b : Int32), sumo T p o (a + b) = a + sumo T p o b := by
  intro o
  induction o with
  | nil => exact fun _ _ => rfl
  | cons cl o ih =>
    intro a b
    rw [sumo, sumo]
    split
    · rw [Int32.add_assoc]
      exact ih _ _
    · exact ih _ _
