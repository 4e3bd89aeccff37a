abbrev q_R : Type := Bool × (Nat × List Nat)
def ixn : List Nat → Nat → Nat → Option Nat
  | [], _, _ => none
  | v :: l, t, k => if v = t then some k else ixn l t (k + 1)
theorem ixo_n : ∀ (l : List Nat) (t k : Nat), ixo l t k = match ixn l t k with | some i => nI i | none => -1 := by
  intro l
  induction l with
  | nil => exact fun _ _ => rfl
  | cons v l ih =>
    intro t k
    rw [ixo, ixn]
    split
    · rfl
    · exact ih t (k + 1)
theorem ixn_lt : ∀ (l : List Nat) (t k i : Nat), ixn l t k = some i → i < k + l.length := by
  intro l
  induction l with
  | nil => exact fun _ _ _ h => by cases h
  | cons v l ih =>
    intro t k i h
    rw [ixn] at h
    rw [List.length_cons]
    split at h
    · cases h
      omega
    · have := ih t (k + 1) i h
      omega
def p_test (tx : Nat → Nat) (n pos : Nat) : q_R :=
  match (if pos < n then ixn (q_str 3) (tx pos) 0 else none) with
  | none => (false, pos, [])
  | some l => match (if pos + 1 < n then ixn (q_str 4) (tx (pos + 1)) 0 else none) with
    | none => (false, pos + 1, [])
    | some g => if 0 < (p_num tx n (pos + 2)).1 then (true, (p_num tx n (pos + 2)).2.2, [3 + 300 * l + 100 * g + (p_num tx n (pos + 2)).2.1]) else (false, (p_num tx n (pos + 2)).2.2, [])
def p_lp (tx : Nat → Nat) (n : Nat) (P : Nat → q_R) (c op : Nat) : Nat → Nat → List Nat → q_R
  | 0, pos, a => (true, pos, a)
  | f + 1, pos, a => if p_is tx n c pos = true then (if (P (pos + 1)).1 = true then p_lp tx n P c op f (P (pos + 1)).2.1 (a ++ ((P (pos + 1)).2.2 ++ [op])) else (false, (P (pos + 1)).2.1, [])) else (true, pos, a)
def p_sq (tx : Nat → Nat) (n : Nat) (P : Nat → q_R) (c op pos : Nat) : q_R := if (P pos).1 = true then p_lp tx n P c op n (P pos).2.1 (P pos).2.2 else (false, (P pos).2.1, [])
def p_F (tx : Nat → Nat) (n : Nat) : Nat → Nat → q_R
  | 0 => fun pos => p_test tx n pos
  | u + 1 => fun pos =>
    if p_is tx n 33 pos = true then (if (p_F tx n u (pos + 1)).1 = true then (true, (p_F tx n u (pos + 1)).2.1, (p_F tx n u (pos + 1)).2.2 ++ [0]) else (false, (p_F tx n u (pos + 1)).2.1, []))
    else if p_is tx n 40 pos = true then (if (p_sq tx n (p_sq tx n (p_F tx n u) 38 1) 124 2 (pos + 1)).1 = true then (if p_is tx n 41 (p_sq tx n (p_sq tx n (p_F tx n u) 38 1) 124 2 (pos + 1)).2.1 = true then (true, (p_sq tx n (p_sq tx n (p_F tx n u) 38 1) 124 2 (pos + 1)).2.1 + 1, (p_sq tx n (p_sq tx n (p_F tx n u) 38 1) 124 2 (pos + 1)).2.2) else (false, (p_sq tx n (p_sq tx n (p_F tx n u) 38 1) 124 2 (pos + 1)).2.1, [])) else (false, (p_sq tx n (p_sq tx n (p_F tx n u) 38 1) 124 2 (pos + 1)).2.1, []))
    else p_test tx n pos
def p_E (tx : Nat → Nat) (n u pos : Nat) : q_R := p_sq tx n (p_sq tx n (p_F tx n u) 38 1) 124 2 pos
/-- it goes on, never behind the end, and a code takes a sign at least -/
def q_Gd (n : Nat) (P : Nat → q_R) : Prop := ∀ pos, pos ≤ n → pos ≤ (P pos).2.1 ∧ ((P pos).2.1 ≤ n ∧ ((P pos).1 = true → pos + (P pos).2.2.length ≤ (P pos).2.1 ∧ pos < (P pos).2.1))
theorem p_is_lt {tx : Nat → Nat} {n c pos : Nat} (h : p_is tx n c pos = true) : pos < n := (of_decide_eq_true h).1
theorem q_Gd_t {n pos q : Nat} {c : List Nat} (h1 : pos < q) (h2 : q ≤ n) (h3 : pos + c.length ≤ q) : pos ≤ ((true, (q, c)) : q_R).2.1 ∧ (((true, (q, c)) : q_R).2.1 ≤ n ∧ (((true, (q, c)) : q_R).1 = true → pos + ((true, (q, c)) : q_R).2.2.length ≤ ((true, (q, c)) : q_R).2.1 ∧ pos < ((true, (q, c)) : q_R).2.1)) := ⟨Nat.le_of_lt h1, h2, fun _ => ⟨h3, h1⟩⟩
theorem q_Gd_f {n pos q : Nat} {c : List Nat} (h1 : pos ≤ q) (h2 : q ≤ n) : pos ≤ ((false, (q, c)) : q_R).2.1 ∧ (((false, (q, c)) : q_R).2.1 ≤ n ∧ (((false, (q, c)) : q_R).1 = true → pos + ((false, (q, c)) : q_R).2.2.length ≤ ((false, (q, c)) : q_R).2.1 ∧ pos < ((false, (q, c)) : q_R).2.1)) := ⟨h1, h2, fun z => absurd (show false = true from z) (by decide)⟩
theorem p_test_Gd (tx : Nat → Nat) (n : Nat) : q_Gd n (p_test tx n) := by
  intro pos h
  unfold p_test
  by_cases h1 : pos < n
  · rw [if_pos h1]
    cases ixn (q_str 3) (tx pos) 0 with
    | none => exact q_Gd_f (Nat.le_refl _) h
    | some l =>
      dsimp only
      by_cases h2 : pos + 1 < n
      · rw [if_pos h2]
        cases ixn (q_str 4) (tx (pos + 1)) 0 with
        | none => exact q_Gd_f (Nat.le_succ _) h1
        | some g =>
          dsimp only
          obtain ⟨a, b, -, -, e⟩ := p_num_le (tx := tx) (n := n) (pos := pos + 2) (by omega)
          split
          · exact q_Gd_t (by omega) b (by show pos + 1 ≤ _; omega)
          · exact q_Gd_f (by omega) b
      · rw [if_neg h2]
        exact q_Gd_f (Nat.le_succ _) h1
  · rw [if_neg h1]
    exact q_Gd_f (Nat.le_refl _) h
theorem p_lp_Gd {tx : Nat → Nat} {n : Nat} {P : Nat → q_R} {c op : Nat} (hG : q_Gd n P) : ∀ (f pos : Nat) (a : List Nat), pos ≤ n → pos ≤ (p_lp tx n P c op f pos a).2.1 ∧ ((p_lp tx n P c op f pos a).2.1 ≤ n ∧ ((p_lp tx n P c op f pos a).1 = true → pos + (p_lp tx n P c op f pos a).2.2.length ≤ (p_lp tx n P c op f pos a).2.1 + a.length)) := by
  intro f
  induction f with
  | zero => exact fun pos a h => ⟨Nat.le_refl _, h, fun _ => Nat.le_refl _⟩
  | succ f ih =>
    intro pos a h
    rw [p_lp]
    split
    · rename_i h1
      have h2 := p_is_lt h1
      obtain ⟨g1, g2, g3⟩ := hG (pos + 1) (by omega)
      split
      · rename_i h3
        obtain ⟨i1, i2, i3⟩ := ih (P (pos + 1)).2.1 (a ++ ((P (pos + 1)).2.2 ++ [op])) g2
        obtain ⟨g4, g5⟩ := g3 h3
        refine ⟨by omega, i2, fun q => ?_⟩
        have i4 := i3 q
        rw [List.length_append, List.length_append] at i4
        have : [op].length = 1 := rfl
        omega
      · exact ⟨(by omega : pos ≤ (P (pos + 1)).2.1), g2, fun q => absurd (show false = true from q) (by decide)⟩
    · exact ⟨Nat.le_refl _, h, fun _ => Nat.le_refl _⟩
theorem p_sq_Gd {tx : Nat → Nat} {n : Nat} {P : Nat → q_R} {c op : Nat} (hG : q_Gd n P) : q_Gd n (p_sq tx n P c op) := by
  intro pos h
  unfold p_sq
  obtain ⟨g1, g2, g3⟩ := hG pos h
  split
  · rename_i h1
    obtain ⟨i1, i2, i3⟩ := p_lp_Gd hG (tx := tx) (c := c) (op := op) n (P pos).2.1 (P pos).2.2 g2
    obtain ⟨g4, g5⟩ := g3 h1
    exact ⟨by omega, i2, fun q => by have := i3 q; omega⟩
  · exact q_Gd_f g1 g2
theorem p_F_Gd (tx : Nat → Nat) (n : Nat) : ∀ u, q_Gd n (p_F tx n u) := by
  intro u
  induction u with
  | zero => exact p_test_Gd tx n
  | succ u ih =>
    intro pos h
    rw [p_F]
    dsimp only
    split
    · rename_i h1
      have h2 := p_is_lt h1
      obtain ⟨g1, g2, g3⟩ := ih (pos + 1) (by omega)
      split
      · rename_i h3
        obtain ⟨g4, g5⟩ := g3 h3
        exact q_Gd_t (by omega) g2 (by
          rw [List.length_append]
          have : [0].length = 1 := rfl
          omega)
      · exact q_Gd_f (by omega) g2
    · split
      · rename_i h1
        have h2 := p_is_lt h1
        obtain ⟨g1, g2, g3⟩ := p_sq_Gd (tx := tx) (c := 124) (op := 2) (p_sq_Gd (tx := tx) (c := 38) (op := 1) ih) (pos + 1) (by omega)
        split
        · rename_i h3
          obtain ⟨g4, g5⟩ := g3 h3
          split
          · rename_i h4
            have h5 := p_is_lt h4
            exact q_Gd_t (by omega) h5 (by omega)
          · exact q_Gd_f (by omega) g2
        · exact q_Gd_f (by omega) g2
      · exact p_test_Gd tx n pos h
theorem p_E_Gd (tx : Nat → Nat) (n u : Nat) : q_Gd n (p_E tx n u) := p_sq_Gd (p_sq_Gd (p_F_Gd tx n u))
/-- a method of the model reads as P says, g of ( and ! being open -/
def q_PQ (m0 : am_Mm) (cd g : Nat) (cs : List Nat) (r : q_R) : am_Q := am_qi (bB r.1) (fun m' => if r.1 = true then q_pa m0 cd r.2.1 (cs ++ r.2.2) m' ∧ m'.1 153 17 = nI g else q_pf m0 cd r.2.1 m')
def q_PC (xs : List Int32) (y d n : Nat) (m0 : am_Mm) (cd : Nat) (P : Nat → q_R) (g : Nat) : Prop := ∀ (m : am_Mm) (pos : Nat) (cs : List Nat), q_pa m0 cd pos cs m → pos ≤ n → cd + cs.length + n ≤ 800 + pos → m.1 153 17 = nI g → am_V xs d y [.ref 153] m (q_PQ m0 cd g cs (P pos))
theorem q_PQ_t {m0 m' : am_Mm} {cd g q : Nat} {cs c : List Nat} (h : q_pa m0 cd q (cs ++ c) m') (ho : m'.1 153 17 = nI g) : q_PQ m0 cd g cs (true, q, c) (some (.int 1)) m' := ⟨rfl, by
  show (if true = true then _ else _)
  rw [if_pos rfl]
  exact ⟨h, ho⟩⟩
theorem q_PQ_f {m0 m' : am_Mm} {cd g q : Nat} {cs c : List Nat} (h : q_pf m0 cd q m') : q_PQ m0 cd g cs (false, q, c) (some (.int 0)) m' := ⟨rfl, by
  show (if false = true then _ else _)
  rw [if_neg (by decide)]
  exact h⟩
theorem q_pf.own {m0 m : am_Mm} {cd pos : Nat} (h : q_pf m0 cd pos m) {x : Int32} : q_pf m0 cd pos (am_u m 153 17 x) := ⟨fun c k' a b => (am_u_ne (by omega)).trans (h.1 c k' a b), h.2.1, (am_u_ne (by omega)).trans h.2.2⟩
set_option maxRecDepth 100000 in
set_option maxHeartbeats 4000000 in
theorem v_m_isTest (xs : List Int32) {tx : Nat → Nat} {n : Nat} {m0 : am_Mm} {cd g : Nat} (ht : q_tx tx n m0) {m : am_Mm} {pos : Nat} {cs : List Nat} (hp : q_pa m0 cd pos cs m) (hn : pos ≤ n) (hl : cd + cs.length + n ≤ 800 + pos) (ho : m.1 153 17 = nI g) : am_V xs 5 178 [.ref 153] m (q_PQ m0 cd g cs (p_test tx n pos)) := by
  have hn1 := ht.1
  have ht1 := (ht.2.2 pos).2
  have ht2 := (ht.2.2 (pos + 1)).2
  refine am_V_of ky_178 (Nat.le_of_ble_eq_true rfl) ?_
  show am_P xs 4 m_isTest 0 [some (.ref 153), none, none] [] m _
  refine w_aload_n (pc' := 1) rfl rfl rfl rfl ?_
  refine w_getI (pc' := 4) rfl rfl rfl sh_153 rfl ?_
  rw [show m.1 153 14 = nI (pos) from hp.2.2.1]
  refine w_aload_n (pc' := 5) rfl rfl rfl rfl ?_
  refine w_getI (pc' := 8) rfl rfl rfl sh_153 rfl ?_
  rw [show m.1 153 12 = nI n from (ht.pa hp).1]
  refine w_ic_ge (t := 40) (pc' := 11) rfl (by decide) rfl (fun h8 => ?_) (fun h8 => ?_)
  · have g1 : n ≤ pos := (nI_leI (a := n) (b := pos) (by omega) (by omega)).mp h8
    refine w_iconst (pc' := 41) (-1) rfl rfl ic_m1 ?_
    refine w_ist1 (pc' := 42) rfl rfl rfl ?_
    refine w_iload_n (pc' := 43) rfl rfl rfl ?_
    refine w_if_ge (t := 48) (pc' := 46) rfl (by decide) rfl (fun h43 => ?_) (fun h43 => ?_)
    · exact absurd h43 (by decide)
    · refine w_iconst (pc' := 47) 0 rfl rfl ic_0 ?_
      refine w_iret rfl rfl (by first | rfl | exact am_nbB _) ?_
      rw [show p_test tx n pos = (false, pos, []) from by unfold p_test; rw [if_neg (by omega)]]
      exact q_PQ_f hp.pf
  · have g2 : ¬ n ≤ pos := fun q => h8 ((nI_leI (a := n) (b := pos) (by omega) (by omega)).mpr q)
    refine w_aload_n (pc' := 12) rfl rfl rfl rfl ?_
    refine w_getC (pc' := 15) rfl rfl rfl sh_153 rfl ?_
    refine w_aload_n (pc' := 16) rfl rfl rfl rfl ?_
    refine w_getI (pc' := 19) rfl rfl rfl sh_153 rfl ?_
    rw [show m.1 153 14 = nI (pos) from hp.2.2.1]
    refine w_iald (j := (pos)) (pc' := 20) rfl rfl sh_163 rfl (by omega) (by decide) ?_
    rw [show m.1 163 pos = nI (tx pos) from (ht.pa hp).2 _]
    refine w_if_le (t := 40) (pc' := 23) rfl (by decide) rfl (fun h20 => ?_) (fun h20 => ?_)
    · have g3 : (tx pos) ≤ 0 := (nI_leI (a := (tx pos)) (b := 0) (by omega) (by omega)).mp h20
      refine w_iconst (pc' := 41) (-1) rfl rfl ic_m1 ?_
      refine w_ist1 (pc' := 42) rfl rfl rfl ?_
      refine w_iload_n (pc' := 43) rfl rfl rfl ?_
      refine w_if_ge (t := 48) (pc' := 46) rfl (by decide) rfl (fun h43 => ?_) (fun h43 => ?_)
      · exact absurd h43 (by decide)
      · refine w_iconst (pc' := 47) 0 rfl rfl ic_0 ?_
        refine w_iret rfl rfl (by first | rfl | exact am_nbB _) ?_
        rw [show p_test tx n pos = (false, pos, []) from by unfold p_test; rw [if_pos (by omega), show tx pos = 0 by omega]; rfl]
        exact q_PQ_f hp.pf
    · have g4 : ¬ (tx pos) ≤ 0 := fun q => h20 ((nI_leI (a := (tx pos)) (b := 0) (by omega) (by omega)).mpr q)
      refine w_ldc (pc' := 25) rfl rfl rfl rfl ?_
      refine w_aload_n (pc' := 26) rfl rfl rfl rfl ?_
      refine w_getC (pc' := 29) rfl rfl rfl sh_153 rfl ?_
      refine w_aload_n (pc' := 30) rfl rfl rfl rfl ?_
      refine w_getI (pc' := 33) rfl rfl rfl sh_153 rfl ?_
      rw [show m.1 153 14 = nI (pos) from hp.2.2.1]
      refine w_iald (j := (pos)) (pc' := 34) rfl rfl sh_163 rfl (by omega) (by decide) ?_
      rw [show m.1 163 pos = nI (tx pos) from (ht.pa hp).2 _]
      refine w_cT1i (pc' := 37) (v_io3 xs m (t := tx pos) ht1) (by decide) rfl rfl rfl (Nat.le_of_ble_eq_true rfl) (by decide) (by decide) rfl (fun m' hm' => ?_)
      rw [show m' = m from hm']
      clear hm' m'
      rw [ixo_n]
      rcases hxl : ixn (q_str 3) (tx pos) 0 with _ | l
      · dsimp only
        refine w_goto (pc' := 41) rfl (by decide) ?_
        refine w_ist1 (pc' := 42) rfl rfl rfl ?_
        refine w_iload_n (pc' := 43) rfl rfl rfl ?_
        refine w_if_ge (t := 48) (pc' := 46) rfl (by decide) rfl (fun h43 => ?_) (fun h43 => ?_)
        · exact absurd h43 (by decide)
        · refine w_iconst (pc' := 47) 0 rfl rfl ic_0 ?_
          refine w_iret rfl rfl (by first | rfl | exact am_nbB _) ?_
          rw [show p_test tx n pos = (false, pos, []) from by unfold p_test; rw [if_pos (by omega), hxl]]
          exact q_PQ_f hp.pf
      · dsimp only
        have hll := ixn_lt _ _ _ _ hxl
        have hll : l < 6 := hll
        refine w_goto (pc' := 41) rfl (by decide) ?_
        refine w_ist1 (pc' := 42) rfl rfl rfl ?_
        refine w_iload_n (pc' := 43) rfl rfl rfl ?_
        refine w_if_ge (t := 48) (pc' := 46) rfl (by decide) rfl (fun h43 => ?_) (fun h43 => ?_)
        · have g5 : 0 ≤ l := (nI_leI (a := 0) (b := l) (by omega) (by omega)).mp h43
          refine w_aload_n (pc' := 49) rfl rfl rfl rfl ?_
          refine w_dup (pc' := 50) rfl rfl rfl ?_
          refine w_getI (pc' := 53) rfl rfl rfl sh_153 rfl ?_
          rw [show m.1 153 14 = nI (pos) from hp.2.2.1]
          refine w_iconst (pc' := 54) 1 rfl rfl ic_1 ?_
          refine w_iadd (pc' := 55) rfl rfl ?_
          rw [show nI (pos) + (1 : Int32) = nI (pos + 1) from nI_add _ _]
          refine w_putI (pc' := 58) rfl rfl rfl sh_153 rfl rfl rfl ?_
          refine w_pa (hp.at (q := pos + 1)) ((am_u_ne (by omega)).trans ho) (fun m1 hp1 ho1 => ?_)
          refine w_aload_n (pc' := 59) rfl rfl rfl rfl ?_
          refine w_getI (pc' := 62) rfl rfl rfl sh_153 rfl ?_
          rw [show m1.1 153 14 = nI (pos + 1) from hp1.2.2.1]
          refine w_aload_n (pc' := 63) rfl rfl rfl rfl ?_
          refine w_getI (pc' := 66) rfl rfl rfl sh_153 rfl ?_
          rw [show m1.1 153 12 = nI n from (ht.pa hp1).1]
          refine w_ic_ge (t := 98) (pc' := 69) rfl (by decide) rfl (fun h66 => ?_) (fun h66 => ?_)
          · have g6 : n ≤ (pos + 1) := (nI_leI (a := n) (b := (pos + 1)) (by omega) (by omega)).mp h66
            refine w_iconst (pc' := 99) (-1) rfl rfl ic_m1 ?_
            refine w_ist2 (pc' := 100) rfl rfl rfl ?_
            refine w_iload_n (pc' := 101) rfl rfl rfl ?_
            refine w_if_ge (t := 106) (pc' := 104) rfl (by decide) rfl (fun h101 => ?_) (fun h101 => ?_)
            · exact absurd h101 (by decide)
            · refine w_iconst (pc' := 105) 0 rfl rfl ic_0 ?_
              refine w_iret rfl rfl (by first | rfl | exact am_nbB _) ?_
              rw [show p_test tx n pos = (false, pos + 1, []) from by unfold p_test; rw [if_pos (by omega), hxl]; dsimp only; rw [if_neg (by omega)]]
              exact q_PQ_f hp1.pf
          · have g7 : ¬ n ≤ (pos + 1) := fun q => h66 ((nI_leI (a := n) (b := (pos + 1)) (by omega) (by omega)).mpr q)
            refine w_aload_n (pc' := 70) rfl rfl rfl rfl ?_
            refine w_getC (pc' := 73) rfl rfl rfl sh_153 rfl ?_
            refine w_aload_n (pc' := 74) rfl rfl rfl rfl ?_
            refine w_getI (pc' := 77) rfl rfl rfl sh_153 rfl ?_
            rw [show m1.1 153 14 = nI (pos + 1) from hp1.2.2.1]
            refine w_iald (j := ((pos + 1))) (pc' := 78) rfl rfl sh_163 rfl (by omega) (by decide) ?_
            rw [show m1.1 163 (pos + 1) = nI (tx (pos + 1)) from (ht.pa hp1).2 _]
            refine w_if_le (t := 98) (pc' := 81) rfl (by decide) rfl (fun h78 => ?_) (fun h78 => ?_)
            · have g8 : (tx (pos + 1)) ≤ 0 := (nI_leI (a := (tx (pos + 1))) (b := 0) (by omega) (by omega)).mp h78
              refine w_iconst (pc' := 99) (-1) rfl rfl ic_m1 ?_
              refine w_ist2 (pc' := 100) rfl rfl rfl ?_
              refine w_iload_n (pc' := 101) rfl rfl rfl ?_
              refine w_if_ge (t := 106) (pc' := 104) rfl (by decide) rfl (fun h101 => ?_) (fun h101 => ?_)
              · exact absurd h101 (by decide)
              · refine w_iconst (pc' := 105) 0 rfl rfl ic_0 ?_
                refine w_iret rfl rfl (by first | rfl | exact am_nbB _) ?_
                rw [show p_test tx n pos = (false, pos + 1, []) from by unfold p_test; rw [if_pos (by omega), hxl]; dsimp only; rw [if_pos (by omega), show tx (pos + 1) = 0 by omega, show ixn (q_str 4) 0 0 = none from rfl]]
                exact q_PQ_f hp1.pf
            · have g9 : ¬ (tx (pos + 1)) ≤ 0 := fun q => h78 ((nI_leI (a := (tx (pos + 1))) (b := 0) (by omega) (by omega)).mpr q)
              refine w_ldc (pc' := 83) rfl rfl rfl rfl ?_
              refine w_aload_n (pc' := 84) rfl rfl rfl rfl ?_
              refine w_getC (pc' := 87) rfl rfl rfl sh_153 rfl ?_
              refine w_aload_n (pc' := 88) rfl rfl rfl rfl ?_
              refine w_getI (pc' := 91) rfl rfl rfl sh_153 rfl ?_
              rw [show m1.1 153 14 = nI (pos + 1) from hp1.2.2.1]
              refine w_iald (j := ((pos + 1))) (pc' := 92) rfl rfl sh_163 rfl (by omega) (by decide) ?_
              rw [show m1.1 163 (pos + 1) = nI (tx (pos + 1)) from (ht.pa hp1).2 _]
              refine w_cT1i (pc' := 95) (v_io4 xs m1 (t := tx (pos + 1)) ht2) (by decide) rfl rfl rfl (Nat.le_of_ble_eq_true rfl) (by decide) (by decide) rfl (fun m' hm' => ?_)
              rw [show m' = m1 from hm']
              clear hm' m'
              rw [ixo_n]
              rcases hxs : ixn (q_str 4) (tx (pos + 1)) 0 with _ | s
              · dsimp only
                refine w_goto (pc' := 99) rfl (by decide) ?_
                refine w_ist2 (pc' := 100) rfl rfl rfl ?_
                refine w_iload_n (pc' := 101) rfl rfl rfl ?_
                refine w_if_ge (t := 106) (pc' := 104) rfl (by decide) rfl (fun h101 => ?_) (fun h101 => ?_)
                · exact absurd h101 (by decide)
                · refine w_iconst (pc' := 105) 0 rfl rfl ic_0 ?_
                  refine w_iret rfl rfl (by first | rfl | exact am_nbB _) ?_
                  rw [show p_test tx n pos = (false, pos + 1, []) from by unfold p_test; rw [if_pos (by omega), hxl]; dsimp only; rw [if_pos (by omega), hxs]]
                  exact q_PQ_f hp1.pf
              · dsimp only
                have hls := ixn_lt _ _ _ _ hxs
                have hls : s < 3 := hls
                refine w_goto (pc' := 99) rfl (by decide) ?_
                refine w_ist2 (pc' := 100) rfl rfl rfl ?_
                refine w_iload_n (pc' := 101) rfl rfl rfl ?_
                refine w_if_ge (t := 106) (pc' := 104) rfl (by decide) rfl (fun h101 => ?_) (fun h101 => ?_)
                · have g10 : 0 ≤ s := (nI_leI (a := 0) (b := s) (by omega) (by omega)).mp h101
                  refine w_aload_n (pc' := 107) rfl rfl rfl rfl ?_
                  refine w_dup (pc' := 108) rfl rfl rfl ?_
                  refine w_getI (pc' := 111) rfl rfl rfl sh_153 rfl ?_
                  rw [show m1.1 153 14 = nI (pos + 1) from hp1.2.2.1]
                  refine w_iconst (pc' := 112) 1 rfl rfl ic_1 ?_
                  refine w_iadd (pc' := 113) rfl rfl ?_
                  rw [show nI ((pos + 1)) + (1 : Int32) = nI ((pos + 1) + 1) from nI_add _ _]
                  refine w_putI (pc' := 116) rfl rfl rfl sh_153 rfl rfl rfl ?_
                  refine w_pa (hp1.at (q := pos + 1 + 1)) ((am_u_ne (by omega)).trans ho1) (fun m2 hp2 ho2 => ?_)
                  refine w_aload_n (pc' := 117) rfl rfl rfl rfl ?_
                  refine w_cV0i (pc' := 120) (v_m_isNumber xs ht hp2 (by omega)) (by decide) rfl rfl rfl (Nat.le_of_ble_eq_true rfl) sh_153 rfl (fun m1 hm' => ?_)
                  obtain ⟨hq3, hv3, ho3⟩ := hm'
                  have ho3 := ho3.trans ho2
                  have hnl := p_num_le (tx := tx) (n := n) (pos := pos + 2) (by omega)
                  refine w_if_eq (t := 151) (pc' := 123) rfl (by decide) rfl (fun h120 => ?_) (fun h120 => ?_)
                  · have hb11 : decide (0 < (p_num tx n (pos + 2)).1) = false := bB_0.mp h120
                    refine w_iconst (pc' := 152) 0 rfl rfl ic_0 ?_
                    refine w_iret rfl rfl (by first | rfl | exact am_nbB _) ?_
                    have hz := of_decide_eq_false hb11
                    rw [show p_test tx n pos = (false, (p_num tx n (pos + 2)).2.2, []) from by unfold p_test; rw [if_pos (by omega), hxl]; dsimp only; rw [if_pos (by omega), hxs]; dsimp only; rw [if_neg hz]]
                    exact q_PQ_f hq3.pf
                  · have hb12 : decide (0 < (p_num tx n (pos + 2)).1) = true := bB_n0.mp h120
                    have hz9 := of_decide_eq_true hb12
                    refine w_aload_n (pc' := 124) rfl rfl rfl rfl ?_
                    refine w_iconst (pc' := 125) 3 rfl rfl ic_3 ?_
                    refine w_sipush (pc' := 128) 300 rfl rfl sp_300 ?_
                    refine w_iload_n (pc' := 129) rfl rfl rfl ?_
                    refine w_imul (pc' := 130) rfl rfl ?_
                    rw [show (300 : Int32) * nI (l) = nI (300 * l) from nI_mul _ _]
                    refine w_iadd (pc' := 131) rfl rfl ?_
                    rw [show (3 : Int32) + nI (300 * l) = nI (3 + (300 * l)) from nI_add _ _]
                    refine w_bipush (pc' := 133) 100 rfl rfl bp_100 ?_
                    refine w_iload_n (pc' := 134) rfl rfl rfl ?_
                    refine w_imul (pc' := 135) rfl rfl ?_
                    rw [show (100 : Int32) * nI (s) = nI (100 * s) from nI_mul _ _]
                    refine w_iadd (pc' := 136) rfl rfl ?_
                    rw [show nI (3 + (300 * l)) + nI (100 * s) = nI ((3 + (300 * l)) + (100 * s)) from nI_add _ _]
                    refine w_aload_n (pc' := 137) rfl rfl rfl rfl ?_
                    refine w_getI (pc' := 140) rfl rfl rfl sh_153 rfl ?_
                    rw [hv3]
                    refine w_iadd (pc' := 141) rfl rfl ?_
                    rw [show nI ((3 + (300 * l)) + (100 * s)) + nI (((p_num tx n (pos + 2)).2.1)) = nI (((3 + (300 * l)) + (100 * s)) + ((p_num tx n (pos + 2)).2.1)) from nI_add _ _]
                    refine w_cV1i (pc' := 144) (v_m_codes xs hq3 (by omega) (((3 + (300 * l)) + (100 * s)) + ((p_num tx n (pos + 2)).2.1))) (by decide) rfl rfl rfl (Nat.le_of_ble_eq_true rfl) sh_153 rfl (fun m2 hm' => ?_)
                    obtain ⟨hp4, ho4⟩ := hm'
                    refine w_if_eq (t := 151) (pc' := 147) rfl (by decide) rfl (fun h144 => ?_) (fun h144 => ?_)
                    · exact absurd h144 (by decide)
                    · refine w_iconst (pc' := 148) 1 rfl rfl ic_1 ?_
                      refine w_goto (pc' := 152) rfl (by decide) ?_
                      refine w_iret rfl rfl (by first | rfl | exact am_nbB _) ?_
                      have hz := of_decide_eq_true hb12
                      rw [show p_test tx n pos = (true, (p_num tx n (pos + 2)).2.2, [3 + 300 * l + 100 * s + (p_num tx n (pos + 2)).2.1]) from by unfold p_test; rw [if_pos (by omega), hxl]; dsimp only; rw [if_pos (by omega), hxs]; dsimp only; rw [if_pos hz]]
                      exact q_PQ_t hp4 ((ho4 17 (by omega)).trans ho3)
                · have g13 : ¬ 0 ≤ s := fun q => h101 ((nI_leI (a := 0) (b := s) (by omega) (by omega)).mpr q)
                  omega
        · have g14 : ¬ 0 ≤ l := fun q => h43 ((nI_leI (a := 0) (b := l) (by omega) (by omega)).mpr q)
          omega
theorem v_m_isTestP (xs : List Int32) {tx : Nat → Nat} {n : Nat} {m0 : am_Mm} {cd g : Nat} (ht : q_tx tx n m0) : q_PC xs 178 5 n m0 cd (p_test tx n) g := fun _ _ _ hp hn hl ho => v_m_isTest xs ht hp hn hl ho
set_option maxRecDepth 100000 in
set_option maxHeartbeats 4000000 in
theorem lp_isT (xs : List Int32) {tx : Nat → Nat} {n : Nat} {m0 : am_Mm} {cd g : Nat} (ht : q_tx tx n m0) {P : Nat → q_R} {d : Nat} (hG : q_Gd n P) (hP : q_PC xs 175 d n m0 cd P g) (hd1 : 1 ≤ d) {cs : List Nat} : ∀ (r k : Nat), k + r = n → ∀ (m : am_Mm) (pos : Nat) (a : List Nat), k ≤ pos → q_pa m0 cd pos (cs ++ a) m → pos ≤ n → cd + (cs ++ a).length + n ≤ 800 + pos → m.1 153 17 = nI g → am_P xs d m_isT 9 [some (.ref 153)] [] m (q_PQ m0 cd g cs (p_lp tx n P 38 1 r pos a)) := by
  intro r
  induction r with
  | zero =>
    intro k hk m pos a hkp hp hn hl ho
    refine w_aload_n (pc' := 10) rfl rfl rfl rfl ?_
    refine w_bipush (pc' := 12) 38 rfl rfl bp_38 ?_
    refine w_cV1i (pc' := 15) (v_m_is xs ht hp hn (c := 38) (by decide)) (by omega) rfl rfl rfl (Nat.le_of_ble_eq_true rfl) sh_153 rfl (fun m1 hm' => ?_)
    obtain ⟨hp1, ho1⟩ := hm'
    refine w_if_eq (t := 35) (pc' := 18) rfl (by decide) rfl (fun h15 => ?_) (fun h15 => ?_)
    · have hb1 : p_is tx n 38 pos = false := bB_0.mp h15
      refine w_iconst (pc' := 36) 1 rfl rfl ic_1 ?_
      refine w_iret rfl rfl (by first | rfl | exact am_nbB _) ?_
      rw [hb1] at hp1
      exact q_PQ_t hp1 ((ho1 17 (by omega)).trans ho)
    · have hz := p_is_lt (bB_n0.mp h15)
      omega
  | succ r ih =>
    intro k hk m pos a hkp hp hn hl ho
    refine w_aload_n (pc' := 10) rfl rfl rfl rfl ?_
    refine w_bipush (pc' := 12) 38 rfl rfl bp_38 ?_
    refine w_cV1i (pc' := 15) (v_m_is xs ht hp hn (c := 38) (by decide)) (by omega) rfl rfl rfl (Nat.le_of_ble_eq_true rfl) sh_153 rfl (fun m1 hm' => ?_)
    obtain ⟨hp1, ho1⟩ := hm'
    refine w_if_eq (t := 35) (pc' := 18) rfl (by decide) rfl (fun h15 => ?_) (fun h15 => ?_)
    · have hb1 : p_is tx n 38 pos = false := bB_0.mp h15
      refine w_iconst (pc' := 36) 1 rfl rfl ic_1 ?_
      refine w_iret rfl rfl (by first | rfl | exact am_nbB _) ?_
      rw [hb1] at hp1
      rw [show p_lp tx n P 38 1 (r + 1) pos a = (true, pos, a) from if_neg (by rw [hb1]; decide)]
      exact q_PQ_t hp1 ((ho1 17 (by omega)).trans ho)
    · have hb2 : p_is tx n 38 pos = true := bB_n0.mp h15
      rw [hb2] at hp1
      have hd := p_is_lt hb2
      obtain ⟨g1, g2, g3⟩ := hG (pos + 1) hd
      refine w_aload_n (pc' := 19) rfl rfl rfl rfl ?_
      refine w_cV0i (pc' := 22) (hP m1 (pos + 1) (cs ++ a) hp1 hd (by omega) ((ho1 17 (by omega)).trans ho)) (by omega) rfl rfl rfl (Nat.le_of_ble_eq_true rfl) sh_153 rfl (fun m2 hm' => ?_)
      have hQ2 := hm'
      refine w_if_eq (t := 33) (pc' := 25) rfl (by decide) rfl (fun h22 => ?_) (fun h22 => ?_)
      · have hb3 : (P (pos + 1)).1 = false := bB_0.mp h22
        refine w_iconst (pc' := 34) 0 rfl rfl ic_0 ?_
        refine w_iret rfl rfl (by first | rfl | exact am_nbB _) ?_
        rw [show p_lp tx n P 38 1 (r + 1) pos a = (false, (P (pos + 1)).2.1, []) from (if_pos hb2).trans (if_neg (by rw [hb3]; decide))]
        rw [if_neg (by rw [hb3]; decide)] at hQ2
        exact q_PQ_f hQ2
      · have hb4 : (P (pos + 1)).1 = true := bB_n0.mp h22
        rw [if_pos hb4] at hQ2
        obtain ⟨hp2, ho2⟩ := hQ2
        obtain ⟨g4, g5⟩ := g3 hb4
        refine w_aload_n (pc' := 26) rfl rfl rfl rfl ?_
        refine w_iconst (pc' := 27) 1 rfl rfl ic_1 ?_
        refine w_cV1i (pc' := 30) (v_m_codes xs hp2 (by rw [List.length_append]; omega) 1) (by omega) rfl rfl rfl (Nat.le_of_ble_eq_true rfl) sh_153 rfl (fun m3 hm' => ?_)
        obtain ⟨hp3, ho3⟩ := hm'
        refine w_if_ne (t := 9) (pc' := 33) rfl (by decide) rfl (fun h30 => ?_) (fun h30 => ?_)
        · rw [show p_lp tx n P 38 1 (r + 1) pos a = p_lp tx n P 38 1 r (P (pos + 1)).2.1 (a ++ ((P (pos + 1)).2.2 ++ [1])) from (if_pos hb2).trans (if_pos hb4)]
          have e9 : cs ++ a ++ (P (pos + 1)).2.2 ++ [1] = cs ++ (a ++ ((P (pos + 1)).2.2 ++ [1])) := by simp only [List.append_assoc]
          rw [e9] at hp3
          exact ih (k + 1) (by omega) m3 _ _ (by omega) hp3 g2 (by rw [← e9, List.length_append, List.length_append]; have : [1].length = 1 := rfl; omega) ((ho3 17 (by omega)).trans ho2)
        · exact absurd h30 (by decide)
set_option maxRecDepth 100000 in
set_option maxHeartbeats 4000000 in
theorem v_isT (xs : List Int32) {tx : Nat → Nat} {n : Nat} {m0 : am_Mm} {cd g : Nat} (ht : q_tx tx n m0) {P : Nat → q_R} {d : Nat} (hG : q_Gd n P) (hP : q_PC xs 175 d n m0 cd P g) (hd1 : 1 ≤ d) {m : am_Mm} {pos : Nat} {cs : List Nat} (hp : q_pa m0 cd pos cs m) (hn : pos ≤ n) (hl : cd + cs.length + n ≤ 800 + pos) (ho : m.1 153 17 = nI g) : am_V xs (d + 1) 174 [.ref 153] m (q_PQ m0 cd g cs (p_sq tx n P 38 1 pos)) := by
  refine am_V_of ky_174 (Nat.le_of_ble_eq_true rfl) ?_
  show am_P xs d m_isT 0 [some (.ref 153)] [] m _
  refine w_aload_n (pc' := 1) rfl rfl rfl rfl ?_
  refine w_cV0i (pc' := 4) (hP m pos cs hp hn hl ho) (by omega) rfl rfl rfl (Nat.le_of_ble_eq_true rfl) sh_153 rfl (fun m1 hm' => ?_)
  have hQ1 := hm'
  refine w_if_ne (t := 9) (pc' := 7) rfl (by decide) rfl (fun h4 => ?_) (fun h4 => ?_)
  · have hb1 : (P pos).1 = true := bB_n0.mp h4
    rw [if_pos hb1] at hQ1
    obtain ⟨hp1, ho1⟩ := hQ1
    obtain ⟨g1, g2, g3⟩ := hG pos hn
    obtain ⟨g4, g5⟩ := g3 hb1
    rw [show p_sq tx n P 38 1 pos = p_lp tx n P 38 1 n (P pos).2.1 (P pos).2.2 from if_pos hb1]
    exact lp_isT xs ht hG hP hd1 n 0 (by omega) m1 _ _ (by omega) hp1 g2 (by rw [List.length_append]; omega) ho1
  · have hb2 : (P pos).1 = false := bB_0.mp h4
    refine w_iconst (pc' := 8) 0 rfl rfl ic_0 ?_
    refine w_iret rfl rfl (by first | rfl | exact am_nbB _) ?_
    rw [if_neg (by rw [hb2]; decide)] at hQ1
    rw [show p_sq tx n P 38 1 pos = (false, (P pos).2.1, []) from if_neg (by rw [hb2]; decide)]
    exact q_PQ_f hQ1
set_option maxRecDepth 100000 in
set_option maxHeartbeats 4000000 in
theorem lp_isE (xs : List Int32) {tx : Nat → Nat} {n : Nat} {m0 : am_Mm} {cd g : Nat} (ht : q_tx tx n m0) {P : Nat → q_R} {d : Nat} (hG : q_Gd n P) (hP : q_PC xs 174 d n m0 cd P g) (hd1 : 1 ≤ d) {cs : List Nat} : ∀ (r k : Nat), k + r = n → ∀ (m : am_Mm) (pos : Nat) (a : List Nat), k ≤ pos → q_pa m0 cd pos (cs ++ a) m → pos ≤ n → cd + (cs ++ a).length + n ≤ 800 + pos → m.1 153 17 = nI g → am_P xs d m_isE 9 [some (.ref 153)] [] m (q_PQ m0 cd g cs (p_lp tx n P 124 2 r pos a)) := by
  intro r
  induction r with
  | zero =>
    intro k hk m pos a hkp hp hn hl ho
    refine w_aload_n (pc' := 10) rfl rfl rfl rfl ?_
    refine w_bipush (pc' := 12) 124 rfl rfl bp_124 ?_
    refine w_cV1i (pc' := 15) (v_m_is xs ht hp hn (c := 124) (by decide)) (by omega) rfl rfl rfl (Nat.le_of_ble_eq_true rfl) sh_153 rfl (fun m1 hm' => ?_)
    obtain ⟨hp1, ho1⟩ := hm'
    refine w_if_eq (t := 35) (pc' := 18) rfl (by decide) rfl (fun h15 => ?_) (fun h15 => ?_)
    · have hb1 : p_is tx n 124 pos = false := bB_0.mp h15
      refine w_iconst (pc' := 36) 1 rfl rfl ic_1 ?_
      refine w_iret rfl rfl (by first | rfl | exact am_nbB _) ?_
      rw [hb1] at hp1
      exact q_PQ_t hp1 ((ho1 17 (by omega)).trans ho)
    · have hz := p_is_lt (bB_n0.mp h15)
      omega
  | succ r ih =>
    intro k hk m pos a hkp hp hn hl ho
    refine w_aload_n (pc' := 10) rfl rfl rfl rfl ?_
    refine w_bipush (pc' := 12) 124 rfl rfl bp_124 ?_
    refine w_cV1i (pc' := 15) (v_m_is xs ht hp hn (c := 124) (by decide)) (by omega) rfl rfl rfl (Nat.le_of_ble_eq_true rfl) sh_153 rfl (fun m1 hm' => ?_)
    obtain ⟨hp1, ho1⟩ := hm'
    refine w_if_eq (t := 35) (pc' := 18) rfl (by decide) rfl (fun h15 => ?_) (fun h15 => ?_)
    · have hb1 : p_is tx n 124 pos = false := bB_0.mp h15
      refine w_iconst (pc' := 36) 1 rfl rfl ic_1 ?_
      refine w_iret rfl rfl (by first | rfl | exact am_nbB _) ?_
      rw [hb1] at hp1
      rw [show p_lp tx n P 124 2 (r + 1) pos a = (true, pos, a) from if_neg (by rw [hb1]; decide)]
      exact q_PQ_t hp1 ((ho1 17 (by omega)).trans ho)
    · have hb2 : p_is tx n 124 pos = true := bB_n0.mp h15
      rw [hb2] at hp1
      have hd := p_is_lt hb2
      obtain ⟨g1, g2, g3⟩ := hG (pos + 1) hd
      refine w_aload_n (pc' := 19) rfl rfl rfl rfl ?_
      refine w_cV0i (pc' := 22) (hP m1 (pos + 1) (cs ++ a) hp1 hd (by omega) ((ho1 17 (by omega)).trans ho)) (by omega) rfl rfl rfl (Nat.le_of_ble_eq_true rfl) sh_153 rfl (fun m2 hm' => ?_)
      have hQ2 := hm'
      refine w_if_eq (t := 33) (pc' := 25) rfl (by decide) rfl (fun h22 => ?_) (fun h22 => ?_)
      · have hb3 : (P (pos + 1)).1 = false := bB_0.mp h22
        refine w_iconst (pc' := 34) 0 rfl rfl ic_0 ?_
        refine w_iret rfl rfl (by first | rfl | exact am_nbB _) ?_
        rw [show p_lp tx n P 124 2 (r + 1) pos a = (false, (P (pos + 1)).2.1, []) from (if_pos hb2).trans (if_neg (by rw [hb3]; decide))]
        rw [if_neg (by rw [hb3]; decide)] at hQ2
        exact q_PQ_f hQ2
      · have hb4 : (P (pos + 1)).1 = true := bB_n0.mp h22
        rw [if_pos hb4] at hQ2
        obtain ⟨hp2, ho2⟩ := hQ2
        obtain ⟨g4, g5⟩ := g3 hb4
        refine w_aload_n (pc' := 26) rfl rfl rfl rfl ?_
        refine w_iconst (pc' := 27) 2 rfl rfl ic_2 ?_
        refine w_cV1i (pc' := 30) (v_m_codes xs hp2 (by rw [List.length_append]; omega) 2) (by omega) rfl rfl rfl (Nat.le_of_ble_eq_true rfl) sh_153 rfl (fun m3 hm' => ?_)
        obtain ⟨hp3, ho3⟩ := hm'
        refine w_if_ne (t := 9) (pc' := 33) rfl (by decide) rfl (fun h30 => ?_) (fun h30 => ?_)
        · rw [show p_lp tx n P 124 2 (r + 1) pos a = p_lp tx n P 124 2 r (P (pos + 1)).2.1 (a ++ ((P (pos + 1)).2.2 ++ [2])) from (if_pos hb2).trans (if_pos hb4)]
          have e9 : cs ++ a ++ (P (pos + 1)).2.2 ++ [2] = cs ++ (a ++ ((P (pos + 1)).2.2 ++ [2])) := by simp only [List.append_assoc]
          rw [e9] at hp3
          exact ih (k + 1) (by omega) m3 _ _ (by omega) hp3 g2 (by rw [← e9, List.length_append, List.length_append]; have : [2].length = 1 := rfl; omega) ((ho3 17 (by omega)).trans ho2)
        · exact absurd h30 (by decide)
set_option maxRecDepth 100000 in
set_option maxHeartbeats 4000000 in
theorem v_isE (xs : List Int32) {tx : Nat → Nat} {n : Nat} {m0 : am_Mm} {cd g : Nat} (ht : q_tx tx n m0) {P : Nat → q_R} {d : Nat} (hG : q_Gd n P) (hP : q_PC xs 174 d n m0 cd P g) (hd1 : 1 ≤ d) {m : am_Mm} {pos : Nat} {cs : List Nat} (hp : q_pa m0 cd pos cs m) (hn : pos ≤ n) (hl : cd + cs.length + n ≤ 800 + pos) (ho : m.1 153 17 = nI g) : am_V xs (d + 1) 173 [.ref 153] m (q_PQ m0 cd g cs (p_sq tx n P 124 2 pos)) := by
  refine am_V_of ky_173 (Nat.le_of_ble_eq_true rfl) ?_
  show am_P xs d m_isE 0 [some (.ref 153)] [] m _
  refine w_aload_n (pc' := 1) rfl rfl rfl rfl ?_
  refine w_cV0i (pc' := 4) (hP m pos cs hp hn hl ho) (by omega) rfl rfl rfl (Nat.le_of_ble_eq_true rfl) sh_153 rfl (fun m1 hm' => ?_)
  have hQ1 := hm'
  refine w_if_ne (t := 9) (pc' := 7) rfl (by decide) rfl (fun h4 => ?_) (fun h4 => ?_)
  · have hb1 : (P pos).1 = true := bB_n0.mp h4
    rw [if_pos hb1] at hQ1
    obtain ⟨hp1, ho1⟩ := hQ1
    obtain ⟨g1, g2, g3⟩ := hG pos hn
    obtain ⟨g4, g5⟩ := g3 hb1
    rw [show p_sq tx n P 124 2 pos = p_lp tx n P 124 2 n (P pos).2.1 (P pos).2.2 from if_pos hb1]
    exact lp_isE xs ht hG hP hd1 n 0 (by omega) m1 _ _ (by omega) hp1 g2 (by rw [List.length_append]; omega) ho1
  · have hb2 : (P pos).1 = false := bB_0.mp h4
    refine w_iconst (pc' := 8) 0 rfl rfl ic_0 ?_
    refine w_iret rfl rfl (by first | rfl | exact am_nbB _) ?_
    rw [if_neg (by rw [hb2]; decide)] at hQ1
    rw [show p_sq tx n P 124 2 pos = (false, (P pos).2.1, []) from if_neg (by rw [hb2]; decide)]
    exact q_PQ_f hQ1
