set_option maxRecDepth 100000 in
set_option maxHeartbeats 4000000 in
theorem v_isF4 (xs : List Int32) {tx : Nat → Nat} {n : Nat} {m0 : am_Mm} {cd : Nat} (ht : q_tx tx n m0) {m : am_Mm} {pos : Nat} {cs : List Nat} (hp : q_pa m0 cd pos cs m) (hn : pos ≤ n) (hl : cd + cs.length + n ≤ 800 + pos) (ho : m.1 153 17 = nI 4) : am_V xs 6 175 [.ref 153] m (q_PQ m0 cd 4 cs (p_F tx n 0 pos)) := by
  refine am_V_of ky_175 (Nat.le_of_ble_eq_true rfl) ?_
  show am_P xs 5 m_isF 0 [some (.ref 153), none] [] m _
  refine w_aload_n (pc' := 1) rfl rfl rfl rfl ?_
  refine w_bipush (pc' := 3) 33 rfl rfl bp_33 ?_
  refine w_cV1i (pc' := 6) (v_m_isOpened xs ht hp hn (c := 33) (g := 4) (by decide) (by omega) ho) (by decide) rfl rfl rfl (Nat.le_of_ble_eq_true rfl) sh_153 rfl (fun m1 hm' => ?_)
  obtain ⟨hp1, ho1⟩ := hm'
  refine w_if_eq (t := 33) (pc' := 9) rfl (by decide) rfl (fun h6 => ?_) (fun h6 => ?_)
  · have hb1 : (decide (4 < 4) && p_is tx n 33 pos) = false := bB_0.mp h6
    rw [show (decide (4 < 4) && p_is tx n 33 pos) = false from rfl] at hp1 ho1
    have hp1 : q_pa m0 cd pos cs m1 := hp1
    have ho1 : m1.1 153 17 = nI 4 := ho1
    refine w_aload_n (pc' := 34) rfl rfl rfl rfl ?_
    refine w_bipush (pc' := 36) 40 rfl rfl bp_40 ?_
    refine w_cV1i (pc' := 39) (v_m_isOpened xs ht hp1 hn (c := 40) (g := 4) (by decide) (by omega) ho1) (by decide) rfl rfl rfl (Nat.le_of_ble_eq_true rfl) sh_153 rfl (fun m2 hm' => ?_)
    obtain ⟨hp2, ho2⟩ := hm'
    refine w_if_eq (t := 67) (pc' := 42) rfl (by decide) rfl (fun h39 => ?_) (fun h39 => ?_)
    · have hb2 : (decide (4 < 4) && p_is tx n 40 pos) = false := bB_0.mp h39
      rw [show (decide (4 < 4) && p_is tx n 40 pos) = false from rfl] at hp2 ho2
      have hp2 : q_pa m0 cd pos cs m2 := hp2
      have ho2 : m2.1 153 17 = nI 4 := ho2
      refine w_aload_n (pc' := 68) rfl rfl rfl rfl ?_
      refine w_cV0 (y := 178) (pc' := 71) rfl rfl rfl (Nat.le_of_ble_eq_true rfl) (am_recv_ok sh_153 rfl) ((v_m_isTest xs ht hp2 hn hl ho2).up (by decide)) (fun v m3 hm3 => ?_)
      obtain ⟨hv3, hq3⟩ := hm3
      subst hv3
      refine w_iret rfl rfl (by first | rfl | exact am_nbB _) ?_
      exact ⟨rfl, hq3⟩
    · exact absurd (bB_n0.mp h39) (by rw [show (decide (4 < 4) && p_is tx n 40 pos) = false from rfl]; decide)
  · exact absurd (bB_n0.mp h6) (by rw [show (decide (4 < 4) && p_is tx n 33 pos) = false from rfl]; decide)
set_option maxRecDepth 100000 in
set_option maxHeartbeats 4000000 in
theorem v_isFu (xs : List Int32) {tx : Nat → Nat} {n : Nat} {m0 : am_Mm} {cd : Nat} (ht : q_tx tx n m0) {g u d : Nat} (hg : g < 4) (hd : 5 ≤ d) (hF : q_PC xs 175 d n m0 cd (p_F tx n u) (g + 1)) (hE : q_PC xs 173 d n m0 cd (p_E tx n u) (g + 1)) {m : am_Mm} {pos : Nat} {cs : List Nat} (hp : q_pa m0 cd pos cs m) (hn : pos ≤ n) (hl : cd + cs.length + n ≤ 800 + pos) (ho : m.1 153 17 = nI g) : am_V xs (d + 1) 175 [.ref 153] m (q_PQ m0 cd g cs (p_F tx n (u + 1) pos)) := by
  refine am_V_of ky_175 (Nat.le_of_ble_eq_true rfl) ?_
  show am_P xs d m_isF 0 [some (.ref 153), none] [] m _
  refine w_aload_n (pc' := 1) rfl rfl rfl rfl ?_
  refine w_bipush (pc' := 3) 33 rfl rfl bp_33 ?_
  refine w_cV1i (pc' := 6) (v_m_isOpened xs ht hp hn (c := 33) (g := g) (by decide) (by omega) ho) (by omega) rfl rfl rfl (Nat.le_of_ble_eq_true rfl) sh_153 rfl (fun m1 hm' => ?_)
  obtain ⟨hp1, ho1⟩ := hm'
  refine w_if_eq (t := 33) (pc' := 9) rfl (by decide) rfl (fun h6 => ?_) (fun h6 => ?_)
  · have hi33 : p_is tx n 33 pos = false := by
      have z := bB_0.mp h6
      rw [decide_eq_true hg, Bool.true_and] at z
      exact z
    rw [decide_eq_true hg, Bool.true_and, hi33] at hp1 ho1
    have hp1 : q_pa m0 cd pos cs m1 := hp1
    have ho1 : m1.1 153 17 = nI g := ho1
    refine w_aload_n (pc' := 34) rfl rfl rfl rfl ?_
    refine w_bipush (pc' := 36) 40 rfl rfl bp_40 ?_
    refine w_cV1i (pc' := 39) (v_m_isOpened xs ht hp1 hn (c := 40) (g := g) (by decide) (by omega) ho1) (by omega) rfl rfl rfl (Nat.le_of_ble_eq_true rfl) sh_153 rfl (fun m2 hm' => ?_)
    obtain ⟨hp2, ho2⟩ := hm'
    refine w_if_eq (t := 67) (pc' := 42) rfl (by decide) rfl (fun h39 => ?_) (fun h39 => ?_)
    · have hi40 : p_is tx n 40 pos = false := by
        have z := bB_0.mp h39
        rw [decide_eq_true hg, Bool.true_and] at z
        exact z
      rw [decide_eq_true hg, Bool.true_and, hi40] at hp2 ho2
      have hp2 : q_pa m0 cd pos cs m2 := hp2
      have ho2 : m2.1 153 17 = nI g := ho2
      refine w_aload_n (pc' := 68) rfl rfl rfl rfl ?_
      refine w_cV0 (y := 178) (pc' := 71) rfl rfl rfl (Nat.le_of_ble_eq_true rfl) (am_recv_ok sh_153 rfl) ((v_m_isTest xs ht hp2 hn hl ho2).up (by omega)) (fun v m3 hm3 => ?_)
      obtain ⟨hv3, hq3⟩ := hm3
      subst hv3
      refine w_iret rfl rfl (by first | rfl | exact am_nbB _) ?_
      rw [show p_F tx n (u + 1) pos = p_test tx n pos from (if_neg (by rw [hi33]; decide)).trans (if_neg (by rw [hi40]; decide))]
      exact ⟨rfl, hq3⟩
    · have hi40 : p_is tx n 40 pos = true := by
        have z := bB_n0.mp h39
        rw [decide_eq_true hg, Bool.true_and] at z
        exact z
      rw [decide_eq_true hg, Bool.true_and, hi40] at hp2 ho2
      have hp2 : q_pa m0 cd (pos + 1) cs m2 := hp2
      have ho2 : m2.1 153 17 = nI (g + 1) := ho2
      refine w_aload_n (pc' := 43) rfl rfl rfl rfl ?_
      refine w_cV0i (pc' := 46) (hE m2 (pos + 1) cs hp2 (p_is_lt hi40) (by omega) ho2) (by omega) rfl rfl rfl (Nat.le_of_ble_eq_true rfl) sh_153 rfl (fun m3 hm' => ?_)
      have hQ3 := hm'
      refine w_if_eq (t := 62) (pc' := 49) rfl (by decide) rfl (fun h46 => ?_) (fun h46 => ?_)
      · have hb4 : (p_E tx n u (pos + 1)).1 = false := bB_0.mp h46
        refine w_iconst (pc' := 63) 0 rfl rfl ic_0 ?_
        refine w_ist1 (pc' := 64) rfl rfl rfl ?_
        refine w_goto (pc' := 72) rfl (by decide) ?_
        refine w_aload_n (pc' := 73) rfl rfl rfl rfl ?_
        refine w_dup (pc' := 74) rfl rfl rfl ?_
        refine w_getI (pc' := 77) rfl rfl rfl sh_153 rfl ?_
        skip
        refine w_iconst (pc' := 78) 1 rfl rfl ic_1 ?_
        refine w_isub (pc' := 79) rfl rfl ?_
        skip
        refine w_putI (pc' := 82) rfl rfl rfl sh_153 rfl rfl rfl ?_
        refine w_iload_n (pc' := 83) rfl rfl rfl ?_
        refine w_iret rfl rfl (by first | rfl | exact am_nbB _) ?_
        rw [show p_F tx n (u + 1) pos = (false, (p_E tx n u (pos + 1)).2.1, []) from (if_neg (by rw [hi33]; decide)).trans ((if_pos hi40).trans (if_neg (by show ¬ (p_E tx n u (pos + 1)).1 = true; rw [hb4]; decide)))]
        rw [if_neg (by rw [hb4]; decide)] at hQ3
        exact q_PQ_f hQ3.own
      · have hb5 : (p_E tx n u (pos + 1)).1 = true := bB_n0.mp h46
        rw [if_pos hb5] at hQ3
        obtain ⟨hp3, ho3⟩ := hQ3
        obtain ⟨g1, g2, g3⟩ := p_E_Gd tx n u (pos + 1) (p_is_lt hi40)
        refine w_aload_n (pc' := 50) rfl rfl rfl rfl ?_
        refine w_bipush (pc' := 52) 41 rfl rfl bp_41 ?_
        refine w_cV1i (pc' := 55) (v_m_is xs ht hp3 g2 (c := 41) (by decide)) (by omega) rfl rfl rfl (Nat.le_of_ble_eq_true rfl) sh_153 rfl (fun m4 hm' => ?_)
        obtain ⟨hp4, ho4⟩ := hm'
        have ho4 := (ho4 17 (by omega)).trans ho3
        refine w_if_eq (t := 62) (pc' := 58) rfl (by decide) rfl (fun h55 => ?_) (fun h55 => ?_)
        · have hb6 : p_is tx n 41 (p_E tx n u (pos + 1)).2.1 = false := bB_0.mp h55
          refine w_iconst (pc' := 63) 0 rfl rfl ic_0 ?_
          refine w_ist1 (pc' := 64) rfl rfl rfl ?_
          refine w_goto (pc' := 72) rfl (by decide) ?_
          refine w_aload_n (pc' := 73) rfl rfl rfl rfl ?_
          refine w_dup (pc' := 74) rfl rfl rfl ?_
          refine w_getI (pc' := 77) rfl rfl rfl sh_153 rfl ?_
          skip
          refine w_iconst (pc' := 78) 1 rfl rfl ic_1 ?_
          refine w_isub (pc' := 79) rfl rfl ?_
          skip
          refine w_putI (pc' := 82) rfl rfl rfl sh_153 rfl rfl rfl ?_
          refine w_iload_n (pc' := 83) rfl rfl rfl ?_
          refine w_iret rfl rfl (by first | rfl | exact am_nbB _) ?_
          rw [hb6] at hp4
          rw [show p_F tx n (u + 1) pos = (false, (p_E tx n u (pos + 1)).2.1, []) from (if_neg (by rw [hi33]; decide)).trans ((if_pos hi40).trans ((if_pos hb5).trans (if_neg (by show ¬ p_is tx n 41 (p_E tx n u (pos + 1)).2.1 = true; rw [hb6]; decide))))]
          exact q_PQ_f (q_pa.pf (m := m4) (pos := (p_E tx n u (pos + 1)).2.1) hp4).own
        · have hb7 : p_is tx n 41 (p_E tx n u (pos + 1)).2.1 = true := bB_n0.mp h55
          refine w_iconst (pc' := 59) 1 rfl rfl ic_1 ?_
          refine w_goto (pc' := 63) rfl (by decide) ?_
          refine w_ist1 (pc' := 64) rfl rfl rfl ?_
          refine w_goto (pc' := 72) rfl (by decide) ?_
          refine w_aload_n (pc' := 73) rfl rfl rfl rfl ?_
          refine w_dup (pc' := 74) rfl rfl rfl ?_
          refine w_getI (pc' := 77) rfl rfl rfl sh_153 rfl ?_
          rw [ho4]
          refine w_iconst (pc' := 78) 1 rfl rfl ic_1 ?_
          refine w_isub (pc' := 79) rfl rfl ?_
          rw [nI_pred]
          refine w_putI (pc' := 82) rfl rfl rfl sh_153 rfl rfl rfl ?_
          refine w_iload_n (pc' := 83) rfl rfl rfl ?_
          refine w_iret rfl rfl (by first | rfl | exact am_nbB _) ?_
          rw [hb7] at hp4
          rw [show p_F tx n (u + 1) pos = (true, (p_E tx n u (pos + 1)).2.1 + 1, (p_E tx n u (pos + 1)).2.2) from (if_neg (by rw [hi33]; decide)).trans ((if_pos hi40).trans ((if_pos hb5).trans (if_pos hb7)))]
          exact q_PQ_t (q_pa.own (pos := (p_E tx n u (pos + 1)).2.1 + 1) hp4 (by omega)) am_u_eq
  · have hi33 : p_is tx n 33 pos = true := by
      have z := bB_n0.mp h6
      rw [decide_eq_true hg, Bool.true_and] at z
      exact z
    rw [decide_eq_true hg, Bool.true_and, hi33] at hp1 ho1
    have hp1 : q_pa m0 cd (pos + 1) cs m1 := hp1
    have ho1 : m1.1 153 17 = nI (g + 1) := ho1
    refine w_aload_n (pc' := 10) rfl rfl rfl rfl ?_
    refine w_cV0i (pc' := 13) (hF m1 (pos + 1) cs hp1 (p_is_lt hi33) (by omega) ho1) (by omega) rfl rfl rfl (Nat.le_of_ble_eq_true rfl) sh_153 rfl (fun m5 hm' => ?_)
    have hQ2 := hm'
    refine w_if_eq (t := 28) (pc' := 16) rfl (by decide) rfl (fun h13 => ?_) (fun h13 => ?_)
    · have hb9 : (p_F tx n u (pos + 1)).1 = false := bB_0.mp h13
      refine w_iconst (pc' := 29) 0 rfl rfl ic_0 ?_
      refine w_ist1 (pc' := 30) rfl rfl rfl ?_
      refine w_goto (pc' := 72) rfl (by decide) ?_
      refine w_aload_n (pc' := 73) rfl rfl rfl rfl ?_
      refine w_dup (pc' := 74) rfl rfl rfl ?_
      refine w_getI (pc' := 77) rfl rfl rfl sh_153 rfl ?_
      skip
      refine w_iconst (pc' := 78) 1 rfl rfl ic_1 ?_
      refine w_isub (pc' := 79) rfl rfl ?_
      skip
      refine w_putI (pc' := 82) rfl rfl rfl sh_153 rfl rfl rfl ?_
      refine w_iload_n (pc' := 83) rfl rfl rfl ?_
      refine w_iret rfl rfl (by first | rfl | exact am_nbB _) ?_
      rw [show p_F tx n (u + 1) pos = (false, (p_F tx n u (pos + 1)).2.1, []) from (if_pos hi33).trans (if_neg (by rw [hb9]; decide))]
      rw [if_neg (by rw [hb9]; decide)] at hQ2
      exact q_PQ_f hQ2.own
    · have hb10 : (p_F tx n u (pos + 1)).1 = true := bB_n0.mp h13
      rw [if_pos hb10] at hQ2
      obtain ⟨hp2, ho2⟩ := hQ2
      obtain ⟨g1, g2, g3⟩ := p_F_Gd tx n u (pos + 1) (p_is_lt hi33)
      obtain ⟨g4, g5⟩ := g3 hb10
      refine w_aload_n (pc' := 17) rfl rfl rfl rfl ?_
      refine w_iconst (pc' := 18) 0 rfl rfl ic_0 ?_
      refine w_cV1i (pc' := 21) (v_m_codes xs hp2 (by rw [List.length_append]; omega) 0) (by omega) rfl rfl rfl (Nat.le_of_ble_eq_true rfl) sh_153 rfl (fun m6 hm' => ?_)
      obtain ⟨hp3, ho3⟩ := hm'
      have ho3 := (ho3 17 (by omega)).trans ho2
      refine w_if_eq (t := 28) (pc' := 24) rfl (by decide) rfl (fun h21 => ?_) (fun h21 => ?_)
      · exact absurd h21 (by decide)
      · refine w_iconst (pc' := 25) 1 rfl rfl ic_1 ?_
        refine w_goto (pc' := 29) rfl (by decide) ?_
        refine w_ist1 (pc' := 30) rfl rfl rfl ?_
        refine w_goto (pc' := 72) rfl (by decide) ?_
        refine w_aload_n (pc' := 73) rfl rfl rfl rfl ?_
        refine w_dup (pc' := 74) rfl rfl rfl ?_
        refine w_getI (pc' := 77) rfl rfl rfl sh_153 rfl ?_
        rw [ho3]
        refine w_iconst (pc' := 78) 1 rfl rfl ic_1 ?_
        refine w_isub (pc' := 79) rfl rfl ?_
        rw [nI_pred]
        refine w_putI (pc' := 82) rfl rfl rfl sh_153 rfl rfl rfl ?_
        refine w_iload_n (pc' := 83) rfl rfl rfl ?_
        refine w_iret rfl rfl (by first | rfl | exact am_nbB _) ?_
        rw [show p_F tx n (u + 1) pos = (true, (p_F tx n u (pos + 1)).2.1, (p_F tx n u (pos + 1)).2.2 ++ [0]) from (if_pos hi33).trans (if_pos hb10)]
        rw [List.append_assoc] at hp3
        exact q_PQ_t (hp3.own (by omega)) am_u_eq
/-- all expressions, with g open ahead of them -/
theorem v_isFE (xs : List Int32) {tx : Nat → Nat} {n : Nat} {m0 : am_Mm} {cd : Nat} (ht : q_tx tx n m0) : ∀ (u : Nat), u ≤ 4 → q_PC xs 175 (6 + 3 * u) n m0 cd (p_F tx n u) (4 - u) ∧ q_PC xs 173 (8 + 3 * u) n m0 cd (p_E tx n u) (4 - u) := by
  intro u
  have hET : ∀ u d, 1 ≤ d → q_PC xs 175 d n m0 cd (p_F tx n u) (4 - u) → q_PC xs 173 (d + 2) n m0 cd (p_E tx n u) (4 - u) := fun u d hd hF =>
    have hT : q_PC xs 174 (d + 1) n m0 cd (p_sq tx n (p_F tx n u) 38 1) (4 - u) := fun _ _ _ hp hn hl ho => v_isT xs ht (p_F_Gd tx n u) hF hd hp hn hl ho
    fun _ _ _ hp hn hl ho => v_isE xs ht (p_sq_Gd (p_F_Gd tx n u)) hT (by omega) hp hn hl ho
  induction u with
  | zero =>
    intro _
    have h1 : q_PC xs 175 6 n m0 cd (p_F tx n 0) 4 := fun _ _ _ hp hn hl ho => v_isF4 xs ht hp hn hl ho
    exact ⟨h1, hET 0 6 (by omega) h1⟩
  | succ u ih =>
    intro hu
    obtain ⟨hF, hE⟩ := ih (by omega)
    have e : 4 - (u + 1) + 1 = 4 - u := by omega
    have h1 : q_PC xs 175 (6 + 3 * (u + 1)) n m0 cd (p_F tx n (u + 1)) (4 - (u + 1)) := fun m pos cs hp hn hl ho => by
      refine (v_isFu xs ht (g := 4 - (u + 1)) (d := 8 + 3 * u) (u := u) (by omega) (by omega) ?_ ?_ hp hn hl ho).up (by omega)
      · rw [e]
        exact fun m pos cs hp hn hl ho => (hF m pos cs hp hn hl ho).up (by omega)
      · rw [e]
        exact hE
    refine ⟨h1, ?_⟩
    have h2 := hET (u + 1) (6 + 3 * (u + 1)) (by omega) h1
    exact fun m pos cs hp hn hl ho => (h2 m pos cs hp hn hl ho).up (by omega)
