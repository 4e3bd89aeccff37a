theorem w_pa {xs : List Int32} {d : Nat} {M : am_M} {pc : Nat} {L : am_L} {st : List Value} {m0 m : am_Mm} {Q : am_Q} {cd pos : Nat} {cs : List Nat} {x : Int32} (h : q_pa m0 cd pos cs m) (ho : m.1 153 17 = x) (k : ∀ m', q_pa m0 cd pos cs m' → m'.1 153 17 = x → am_P xs d M pc L st m' Q) : am_P xs d M pc L st m Q := k m h ho
def numo (tx : Nat → Nat) (n : Nat) : Nat → Nat → Nat → Nat → Nat × (Nat × Nat)
  | 0, k, v, pos => (k, v, pos)
  | r + 1, k, v, pos => if p_dg tx n pos = true then numo tx n r (k + 1) (10 * v + tx pos - 48) (pos + 1) else (k, v, pos)
theorem numo_num (tx : Nat → Nat) (n pos : Nat) : numo tx n 2 0 0 pos = p_num tx n pos := by
  unfold p_num
  rw [numo]
  split
  · rw [numo]
    split
    · rename_i h1 h2
      have h1 := of_decide_eq_true h1
      have h2 := of_decide_eq_true h2
      rw [show numo tx n 0 (0 + 1 + 1) (10 * (10 * 0 + tx pos - 48) + tx (pos + 1) - 48) (pos + 1 + 1) = (0 + 1 + 1, 10 * (10 * 0 + tx pos - 48) + tx (pos + 1) - 48, pos + 1 + 1) from rfl, show 10 * (10 * 0 + tx pos - 48) + tx (pos + 1) - 48 = 10 * (tx pos - 48) + (tx (pos + 1) - 48) by omega]
    · rw [show 10 * 0 + tx pos - 48 = tx pos - 48 by omega]
  · rfl
theorem q_pa.own2 {m0 m : am_Mm} {cd pos : Nat} {cs : List Nat} (h : q_pa m0 cd pos cs m) {x : Int32} : q_pa m0 cd pos cs (am_u m 153 16 x) := h.own (by omega)
set_option maxRecDepth 100000 in
set_option maxHeartbeats 4000000 in
theorem lp_num (xs : List Int32) {tx : Nat → Nat} {n : Nat} {m0 : am_Mm} {cd : Nat} {cs : List Nat} {o : Int32} (ht : q_tx tx n m0) : ∀ (r k : Nat), k + r = 2 → ∀ (m : am_Mm) (pos v : Nat), q_pa m0 cd pos cs m → pos ≤ n → v < 100 → m.1 153 15 = nI v → m.1 153 16 = nI k → m.1 153 17 = o → (k = 1 → v < 10) → (k = 0 → v = 0) → am_P xs 2 m_isNumber 10 [some (.ref 153)] [] m (am_qi (bB (decide (0 < (numo tx n r k v pos).1))) (fun m' => q_pa m0 cd (numo tx n r k v pos).2.2 cs m' ∧ (m'.1 153 15 = nI (numo tx n r k v pos).2.1 ∧ m'.1 153 17 = o))) := by
  intro r
  induction r with
  | zero =>
    intro k hk m pos v hp hn hv9 hv hk2 ho hk1 hk0
    have hn1 := ht.1
    have ht1 := (ht.2.2 pos).2
    refine w_aload_n (pc' := 11) rfl rfl rfl rfl ?_
    refine w_getI (pc' := 14) rfl rfl rfl sh_153 rfl ?_
    rw [hk2]
    refine w_iconst (pc' := 15) 2 rfl rfl ic_2 ?_
    refine w_ic_ge (t := 72) (pc' := 18) rfl (by decide) rfl (fun h15 => ?_) (fun h15 => ?_)
    · have g1 : 2 ≤ k := (nI_leI (a := 2) (b := k) (by omega) (by omega)).mp h15
      refine w_aload_n (pc' := 73) rfl rfl rfl rfl ?_
      refine w_getI (pc' := 76) rfl rfl rfl sh_153 rfl ?_
      rw [hk2]
      refine w_if_le (t := 83) (pc' := 79) rfl (by decide) rfl (fun h76 => ?_) (fun h76 => ?_)
      · have g2 : k ≤ 0 := (nI_leI (a := k) (b := 0) (by omega) (by omega)).mp h76
        refine w_iconst (pc' := 84) 0 rfl rfl ic_0 ?_
        refine w_iret rfl rfl (by first | rfl | exact am_nbB _) ?_
        exact ⟨by rw [show decide (0 < (numo tx n 0 k v pos).1) = false from decide_eq_false (by first | omega | (show ¬ 0 < k; omega))]; rfl, hp, hv, ho⟩
      · have g3 : ¬ k ≤ 0 := fun q => h76 ((nI_leI (a := k) (b := 0) (by omega) (by omega)).mpr q)
        refine w_iconst (pc' := 80) 1 rfl rfl ic_1 ?_
        refine w_goto (pc' := 84) rfl (by decide) ?_
        refine w_iret rfl rfl (by first | rfl | exact am_nbB _) ?_
        exact ⟨by rw [show decide (0 < (numo tx n 0 k v pos).1) = true from decide_eq_true (by first | omega | (show 0 < k; omega))]; rfl, hp, hv, ho⟩
    · have g4 : ¬ 2 ≤ k := fun q => h15 ((nI_leI (a := 2) (b := k) (by omega) (by omega)).mpr q)
      omega
  | succ r ih =>
    intro k hk m pos v hp hn hv9 hv hk2 ho hk1 hk0
    have hn1 := ht.1
    have ht1 := (ht.2.2 pos).2
    refine w_aload_n (pc' := 11) rfl rfl rfl rfl ?_
    refine w_getI (pc' := 14) rfl rfl rfl sh_153 rfl ?_
    rw [hk2]
    refine w_iconst (pc' := 15) 2 rfl rfl ic_2 ?_
    refine w_ic_ge (t := 72) (pc' := 18) rfl (by decide) rfl (fun h15 => ?_) (fun h15 => ?_)
    · have g1 : 2 ≤ k := (nI_leI (a := 2) (b := k) (by omega) (by omega)).mp h15
      omega
    · have g2 : ¬ 2 ≤ k := fun q => h15 ((nI_leI (a := 2) (b := k) (by omega) (by omega)).mpr q)
      refine w_aload_n (pc' := 19) rfl rfl rfl rfl ?_
      refine w_cV0i (pc' := 22) (v_m_isDigit xs ht hp hn) (by decide) rfl rfl rfl (Nat.le_of_ble_eq_true rfl) sh_153 rfl (fun m' hm' => ?_)
      rw [show m' = m from hm']
      clear hm' m'
      refine w_if_eq (t := 72) (pc' := 25) rfl (by decide) rfl (fun h22 => ?_) (fun h22 => ?_)
      · have hb3 : p_dg tx n pos = false := bB_0.mp h22
        refine w_aload_n (pc' := 73) rfl rfl rfl rfl ?_
        refine w_getI (pc' := 76) rfl rfl rfl sh_153 rfl ?_
        rw [hk2]
        refine w_if_le (t := 83) (pc' := 79) rfl (by decide) rfl (fun h76 => ?_) (fun h76 => ?_)
        · have g4 : k ≤ 0 := (nI_leI (a := k) (b := 0) (by omega) (by omega)).mp h76
          refine w_iconst (pc' := 84) 0 rfl rfl ic_0 ?_
          refine w_iret rfl rfl (by first | rfl | exact am_nbB _) ?_
          rw [show numo tx n (r + 1) k v pos = (k, v, pos) from if_neg (by rw [hb3]; decide)]
          exact ⟨by rw [show decide (0 < k) = false from decide_eq_false (by first | omega | (show ¬ 0 < k; omega))]; rfl, hp, hv, ho⟩
        · have g5 : ¬ k ≤ 0 := fun q => h76 ((nI_leI (a := k) (b := 0) (by omega) (by omega)).mpr q)
          refine w_iconst (pc' := 80) 1 rfl rfl ic_1 ?_
          refine w_goto (pc' := 84) rfl (by decide) ?_
          refine w_iret rfl rfl (by first | rfl | exact am_nbB _) ?_
          rw [show numo tx n (r + 1) k v pos = (k, v, pos) from if_neg (by rw [hb3]; decide)]
          exact ⟨by rw [show decide (0 < k) = true from decide_eq_true (by first | omega | (show 0 < k; omega))]; rfl, hp, hv, ho⟩
      · have hb6 : p_dg tx n pos = true := bB_n0.mp h22
        have hd := of_decide_eq_true hb6
        refine id ?_
        · refine w_aload_n (pc' := 26) rfl rfl rfl rfl ?_
          refine w_bipush (pc' := 28) 10 rfl rfl bp_10 ?_
          refine w_aload_n (pc' := 29) rfl rfl rfl rfl ?_
          refine w_getI (pc' := 32) rfl rfl rfl sh_153 rfl ?_
          rw [hv]
          refine w_imul (pc' := 33) rfl rfl ?_
          rw [show (10 : Int32) * nI (v) = nI (10 * v) from nI_mul _ _]
          refine w_aload_n (pc' := 34) rfl rfl rfl rfl ?_
          refine w_getC (pc' := 37) rfl rfl rfl sh_153 rfl ?_
          refine w_aload_n (pc' := 38) rfl rfl rfl rfl ?_
          refine w_getI (pc' := 41) rfl rfl rfl sh_153 rfl ?_
          rw [show m.1 153 14 = nI pos from hp.2.2.1]
          refine w_iald (j := (pos)) (pc' := 42) rfl rfl sh_163 rfl (by omega) (by decide) ?_
          rw [show m.1 163 pos = nI (tx pos) from (ht.pa hp).2 _]
          refine w_iadd (pc' := 43) rfl rfl ?_
          rw [show nI (10 * v) + nI ((tx pos)) = nI ((10 * v) + (tx pos)) from nI_add _ _]
          refine w_bipush (pc' := 45) 48 rfl rfl bp_48 ?_
          refine w_isub (pc' := 46) rfl rfl ?_
          rw [show nI ((10 * v) + (tx pos)) - (48 : Int32) = nI (((10 * v) + (tx pos)) - 48) from nI_subN (a := (10 * v) + (tx pos)) (b := 48) (by omega)]
          refine w_putI (pc' := 49) rfl rfl rfl sh_153 rfl rfl rfl ?_
          refine w_aload_n (pc' := 50) rfl rfl rfl rfl ?_
          refine w_dup (pc' := 51) rfl rfl rfl ?_
          refine w_getI (pc' := 54) rfl rfl rfl sh_153 rfl ?_
          rw [show (am_u m 153 15 (nI (10 * v + tx pos - 48))).1 153 14 = nI pos from (am_u_ne (by omega)).trans hp.2.2.1]
          refine w_iconst (pc' := 55) 1 rfl rfl ic_1 ?_
          refine w_iadd (pc' := 56) rfl rfl ?_
          rw [show nI (pos) + (1 : Int32) = nI (pos + 1) from nI_add _ _]
          refine w_putI (pc' := 59) rfl rfl rfl sh_153 rfl rfl rfl ?_
          refine w_aload_n (pc' := 60) rfl rfl rfl rfl ?_
          refine w_dup (pc' := 61) rfl rfl rfl ?_
          refine w_getI (pc' := 64) rfl rfl rfl sh_153 rfl ?_
          rw [show (am_u (am_u m 153 15 (nI (10 * v + tx pos - 48))) 153 14 (nI (pos + 1))).1 153 16 = nI k from (am_u_ne (by omega)).trans ((am_u_ne (by omega)).trans hk2)]
          refine w_iconst (pc' := 65) 1 rfl rfl ic_1 ?_
          refine w_iadd (pc' := 66) rfl rfl ?_
          rw [show nI (k) + (1 : Int32) = nI (k + 1) from nI_add _ _]
          refine w_putI (pc' := 69) rfl rfl rfl sh_153 rfl rfl rfl ?_
          refine w_goto (pc' := 10) rfl (by decide) ?_
          rw [show numo tx n (r + 1) k v pos = numo tx n r (k + 1) (10 * v + tx pos - 48) (pos + 1) from if_pos hb6]
          exact ih (k + 1) (by omega) _ (pos + 1) (10 * v + tx pos - 48) (hp.own (by omega)).at.own2 (by omega) (by omega) ((am_u_ne (by omega)).trans ((am_u_ne (by omega)).trans am_u_eq)) am_u_eq ((am_u_ne (by omega)).trans ((am_u_ne (by omega)).trans ((am_u_ne (by omega)).trans ho))) (by omega) (by omega)
set_option maxRecDepth 100000 in
set_option maxHeartbeats 4000000 in
theorem v_m_isNumber (xs : List Int32) {tx : Nat → Nat} {n : Nat} {m0 m : am_Mm} {cd pos : Nat} {cs : List Nat} (ht : q_tx tx n m0) (hp : q_pa m0 cd pos cs m) (hn : pos ≤ n) : am_V xs 3 171 [.ref 153] m (am_qi (bB (decide (0 < (p_num tx n pos).1))) (fun m' => q_pa m0 cd (p_num tx n pos).2.2 cs m' ∧ (m'.1 153 15 = nI (p_num tx n pos).2.1 ∧ m'.1 153 17 = m.1 153 17))) := by
  refine am_V_of ky_171 (Nat.le_of_ble_eq_true rfl) ?_
  show am_P xs 2 m_isNumber 0 [some (.ref 153)] [] m _
  refine w_aload_n (pc' := 1) rfl rfl rfl rfl ?_
  refine w_iconst (pc' := 2) 0 rfl rfl ic_0 ?_
  refine w_putI (pc' := 5) rfl rfl rfl sh_153 rfl rfl rfl ?_
  refine w_aload_n (pc' := 6) rfl rfl rfl rfl ?_
  refine w_iconst (pc' := 7) 0 rfl rfl ic_0 ?_
  refine w_putI (pc' := 10) rfl rfl rfl sh_153 rfl rfl rfl ?_
  rw [← numo_num]
  exact lp_num xs ht 2 0 (by omega) _ pos 0 (hp.own (by omega)).own2 hn (by omega) ((am_u_ne (by omega)).trans am_u_eq) am_u_eq ((am_u_ne (by omega)).trans (am_u_ne (by omega))) (by omega) (by omega)
def p_all (tx : Nat → Nat) (n : Nat) : List Nat → Nat → Bool × Nat
  | [], pos => (true, pos)
  | c :: l, pos => if p_is tx n c pos = true then p_all tx n l (pos + 1) else (false, pos)
theorem p_all_le {tx : Nat → Nat} {n : Nat} : ∀ (l : List Nat) (pos : Nat), pos ≤ n → pos ≤ (p_all tx n l pos).2 ∧ (p_all tx n l pos).2 ≤ n ∧ ((p_all tx n l pos).1 = true → (p_all tx n l pos).2 = pos + l.length) := by
  intro l
  induction l with
  | nil => exact fun pos h => ⟨Nat.le_refl _, h, fun _ => rfl⟩
  | cons c l ih =>
    intro pos h
    rw [p_all]
    split
    · rename_i h1
      have h1 := of_decide_eq_true h1
      obtain ⟨a, b, e⟩ := ih (pos + 1) (by omega)
      refine ⟨by omega, b, fun q => ?_⟩
      rw [e q, List.length_cons]
      omega
    · exact ⟨Nat.le_refl _, h, fun q => absurd (show false = true from q) (by decide)⟩
set_option maxRecDepth 100000 in
set_option maxHeartbeats 4000000 in
theorem lp_all0 (xs : List Int32) {tx : Nat → Nat} {n : Nat} {m0 : am_Mm} {cd : Nat} {cs : List Nat} {o : Nat → Int32} (ht : q_tx tx n m0) : ∀ (r k : Nat), k + r = 5 → ∀ (m : am_Mm) (pos : Nat), q_pa m0 cd pos cs m → pos ≤ n → (∀ k, 15 ≤ k ∧ k ≤ 17 → m.1 153 k = o k) → am_P xs 5 m_isAll 2 [some (.ref 153), some (.ref 1000000), some (.int (nI k))] [] m (am_qi (bB (p_all tx n ((q_str 0).drop k) pos).1) (fun m' => q_pa m0 cd (p_all tx n ((q_str 0).drop k) pos).2 cs m' ∧ ∀ k, 15 ≤ k ∧ k ≤ 17 → m'.1 153 k = o k)) := by
  intro r
  induction r with
  | zero =>
    intro k hk m pos hp hn ho
    refine w_iload_n (pc' := 3) rfl rfl rfl ?_
    refine w_aload_n (pc' := 4) rfl rfl rfl rfl ?_
    refine w_cT0i (pc' := 7) (v_len0 xs m) (by decide) rfl rfl rfl (Nat.le_of_ble_eq_true rfl) (by decide) (by decide) rfl (fun m' hm' => ?_)
    rw [show m' = m from hm']
    clear hm' m'
    refine w_ic_ge (t := 30) (pc' := 10) rfl (by decide) rfl (fun h7 => ?_) (fun h7 => ?_)
    · have g1 : 5 ≤ k := (nI_leI (a := 5) (b := k) (by omega) (by omega)).mp h7
      refine w_iconst (pc' := 31) 1 rfl rfl ic_1 ?_
      refine w_iret rfl rfl (by first | rfl | exact am_nbB _) ?_
      rw [show (q_str 0).drop k = [] from List.drop_eq_nil_of_le (by show 5 ≤ k; omega)]
      exact ⟨rfl, hp, ho⟩
    · have g2 : ¬ 5 ≤ k := fun q => h7 ((nI_leI (a := 5) (b := k) (by omega) (by omega)).mpr q)
      omega
  | succ r ih =>
    intro k hk m pos hp hn ho
    refine w_iload_n (pc' := 3) rfl rfl rfl ?_
    refine w_aload_n (pc' := 4) rfl rfl rfl rfl ?_
    refine w_cT0i (pc' := 7) (v_len0 xs m) (by decide) rfl rfl rfl (Nat.le_of_ble_eq_true rfl) (by decide) (by decide) rfl (fun m' hm' => ?_)
    rw [show m' = m from hm']
    clear hm' m'
    refine w_ic_ge (t := 30) (pc' := 10) rfl (by decide) rfl (fun h7 => ?_) (fun h7 => ?_)
    · have g1 : 5 ≤ k := (nI_leI (a := 5) (b := k) (by omega) (by omega)).mp h7
      omega
    · have g2 : ¬ 5 ≤ k := fun q => h7 ((nI_leI (a := 5) (b := k) (by omega) (by omega)).mpr q)
      obtain ⟨v, hv⟩ : ∃ v, (q_str 0)[k]? = some v := ⟨(q_str 0)[k]'(by show k < 5; omega), List.getElem?_eq_getElem _⟩
      have ed : (q_str 0).drop k = v :: (q_str 0).drop (k + 1) := by
        have hk2 : k < (q_str 0).length := by show k < 5; omega
        rw [List.getElem?_eq_getElem hk2] at hv
        rw [← Option.some.inj hv]
        exact List.drop_eq_getElem_cons hk2
      have hv2 : v < 128 := (show ∀ x, x ∈ q_str 0 → x < 128 by decide) v (List.mem_of_getElem? hv)
      refine id ?_
      · refine w_aload_n (pc' := 11) rfl rfl rfl rfl ?_
        refine w_aload_n (pc' := 12) rfl rfl rfl rfl ?_
        refine w_iload_n (pc' := 13) rfl rfl rfl ?_
        refine w_cT1i (pc' := 16) (v_chr0 xs m (i := k) (v := v) (by omega) hv hv2) (by decide) rfl rfl rfl (Nat.le_of_ble_eq_true rfl) (by decide) (by decide) rfl (fun m' hm' => ?_)
        rw [show m' = m from hm']
        clear hm' m'
        refine w_cV1i (pc' := 19) (v_m_is xs ht hp hn (c := v) (by omega)) (by decide) rfl rfl rfl (Nat.le_of_ble_eq_true rfl) sh_153 rfl (fun m1 hm' => ?_)
        obtain ⟨hp1, ho1⟩ := hm'
        refine w_if_ne (t := 24) (pc' := 22) rfl (by decide) rfl (fun h19 => ?_) (fun h19 => ?_)
        · have hb3 : p_is tx n v pos = true := bB_n0.mp h19
          refine w_iinc2 (pc' := 27) 1 rfl rfl ic_1 rfl ?_
          rw [nI_inc]
          refine w_goto (pc' := 2) rfl (by decide) ?_
          rw [hb3] at hp1
          rw [ed, show p_all tx n (v :: (q_str 0).drop (k + 1)) pos = p_all tx n ((q_str 0).drop (k + 1)) (pos + 1) from if_pos hb3]
          exact ih (k + 1) (by omega) m1 (pos + 1) hp1 (by have := of_decide_eq_true hb3; omega) (fun k hk => (ho1 k hk).trans (ho k hk))
        · have hb4 : p_is tx n v pos = false := bB_0.mp h19
          refine w_iconst (pc' := 23) 0 rfl rfl ic_0 ?_
          refine w_iret rfl rfl (by first | rfl | exact am_nbB _) ?_
          rw [hb4] at hp1
          rw [ed, show p_all tx n (v :: (q_str 0).drop (k + 1)) pos = (false, pos) from if_neg (by rw [hb4]; decide)]
          exact ⟨rfl, hp1, fun k hk => (ho1 k hk).trans (ho k hk)⟩
set_option maxRecDepth 100000 in
set_option maxHeartbeats 4000000 in
theorem v_m_isAll0 (xs : List Int32) {tx : Nat → Nat} {n : Nat} {m0 m : am_Mm} {cd pos : Nat} {cs : List Nat} (ht : q_tx tx n m0) (hp : q_pa m0 cd pos cs m) (hn : pos ≤ n) : am_V xs 6 169 [.ref 153, .ref 1000000] m (am_qi (bB (p_all tx n (q_str 0) pos).1) (fun m' => q_pa m0 cd (p_all tx n (q_str 0) pos).2 cs m' ∧ ∀ k, 15 ≤ k ∧ k ≤ 17 → m'.1 153 k = m.1 153 k)) := by
  refine am_V_of ky_169 (Nat.le_of_ble_eq_true rfl) ?_
  show am_P xs 5 m_isAll 0 [some (.ref 153), some (.ref 1000000), none] [] m _
  refine w_iconst (pc' := 1) 0 rfl rfl ic_0 ?_
  refine w_ist2 (pc' := 2) rfl rfl rfl ?_
  have e0 := lp_all0 xs ht 5 0 (by omega) m pos hp hn (fun _ _ => rfl)
  rw [List.drop_zero] at e0
  exact e0
set_option maxRecDepth 100000 in
set_option maxHeartbeats 4000000 in
theorem lp_all1 (xs : List Int32) {tx : Nat → Nat} {n : Nat} {m0 : am_Mm} {cd : Nat} {cs : List Nat} {o : Nat → Int32} (ht : q_tx tx n m0) : ∀ (r k : Nat), k + r = 5 → ∀ (m : am_Mm) (pos : Nat), q_pa m0 cd pos cs m → pos ≤ n → (∀ k, 15 ≤ k ∧ k ≤ 17 → m.1 153 k = o k) → am_P xs 5 m_isAll 2 [some (.ref 153), some (.ref 1000001), some (.int (nI k))] [] m (am_qi (bB (p_all tx n ((q_str 1).drop k) pos).1) (fun m' => q_pa m0 cd (p_all tx n ((q_str 1).drop k) pos).2 cs m' ∧ ∀ k, 15 ≤ k ∧ k ≤ 17 → m'.1 153 k = o k)) := by
  intro r
  induction r with
  | zero =>
    intro k hk m pos hp hn ho
    refine w_iload_n (pc' := 3) rfl rfl rfl ?_
    refine w_aload_n (pc' := 4) rfl rfl rfl rfl ?_
    refine w_cT0i (pc' := 7) (v_len1 xs m) (by decide) rfl rfl rfl (Nat.le_of_ble_eq_true rfl) (by decide) (by decide) rfl (fun m' hm' => ?_)
    rw [show m' = m from hm']
    clear hm' m'
    refine w_ic_ge (t := 30) (pc' := 10) rfl (by decide) rfl (fun h7 => ?_) (fun h7 => ?_)
    · have g1 : 5 ≤ k := (nI_leI (a := 5) (b := k) (by omega) (by omega)).mp h7
      refine w_iconst (pc' := 31) 1 rfl rfl ic_1 ?_
      refine w_iret rfl rfl (by first | rfl | exact am_nbB _) ?_
      rw [show (q_str 1).drop k = [] from List.drop_eq_nil_of_le (by show 5 ≤ k; omega)]
      exact ⟨rfl, hp, ho⟩
    · have g2 : ¬ 5 ≤ k := fun q => h7 ((nI_leI (a := 5) (b := k) (by omega) (by omega)).mpr q)
      omega
  | succ r ih =>
    intro k hk m pos hp hn ho
    refine w_iload_n (pc' := 3) rfl rfl rfl ?_
    refine w_aload_n (pc' := 4) rfl rfl rfl rfl ?_
    refine w_cT0i (pc' := 7) (v_len1 xs m) (by decide) rfl rfl rfl (Nat.le_of_ble_eq_true rfl) (by decide) (by decide) rfl (fun m' hm' => ?_)
    rw [show m' = m from hm']
    clear hm' m'
    refine w_ic_ge (t := 30) (pc' := 10) rfl (by decide) rfl (fun h7 => ?_) (fun h7 => ?_)
    · have g1 : 5 ≤ k := (nI_leI (a := 5) (b := k) (by omega) (by omega)).mp h7
      omega
    · have g2 : ¬ 5 ≤ k := fun q => h7 ((nI_leI (a := 5) (b := k) (by omega) (by omega)).mpr q)
      obtain ⟨v, hv⟩ : ∃ v, (q_str 1)[k]? = some v := ⟨(q_str 1)[k]'(by show k < 5; omega), List.getElem?_eq_getElem _⟩
      have ed : (q_str 1).drop k = v :: (q_str 1).drop (k + 1) := by
        have hk2 : k < (q_str 1).length := by show k < 5; omega
        rw [List.getElem?_eq_getElem hk2] at hv
        rw [← Option.some.inj hv]
        exact List.drop_eq_getElem_cons hk2
      have hv2 : v < 128 := (show ∀ x, x ∈ q_str 1 → x < 128 by decide) v (List.mem_of_getElem? hv)
      refine id ?_
      · refine w_aload_n (pc' := 11) rfl rfl rfl rfl ?_
        refine w_aload_n (pc' := 12) rfl rfl rfl rfl ?_
        refine w_iload_n (pc' := 13) rfl rfl rfl ?_
        refine w_cT1i (pc' := 16) (v_chr1 xs m (i := k) (v := v) (by omega) hv hv2) (by decide) rfl rfl rfl (Nat.le_of_ble_eq_true rfl) (by decide) (by decide) rfl (fun m' hm' => ?_)
        rw [show m' = m from hm']
        clear hm' m'
        refine w_cV1i (pc' := 19) (v_m_is xs ht hp hn (c := v) (by omega)) (by decide) rfl rfl rfl (Nat.le_of_ble_eq_true rfl) sh_153 rfl (fun m1 hm' => ?_)
        obtain ⟨hp1, ho1⟩ := hm'
        refine w_if_ne (t := 24) (pc' := 22) rfl (by decide) rfl (fun h19 => ?_) (fun h19 => ?_)
        · have hb3 : p_is tx n v pos = true := bB_n0.mp h19
          refine w_iinc2 (pc' := 27) 1 rfl rfl ic_1 rfl ?_
          rw [nI_inc]
          refine w_goto (pc' := 2) rfl (by decide) ?_
          rw [hb3] at hp1
          rw [ed, show p_all tx n (v :: (q_str 1).drop (k + 1)) pos = p_all tx n ((q_str 1).drop (k + 1)) (pos + 1) from if_pos hb3]
          exact ih (k + 1) (by omega) m1 (pos + 1) hp1 (by have := of_decide_eq_true hb3; omega) (fun k hk => (ho1 k hk).trans (ho k hk))
        · have hb4 : p_is tx n v pos = false := bB_0.mp h19
          refine w_iconst (pc' := 23) 0 rfl rfl ic_0 ?_
          refine w_iret rfl rfl (by first | rfl | exact am_nbB _) ?_
          rw [hb4] at hp1
          rw [ed, show p_all tx n (v :: (q_str 1).drop (k + 1)) pos = (false, pos) from if_neg (by rw [hb4]; decide)]
          exact ⟨rfl, hp1, fun k hk => (ho1 k hk).trans (ho k hk)⟩
set_option maxRecDepth 100000 in
set_option maxHeartbeats 4000000 in
theorem v_m_isAll1 (xs : List Int32) {tx : Nat → Nat} {n : Nat} {m0 m : am_Mm} {cd pos : Nat} {cs : List Nat} (ht : q_tx tx n m0) (hp : q_pa m0 cd pos cs m) (hn : pos ≤ n) : am_V xs 6 169 [.ref 153, .ref 1000001] m (am_qi (bB (p_all tx n (q_str 1) pos).1) (fun m' => q_pa m0 cd (p_all tx n (q_str 1) pos).2 cs m' ∧ ∀ k, 15 ≤ k ∧ k ≤ 17 → m'.1 153 k = m.1 153 k)) := by
  refine am_V_of ky_169 (Nat.le_of_ble_eq_true rfl) ?_
  show am_P xs 5 m_isAll 0 [some (.ref 153), some (.ref 1000001), none] [] m _
  refine w_iconst (pc' := 1) 0 rfl rfl ic_0 ?_
  refine w_ist2 (pc' := 2) rfl rfl rfl ?_
  have e0 := lp_all1 xs ht 5 0 (by omega) m pos hp hn (fun _ _ => rfl)
  rw [List.drop_zero] at e0
  exact e0
set_option maxRecDepth 100000 in
set_option maxHeartbeats 4000000 in
theorem lp_all2 (xs : List Int32) {tx : Nat → Nat} {n : Nat} {m0 : am_Mm} {cd : Nat} {cs : List Nat} {o : Nat → Int32} (ht : q_tx tx n m0) : ∀ (r k : Nat), k + r = 5 → ∀ (m : am_Mm) (pos : Nat), q_pa m0 cd pos cs m → pos ≤ n → (∀ k, 15 ≤ k ∧ k ≤ 17 → m.1 153 k = o k) → am_P xs 5 m_isAll 2 [some (.ref 153), some (.ref 1000002), some (.int (nI k))] [] m (am_qi (bB (p_all tx n ((q_str 2).drop k) pos).1) (fun m' => q_pa m0 cd (p_all tx n ((q_str 2).drop k) pos).2 cs m' ∧ ∀ k, 15 ≤ k ∧ k ≤ 17 → m'.1 153 k = o k)) := by
  intro r
  induction r with
  | zero =>
    intro k hk m pos hp hn ho
    refine w_iload_n (pc' := 3) rfl rfl rfl ?_
    refine w_aload_n (pc' := 4) rfl rfl rfl rfl ?_
    refine w_cT0i (pc' := 7) (v_len2 xs m) (by decide) rfl rfl rfl (Nat.le_of_ble_eq_true rfl) (by decide) (by decide) rfl (fun m' hm' => ?_)
    rw [show m' = m from hm']
    clear hm' m'
    refine w_ic_ge (t := 30) (pc' := 10) rfl (by decide) rfl (fun h7 => ?_) (fun h7 => ?_)
    · have g1 : 5 ≤ k := (nI_leI (a := 5) (b := k) (by omega) (by omega)).mp h7
      refine w_iconst (pc' := 31) 1 rfl rfl ic_1 ?_
      refine w_iret rfl rfl (by first | rfl | exact am_nbB _) ?_
      rw [show (q_str 2).drop k = [] from List.drop_eq_nil_of_le (by show 5 ≤ k; omega)]
      exact ⟨rfl, hp, ho⟩
    · have g2 : ¬ 5 ≤ k := fun q => h7 ((nI_leI (a := 5) (b := k) (by omega) (by omega)).mpr q)
      omega
  | succ r ih =>
    intro k hk m pos hp hn ho
    refine w_iload_n (pc' := 3) rfl rfl rfl ?_
    refine w_aload_n (pc' := 4) rfl rfl rfl rfl ?_
    refine w_cT0i (pc' := 7) (v_len2 xs m) (by decide) rfl rfl rfl (Nat.le_of_ble_eq_true rfl) (by decide) (by decide) rfl (fun m' hm' => ?_)
    rw [show m' = m from hm']
    clear hm' m'
    refine w_ic_ge (t := 30) (pc' := 10) rfl (by decide) rfl (fun h7 => ?_) (fun h7 => ?_)
    · have g1 : 5 ≤ k := (nI_leI (a := 5) (b := k) (by omega) (by omega)).mp h7
      omega
    · have g2 : ¬ 5 ≤ k := fun q => h7 ((nI_leI (a := 5) (b := k) (by omega) (by omega)).mpr q)
      obtain ⟨v, hv⟩ : ∃ v, (q_str 2)[k]? = some v := ⟨(q_str 2)[k]'(by show k < 5; omega), List.getElem?_eq_getElem _⟩
      have ed : (q_str 2).drop k = v :: (q_str 2).drop (k + 1) := by
        have hk2 : k < (q_str 2).length := by show k < 5; omega
        rw [List.getElem?_eq_getElem hk2] at hv
        rw [← Option.some.inj hv]
        exact List.drop_eq_getElem_cons hk2
      have hv2 : v < 128 := (show ∀ x, x ∈ q_str 2 → x < 128 by decide) v (List.mem_of_getElem? hv)
      refine id ?_
      · refine w_aload_n (pc' := 11) rfl rfl rfl rfl ?_
        refine w_aload_n (pc' := 12) rfl rfl rfl rfl ?_
        refine w_iload_n (pc' := 13) rfl rfl rfl ?_
        refine w_cT1i (pc' := 16) (v_chr2 xs m (i := k) (v := v) (by omega) hv hv2) (by decide) rfl rfl rfl (Nat.le_of_ble_eq_true rfl) (by decide) (by decide) rfl (fun m' hm' => ?_)
        rw [show m' = m from hm']
        clear hm' m'
        refine w_cV1i (pc' := 19) (v_m_is xs ht hp hn (c := v) (by omega)) (by decide) rfl rfl rfl (Nat.le_of_ble_eq_true rfl) sh_153 rfl (fun m1 hm' => ?_)
        obtain ⟨hp1, ho1⟩ := hm'
        refine w_if_ne (t := 24) (pc' := 22) rfl (by decide) rfl (fun h19 => ?_) (fun h19 => ?_)
        · have hb3 : p_is tx n v pos = true := bB_n0.mp h19
          refine w_iinc2 (pc' := 27) 1 rfl rfl ic_1 rfl ?_
          rw [nI_inc]
          refine w_goto (pc' := 2) rfl (by decide) ?_
          rw [hb3] at hp1
          rw [ed, show p_all tx n (v :: (q_str 2).drop (k + 1)) pos = p_all tx n ((q_str 2).drop (k + 1)) (pos + 1) from if_pos hb3]
          exact ih (k + 1) (by omega) m1 (pos + 1) hp1 (by have := of_decide_eq_true hb3; omega) (fun k hk => (ho1 k hk).trans (ho k hk))
        · have hb4 : p_is tx n v pos = false := bB_0.mp h19
          refine w_iconst (pc' := 23) 0 rfl rfl ic_0 ?_
          refine w_iret rfl rfl (by first | rfl | exact am_nbB _) ?_
          rw [hb4] at hp1
          rw [ed, show p_all tx n (v :: (q_str 2).drop (k + 1)) pos = (false, pos) from if_neg (by rw [hb4]; decide)]
          exact ⟨rfl, hp1, fun k hk => (ho1 k hk).trans (ho k hk)⟩
set_option maxRecDepth 100000 in
set_option maxHeartbeats 4000000 in
theorem v_m_isAll2 (xs : List Int32) {tx : Nat → Nat} {n : Nat} {m0 m : am_Mm} {cd pos : Nat} {cs : List Nat} (ht : q_tx tx n m0) (hp : q_pa m0 cd pos cs m) (hn : pos ≤ n) : am_V xs 6 169 [.ref 153, .ref 1000002] m (am_qi (bB (p_all tx n (q_str 2) pos).1) (fun m' => q_pa m0 cd (p_all tx n (q_str 2) pos).2 cs m' ∧ ∀ k, 15 ≤ k ∧ k ≤ 17 → m'.1 153 k = m.1 153 k)) := by
  refine am_V_of ky_169 (Nat.le_of_ble_eq_true rfl) ?_
  show am_P xs 5 m_isAll 0 [some (.ref 153), some (.ref 1000002), none] [] m _
  refine w_iconst (pc' := 1) 0 rfl rfl ic_0 ?_
  refine w_ist2 (pc' := 2) rfl rfl rfl ?_
  have e0 := lp_all2 xs ht 5 0 (by omega) m pos hp hn (fun _ _ => rfl)
  rw [List.drop_zero] at e0
  exact e0
set_option maxRecDepth 100000 in
set_option maxHeartbeats 4000000 in
theorem v_m_isOpened (xs : List Int32) {tx : Nat → Nat} {n : Nat} {m0 m : am_Mm} {cd pos : Nat} {cs : List Nat} (ht : q_tx tx n m0) (hp : q_pa m0 cd pos cs m) (hn : pos ≤ n) {c g : Nat} (hc : c < 256) (hg : g ≤ 4) (ho : m.1 153 17 = nI g) : am_V xs 2 176 [.ref 153, .int (nI c)] m (am_qi (bB (decide (g < 4) && p_is tx n c pos)) (fun m' => q_pa m0 cd (if (decide (g < 4) && p_is tx n c pos) = true then pos + 1 else pos) cs m' ∧ m'.1 153 17 = nI (if (decide (g < 4) && p_is tx n c pos) = true then g + 1 else g))) := by
  refine am_V_of ky_176 (Nat.le_of_ble_eq_true rfl) ?_
  show am_P xs 1 m_isOpened 0 [some (.ref 153), some (.int (nI c))] [] m _
  refine w_aload_n (pc' := 1) rfl rfl rfl rfl ?_
  refine w_getI (pc' := 4) rfl rfl rfl sh_153 rfl ?_
  rw [ho]
  refine w_iconst (pc' := 5) 4 rfl rfl ic_4 ?_
  refine w_ic_eq (t := 16) (pc' := 8) rfl (by decide) rfl (fun h5 => ?_) (fun h5 => ?_)
  · have g1 : g = 4 := (nI_eq (a := g) (b := 4) (by omega) (by omega)).mp h5
    refine w_iconst (pc' := 17) 0 rfl rfl ic_0 ?_
    refine w_iret rfl rfl (by first | rfl | exact am_nbB _) ?_
    rw [show (decide (g < 4) && p_is tx n c pos) = false by rw [decide_eq_false (by omega)]; rfl]
    exact ⟨rfl, hp, ho⟩
  · have g2 : ¬ g = 4 := fun q => h5 ((nI_eq (a := g) (b := 4) (by omega) (by omega)).mpr q)
    refine w_aload_n (pc' := 9) rfl rfl rfl rfl ?_
    refine w_iload_n (pc' := 10) rfl rfl rfl ?_
    refine w_cV1i (pc' := 13) (v_m_is xs ht hp hn (c := c) hc) (by decide) rfl rfl rfl (Nat.le_of_ble_eq_true rfl) sh_153 rfl (fun m1 hm' => ?_)
    obtain ⟨hp1, ho1⟩ := hm'
    refine w_if_ne (t := 18) (pc' := 16) rfl (by decide) rfl (fun h13 => ?_) (fun h13 => ?_)
    · have hb3 : p_is tx n c pos = true := bB_n0.mp h13
      refine w_aload_n (pc' := 19) rfl rfl rfl rfl ?_
      refine w_dup (pc' := 20) rfl rfl rfl ?_
      refine w_getI (pc' := 23) rfl rfl rfl sh_153 rfl ?_
      rw [show m1.1 153 17 = nI g from (ho1 17 (by omega)).trans ho]
      refine w_iconst (pc' := 24) 1 rfl rfl ic_1 ?_
      refine w_iadd (pc' := 25) rfl rfl ?_
      rw [show nI (g) + (1 : Int32) = nI (g + 1) from nI_add _ _]
      refine w_putI (pc' := 28) rfl rfl rfl sh_153 rfl rfl rfl ?_
      refine w_iconst (pc' := 29) 1 rfl rfl ic_1 ?_
      refine w_iret rfl rfl (by first | rfl | exact am_nbB _) ?_
      rw [hb3] at hp1
      rw [show (decide (g < 4) && p_is tx n c pos) = true by rw [decide_eq_true (show g < 4 by omega), hb3]; rfl]
      exact ⟨rfl, hp1.own (by omega), am_u_eq⟩
    · have hb4 : p_is tx n c pos = false := bB_0.mp h13
      refine w_iconst (pc' := 17) 0 rfl rfl ic_0 ?_
      refine w_iret rfl rfl (by first | rfl | exact am_nbB _) ?_
      rw [hb4] at hp1
      rw [show (decide (g < 4) && p_is tx n c pos) = false by rw [hb4, Bool.and_false]]
      exact ⟨rfl, hp1, (ho1 17 (by omega)).trans ho⟩
