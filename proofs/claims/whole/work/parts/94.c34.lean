/-- the class while it reads THE TEXT into the office at 123 + 3 j: at a place; all else as at the start -/
def q_kq (m0 : am_Mm) (j pos : Nat) (m : am_Mm) : Prop :=
  (∀ c k, ¬ (c = 117 ∧ (2 ≤ k ∧ k ≤ 4)) → ¬ (123 + 3 * j ≤ c ∧ c < 126 + 3 * j) → m.1 c k = m0.1 c k) ∧ (m.2 = m0.2 ∧ (m.1 117 2 = nI pos ∧ m.1 117 4 = nI (123 + 3 * j)))
/-- the steps so far, and what is known -/
def q_ks (j kn : Nat) (ss : List (Nat × Nat)) (m : am_Mm) : Prop := m.1 (123 + 3 * j) 0 = nI kn ∧ (m.1 (123 + 3 * j) 3 = nI ss.length ∧ ∀ i s, ss[i]? = some s → m.1 (123 + 3 * j + 1) i = nI s.1 ∧ m.1 (123 + 3 * j + 2) i = nI s.2)
def q_kf (m0 : am_Mm) (j pos : Nat) (m : am_Mm) : Prop := q_kq m0 j pos m ∧ ∃ z : Nat, z ≤ 100 ∧ m.1 (123 + 3 * j) 3 = nI z
def q_ka (m0 : am_Mm) (j pos kn : Nat) (ss : List (Nat × Nat)) (m : am_Mm) : Prop := q_kq m0 j pos m ∧ (q_ks j kn ss m ∧ ss.length ≤ pos)
theorem q_ka.kf {m0 m : am_Mm} {j pos kn : Nat} {ss : List (Nat × Nat)} (h : q_ka m0 j pos kn ss m) (hp : pos ≤ 100) : q_kf m0 j pos m := ⟨h.1, ss.length, Nat.le_trans h.2.2 hp, h.2.1.2.1⟩
/-- THE TEXT is a row of n signs, there too -/
def q_ty (tx : Nat → Nat) (n : Nat) (m : am_Mm) : Prop := n ≤ 100 ∧ (m.1 117 1 = nI n ∧ ((∀ k, tx k < 128) ∧ ∀ k, k < n → m.1 118 k = nI (tx k)))
/-- nothing but the place and the number change -/
def q_k2 (q : Nat) (m m' : am_Mm) : Prop := (∀ c k, ¬ (c = 117 ∧ (k = 2 ∨ k = 3)) → m'.1 c k = m.1 c k) ∧ (m'.2 = m.2 ∧ m'.1 117 2 = nI q)
theorem q_kq.k2 {m0 m m' : am_Mm} {j pos q : Nat} (h : q_kq m0 j pos m) (h2 : q_k2 q m m') : q_kq m0 j q m' := ⟨fun c k a b => (h2.1 c k (by omega)).trans (h.1 c k a b), h2.2.1.trans h.2.1, h2.2.2, (h2.1 117 4 (by omega)).trans h.2.2.2⟩
theorem q_ks.k2 {m m' : am_Mm} {j kn q : Nat} {ss : List (Nat × Nat)} (h : q_ks j kn ss m) (h2 : q_k2 q m m') : q_ks j kn ss m' := ⟨(h2.1 _ _ (by omega)).trans h.1, (h2.1 _ _ (by omega)).trans h.2.1, fun i s hs => ⟨(h2.1 _ _ (by omega)).trans (h.2.2 i s hs).1, (h2.1 _ _ (by omega)).trans (h.2.2 i s hs).2⟩⟩
theorem q_kf.k2 {m0 m m' : am_Mm} {j pos q : Nat} (h : q_kf m0 j pos m) (h2 : q_k2 q m m') : q_kf m0 j q m' := by
  obtain ⟨h1, z, hz, h3⟩ := h
  exact ⟨h1.k2 h2, z, hz, (h2.1 _ _ (by omega)).trans h3⟩
theorem q_ka.k2 {m0 m m' : am_Mm} {j pos q kn : Nat} {ss : List (Nat × Nat)} (h : q_ka m0 j pos kn ss m) (h2 : q_k2 q m m') (hq : pos ≤ q) : q_ka m0 j q kn ss m' := ⟨h.1.k2 h2, h.2.1.k2 h2, Nat.le_trans h.2.2 hq⟩
theorem q_k2.rf {m : am_Mm} {q : Nat} (h : m.1 117 2 = nI q) : q_k2 q m m := ⟨fun _ _ _ => rfl, rfl, h⟩
theorem q_k2.at {m : am_Mm} {q : Nat} : q_k2 q m (am_u m 117 2 (nI q)) := ⟨fun c k a => am_u_ne (by omega), rfl, am_u_eq⟩
theorem q_k2.tr {m m' m'' : am_Mm} {p q : Nat} (h : q_k2 p m m') (h' : q_k2 q m' m'') : q_k2 q m m'' := ⟨fun c k a => (h'.1 c k a).trans (h.1 c k a), h'.2.1.trans h.2.1, h'.2.2⟩
/-- the sign ahead, or -1 -/
def p_ah (tx : Nat → Nat) (n pos : Nat) : Int32 := if pos < n then nI (tx pos) else -1
theorem p_ah_is {tx : Nat → Nat} {n c pos : Nat} (ht : ∀ k, tx k < 128) (hc : c < 128) : p_ah tx n pos = nI c ↔ p_is tx n c pos = true := by
  have h1 := ht pos
  unfold p_ah p_is
  rw [decide_eq_true_iff]
  split
  · rename_i h
    rw [nI_eq (a := tx pos) (b := c) (by omega) (by omega)]
    exact ⟨fun z => ⟨h, z⟩, fun z => z.2⟩
  · rename_i h
    exact ⟨fun z => absurd (show nI c < 0 by rw [← z]; decide) (nI_pos (by omega)), fun z => absurd z.1 h⟩
theorem p_ah_no {tx : Nat → Nat} {n c pos : Nat} (ht : ∀ k, tx k < 128) (hc : c < 128) (h : ¬ p_ah tx n pos = nI c) : p_is tx n c pos = false := Bool.eq_false_iff.mpr (fun z => h ((p_ah_is ht hc).mpr z))
set_option maxRecDepth 100000 in
set_option maxHeartbeats 4000000 in
theorem v_tx_ahead (xs : List Int32) {tx : Nat → Nat} {n : Nat} {m0 m : am_Mm} {j pos : Nat} (ht : q_ty tx n m0) (hj : j < 6) (hp : q_kq m0 j pos m) (hn : pos ≤ n) : am_V xs 1 61 [.ref 117] m (am_qi (p_ah tx n pos) (· = m)) := by
  have hn1 := ht.1
  have ht1 := ht.2.2.1 pos
  refine am_V_of ky_61 (Nat.le_of_ble_eq_true rfl) ?_
  show am_P xs 0 tx_ahead 0 [some (.ref 117)] [] m _
  refine w_aload_n (pc' := 1) rfl rfl rfl rfl ?_
  refine w_getI (pc' := 4) rfl rfl rfl sh_117 rfl ?_
  rw [show m.1 117 2 = nI pos from hp.2.2.1]
  refine w_if_lt (t := 39) (pc' := 7) rfl (by decide) rfl (fun h4 => ?_) (fun h4 => ?_)
  · have g1 : pos < 0 := (nI_ltI (a := pos) (b := 0) (by omega) (by omega)).mp h4
    omega
  · have g2 : ¬ pos < 0 := fun q => h4 ((nI_ltI (a := pos) (b := 0) (by omega) (by omega)).mpr q)
    refine w_aload_n (pc' := 8) rfl rfl rfl rfl ?_
    refine w_getI (pc' := 11) rfl rfl rfl sh_117 rfl ?_
    rw [show m.1 117 2 = nI pos from hp.2.2.1]
    refine w_aload_n (pc' := 12) rfl rfl rfl rfl ?_
    refine w_getI (pc' := 15) rfl rfl rfl sh_117 rfl ?_
    rw [show m.1 117 1 = nI n from (hp.1 117 1 (by omega) (by omega)).trans ht.2.1]
    refine w_ic_ge (t := 39) (pc' := 18) rfl (by decide) rfl (fun h15 => ?_) (fun h15 => ?_)
    · have g3 : n ≤ pos := (nI_leI (a := n) (b := pos) (by omega) (by omega)).mp h15
      refine w_iconst (pc' := 40) (-1) rfl rfl ic_m1 ?_
      refine w_iret rfl rfl rfl ?_
      rw [show p_ah tx n pos = -1 from if_neg (by omega)]
      exact ⟨rfl, rfl⟩
    · have g4 : ¬ n ≤ pos := fun q => h15 ((nI_leI (a := n) (b := pos) (by omega) (by omega)).mpr q)
      refine w_aload_n (pc' := 19) rfl rfl rfl rfl ?_
      refine w_getI (pc' := 22) rfl rfl rfl sh_117 rfl ?_
      rw [show m.1 117 2 = nI pos from hp.2.2.1]
      refine w_bipush (pc' := 24) 100 rfl rfl bp_100 ?_
      refine w_ic_ge (t := 39) (pc' := 27) rfl (by decide) rfl (fun h24 => ?_) (fun h24 => ?_)
      · have g5 : 100 ≤ pos := (nI_leI (a := 100) (b := pos) (by omega) (by omega)).mp h24
        omega
      · have g6 : ¬ 100 ≤ pos := fun q => h24 ((nI_leI (a := 100) (b := pos) (by omega) (by omega)).mpr q)
        refine w_aload_n (pc' := 28) rfl rfl rfl rfl ?_
        refine w_getC (pc' := 31) rfl rfl rfl sh_117 rfl ?_
        refine w_aload_n (pc' := 32) rfl rfl rfl rfl ?_
        refine w_getI (pc' := 35) rfl rfl rfl sh_117 rfl ?_
        rw [show m.1 117 2 = nI pos from hp.2.2.1]
        refine w_bald (j := (pos)) (pc' := 36) rfl rfl sh_118 (Or.inl rfl) rfl (by omega) (by decide) ?_
        rw [show m.1 118 pos = nI (tx pos) from (hp.1 118 pos (by omega) (by omega)).trans (ht.2.2.2 pos (by omega))]
        refine w_goto (pc' := 40) rfl (by decide) ?_
        refine w_iret rfl rfl rfl ?_
        rw [show p_ah tx n pos = nI (tx pos) from if_pos (by omega)]
        exact ⟨rfl, rfl⟩
set_option maxRecDepth 100000 in
set_option maxHeartbeats 4000000 in
theorem v_tx_takes (xs : List Int32) {tx : Nat → Nat} {n : Nat} {m0 m : am_Mm} {j pos : Nat} (ht : q_ty tx n m0) (hj : j < 6) (hp : q_kq m0 j pos m) (hn : pos ≤ n) {c : Nat} (hc : c < 128) : am_V xs 2 70 [.ref 117, .int (nI c)] m (am_qi (bB (p_is tx n c pos)) (fun m' => q_k2 (if p_is tx n c pos = true then pos + 1 else pos) m m')) := by
  have hn1 := ht.1
  have ht1 := ht.2.2.1 pos
  refine am_V_of ky_70 (Nat.le_of_ble_eq_true rfl) ?_
  show am_P xs 1 tx_takes 0 [some (.ref 117), some (.int (nI c))] [] m _
  refine w_aload_n (pc' := 1) rfl rfl rfl rfl ?_
  refine w_cV0i (pc' := 4) (v_tx_ahead xs ht hj hp hn) (by decide) rfl rfl rfl (Nat.le_of_ble_eq_true rfl) sh_117 rfl (fun m' hm' => ?_)
  rw [show m' = m from hm']
  clear hm' m'
  by_cases hlt : pos < n
  · rw [show p_ah tx n pos = nI (tx pos) from if_pos hlt]
    refine w_iload_n (pc' := 5) rfl rfl rfl ?_
    refine w_ic_eq (t := 10) (pc' := 8) rfl (by decide) rfl (fun h5 => ?_) (fun h5 => ?_)
    · have g1 : (tx pos) = c := (nI_eq (a := (tx pos)) (b := c) (by omega) (by omega)).mp h5
      refine w_aload_n (pc' := 11) rfl rfl rfl rfl ?_
      refine w_dup (pc' := 12) rfl rfl rfl ?_
      refine w_getI (pc' := 15) rfl rfl rfl sh_117 rfl ?_
      rw [show m.1 117 2 = nI pos from hp.2.2.1]
      refine w_iconst (pc' := 16) 1 rfl rfl ic_1 ?_
      refine w_iadd (pc' := 17) rfl rfl ?_
      rw [show nI (pos) + (1 : Int32) = nI (pos + 1) from nI_add _ _]
      refine w_putI (pc' := 20) rfl rfl rfl sh_117 rfl rfl rfl ?_
      refine w_iconst (pc' := 21) 1 rfl rfl ic_1 ?_
      refine w_iret rfl rfl (by first | rfl | exact am_nbB _) ?_
      rw [show p_is tx n c pos = true from decide_eq_true ⟨by omega, by omega⟩]
      exact ⟨rfl, q_k2.at⟩
    · have g2 : ¬ (tx pos) = c := fun q => h5 ((nI_eq (a := (tx pos)) (b := c) (by omega) (by omega)).mpr q)
      refine w_iconst (pc' := 9) 0 rfl rfl ic_0 ?_
      refine w_iret rfl rfl (by first | rfl | exact am_nbB _) ?_
      rw [show p_is tx n c pos = false from decide_eq_false (fun z => by omega)]
      exact ⟨rfl, q_k2.rf hp.2.2.1⟩
  · rw [show p_ah tx n pos = -1 from if_neg hlt]
    refine w_iload_n (pc' := 5) rfl rfl rfl ?_
    refine w_ic_eq (t := 10) (pc' := 8) rfl (by decide) rfl (fun h5 => ?_) (fun h5 => ?_)
    · exact absurd (show nI c < 0 by rw [← h5]; decide) (nI_pos (by omega))
    · refine w_iconst (pc' := 9) 0 rfl rfl ic_0 ?_
      refine w_iret rfl rfl (by first | rfl | exact am_nbB _) ?_
      rw [show p_is tx n c pos = false from decide_eq_false (fun z => by omega)]
      exact ⟨rfl, q_k2.rf hp.2.2.1⟩
set_option maxRecDepth 100000 in
set_option maxHeartbeats 4000000 in
theorem lp_dig (xs : List Int32) {tx : Nat → Nat} {n : Nat} {m0 m1 : am_Mm} {j : Nat} (ht : q_ty tx n m0) (hj : j < 6) : ∀ (r k : Nat), k + r = 2 → ∀ (m : am_Mm) (pos v : Nat), q_kq m0 j pos m → q_k2 pos m1 m → pos ≤ n → m.1 117 3 = nI v → (k = 1 → v < 10) → (k = 0 → v = 0) → am_P xs 1 tx_oneOrTwoDigits 12 [some (.ref 117), some (.int (nI k)), some (.int (p_ah tx n pos))] [] m (am_qi (bB (decide (0 < (numo tx n r k v pos).1))) (fun m' => q_k2 (numo tx n r k v pos).2.2 m1 m' ∧ m'.1 117 3 = nI (numo tx n r k v pos).2.1)) := by
  intro r
  induction r with
  | zero =>
    intro k hk m pos v hp hk hn hv hk1 hk0
    have hn1 := ht.1
    have ht1 := ht.2.2.1 pos
    refine w_iload_n (pc' := 13) rfl rfl rfl ?_
    refine w_iconst (pc' := 14) 2 rfl rfl ic_2 ?_
    refine w_ic_ge (t := 66) (pc' := 17) rfl (by decide) rfl (fun h14 => ?_) (fun h14 => ?_)
    · have g1 : 2 ≤ k := (nI_leI (a := 2) (b := k) (by omega) (by omega)).mp h14
      refine w_iload_n (pc' := 67) rfl rfl rfl ?_
      refine w_if_le (t := 74) (pc' := 70) rfl (by decide) rfl (fun h67 => ?_) (fun h67 => ?_)
      · have g2 : k ≤ 0 := (nI_leI (a := k) (b := 0) (by omega) (by omega)).mp h67
        refine w_iconst (pc' := 75) 0 rfl rfl ic_0 ?_
        refine w_iret rfl rfl (by first | rfl | exact am_nbB _) ?_
        exact ⟨by rw [show decide (0 < (numo tx n 0 k v pos).1) = false from decide_eq_false (by first | omega | (show ¬ 0 < k; omega))]; rfl, hk, hv⟩
      · have g3 : ¬ k ≤ 0 := fun q => h67 ((nI_leI (a := k) (b := 0) (by omega) (by omega)).mpr q)
        refine w_iconst (pc' := 71) 1 rfl rfl ic_1 ?_
        refine w_goto (pc' := 75) rfl (by decide) ?_
        refine w_iret rfl rfl (by first | rfl | exact am_nbB _) ?_
        exact ⟨by rw [show decide (0 < (numo tx n 0 k v pos).1) = true from decide_eq_true (by first | omega | (show 0 < k; omega))]; rfl, hk, hv⟩
    · have g4 : ¬ 2 ≤ k := fun q => h14 ((nI_leI (a := 2) (b := k) (by omega) (by omega)).mpr q)
      omega
  | succ r ih =>
    intro k hk m pos v hp hk hn hv hk1 hk0
    have hn1 := ht.1
    have ht1 := ht.2.2.1 pos
    refine w_iload_n (pc' := 13) rfl rfl rfl ?_
    refine w_iconst (pc' := 14) 2 rfl rfl ic_2 ?_
    refine w_ic_ge (t := 66) (pc' := 17) rfl (by decide) rfl (fun h14 => ?_) (fun h14 => ?_)
    · have g1 : 2 ≤ k := (nI_leI (a := 2) (b := k) (by omega) (by omega)).mp h14
      omega
    · have g2 : ¬ 2 ≤ k := fun q => h14 ((nI_leI (a := 2) (b := k) (by omega) (by omega)).mpr q)
      by_cases hlt : pos < n
      · rw [show p_ah tx n pos = nI (tx pos) from if_pos hlt]
        refine w_iload_n (pc' := 18) rfl rfl rfl ?_
        refine w_bipush (pc' := 20) 48 rfl rfl bp_48 ?_
        refine w_ic_lt (t := 66) (pc' := 23) rfl (by decide) rfl (fun h20 => ?_) (fun h20 => ?_)
        · have g3 : (tx pos) < 48 := (nI_ltI (a := (tx pos)) (b := 48) (by omega) (by omega)).mp h20
          refine w_iload_n (pc' := 67) rfl rfl rfl ?_
          refine w_if_le (t := 74) (pc' := 70) rfl (by decide) rfl (fun h67 => ?_) (fun h67 => ?_)
          · have g4 : k ≤ 0 := (nI_leI (a := k) (b := 0) (by omega) (by omega)).mp h67
            refine w_iconst (pc' := 75) 0 rfl rfl ic_0 ?_
            refine w_iret rfl rfl (by first | rfl | exact am_nbB _) ?_
            rw [show numo tx n (r + 1) k v pos = (k, v, pos) from if_neg (by rw [show p_dg tx n pos = false from decide_eq_false (fun z => by omega)]; decide)]
            exact ⟨by rw [show decide (0 < k) = false from decide_eq_false (by first | omega | (show ¬ 0 < k; omega))]; rfl, hk, hv⟩
          · have g5 : ¬ k ≤ 0 := fun q => h67 ((nI_leI (a := k) (b := 0) (by omega) (by omega)).mpr q)
            refine w_iconst (pc' := 71) 1 rfl rfl ic_1 ?_
            refine w_goto (pc' := 75) rfl (by decide) ?_
            refine w_iret rfl rfl (by first | rfl | exact am_nbB _) ?_
            rw [show numo tx n (r + 1) k v pos = (k, v, pos) from if_neg (by rw [show p_dg tx n pos = false from decide_eq_false (fun z => by omega)]; decide)]
            exact ⟨by rw [show decide (0 < k) = true from decide_eq_true (by first | omega | (show 0 < k; omega))]; rfl, hk, hv⟩
        · have g6 : ¬ (tx pos) < 48 := fun q => h20 ((nI_ltI (a := (tx pos)) (b := 48) (by omega) (by omega)).mpr q)
          refine w_iload_n (pc' := 24) rfl rfl rfl ?_
          refine w_bipush (pc' := 26) 57 rfl rfl bp_57 ?_
          refine w_ic_gt (t := 66) (pc' := 29) rfl (by decide) rfl (fun h26 => ?_) (fun h26 => ?_)
          · have g7 : 57 < (tx pos) := (nI_ltI (a := 57) (b := (tx pos)) (by omega) (by omega)).mp h26
            refine w_iload_n (pc' := 67) rfl rfl rfl ?_
            refine w_if_le (t := 74) (pc' := 70) rfl (by decide) rfl (fun h67 => ?_) (fun h67 => ?_)
            · have g8 : k ≤ 0 := (nI_leI (a := k) (b := 0) (by omega) (by omega)).mp h67
              refine w_iconst (pc' := 75) 0 rfl rfl ic_0 ?_
              refine w_iret rfl rfl (by first | rfl | exact am_nbB _) ?_
              rw [show numo tx n (r + 1) k v pos = (k, v, pos) from if_neg (by rw [show p_dg tx n pos = false from decide_eq_false (fun z => by omega)]; decide)]
              exact ⟨by rw [show decide (0 < k) = false from decide_eq_false (by first | omega | (show ¬ 0 < k; omega))]; rfl, hk, hv⟩
            · have g9 : ¬ k ≤ 0 := fun q => h67 ((nI_leI (a := k) (b := 0) (by omega) (by omega)).mpr q)
              refine w_iconst (pc' := 71) 1 rfl rfl ic_1 ?_
              refine w_goto (pc' := 75) rfl (by decide) ?_
              refine w_iret rfl rfl (by first | rfl | exact am_nbB _) ?_
              rw [show numo tx n (r + 1) k v pos = (k, v, pos) from if_neg (by rw [show p_dg tx n pos = false from decide_eq_false (fun z => by omega)]; decide)]
              exact ⟨by rw [show decide (0 < k) = true from decide_eq_true (by first | omega | (show 0 < k; omega))]; rfl, hk, hv⟩
          · have g10 : ¬ 57 < (tx pos) := fun q => h26 ((nI_ltI (a := 57) (b := (tx pos)) (by omega) (by omega)).mpr q)
            refine w_aload_n (pc' := 30) rfl rfl rfl rfl ?_
            refine w_aload_n (pc' := 31) rfl rfl rfl rfl ?_
            refine w_getI (pc' := 34) rfl rfl rfl sh_117 rfl ?_
            rw [hv]
            refine w_bipush (pc' := 36) 10 rfl rfl bp_10 ?_
            refine w_imul (pc' := 37) rfl rfl ?_
            rw [show nI (v) * (10 : Int32) = nI (v * 10) from nI_mul _ _]
            refine w_iload_n (pc' := 38) rfl rfl rfl ?_
            refine w_bipush (pc' := 40) 48 rfl rfl bp_48 ?_
            refine w_isub (pc' := 41) rfl rfl ?_
            rw [show nI ((tx pos)) - (48 : Int32) = nI ((tx pos) - 48) from nI_subN (a := (tx pos)) (b := 48) (by omega)]
            refine w_iadd (pc' := 42) rfl rfl ?_
            rw [show nI (v * 10) + nI (((tx pos) - 48)) = nI ((v * 10) + ((tx pos) - 48)) from nI_add _ _]
            refine w_putI (pc' := 45) rfl rfl rfl sh_117 rfl rfl rfl ?_
            refine w_iinc1 (pc' := 48) 1 rfl rfl ic_1 rfl ?_
            rw [nI_inc]
            refine w_aload_n (pc' := 49) rfl rfl rfl rfl ?_
            refine w_dup (pc' := 50) rfl rfl rfl ?_
            refine w_getI (pc' := 53) rfl rfl rfl sh_117 rfl ?_
            rw [show (am_u m 117 3 (nI (v * 10 + (tx pos - 48)))).1 117 2 = nI pos from (am_u_ne (by omega)).trans hp.2.2.1]
            refine w_iconst (pc' := 54) 1 rfl rfl ic_1 ?_
            refine w_iadd (pc' := 55) rfl rfl ?_
            rw [show nI (pos) + (1 : Int32) = nI (pos + 1) from nI_add _ _]
            refine w_putI (pc' := 58) rfl rfl rfl sh_117 rfl rfl rfl ?_
            refine w_any (fun q => q_kq m0 j (pos + 1) q ∧ (q_k2 (pos + 1) m1 q ∧ q.1 117 3 = nI (v * 10 + (tx pos - 48)))) ⟨⟨fun c k a b => (am_u_ne (by omega)).trans ((am_u_ne (by omega)).trans (hp.1 c k a b)), hp.2.1, am_u_eq, (am_u_ne (by omega)).trans ((am_u_ne (by omega)).trans hp.2.2.2)⟩, ⟨fun c k a => (am_u_ne (by omega)).trans ((am_u_ne (by omega)).trans (hk.1 c k a)), hk.2.1, am_u_eq⟩, (am_u_ne (by omega)).trans am_u_eq⟩ (fun m2 hm2 => ?_)
            obtain ⟨hp2, hk2, hv2⟩ := hm2
            refine w_aload_n (pc' := 59) rfl rfl rfl rfl ?_
            refine w_cV0i (pc' := 62) (v_tx_ahead xs ht hj hp2 (by omega)) (by decide) rfl rfl rfl (Nat.le_of_ble_eq_true rfl) sh_117 rfl (fun m' hm' => ?_)
            rw [show m' = m2 from hm']
            clear hm' m'
            refine w_ist2 (pc' := 63) rfl rfl rfl ?_
            refine w_goto (pc' := 12) rfl (by decide) ?_
            rw [show numo tx n (r + 1) k v pos = numo tx n r (k + 1) (10 * v + tx pos - 48) (pos + 1) from if_pos (show p_dg tx n pos = true from decide_eq_true ⟨by omega, by omega, by omega⟩)]
            exact ih (k + 1) (by omega) m2 (pos + 1) (10 * v + tx pos - 48) hp2 hk2 (by omega) (hv2.trans (congrArg nI (by omega))) (by omega) (by omega)
      · rw [show p_ah tx n pos = -1 from if_neg hlt]
        refine w_iload_n (pc' := 18) rfl rfl rfl ?_
        refine w_bipush (pc' := 20) 48 rfl rfl bp_48 ?_
        refine w_ic_lt (t := 66) (pc' := 23) rfl (by decide) rfl (fun h20 => ?_) (fun h20 => ?_)
        · refine w_iload_n (pc' := 67) rfl rfl rfl ?_
          refine w_if_le (t := 74) (pc' := 70) rfl (by decide) rfl (fun h67 => ?_) (fun h67 => ?_)
          · have g11 : k ≤ 0 := (nI_leI (a := k) (b := 0) (by omega) (by omega)).mp h67
            refine w_iconst (pc' := 75) 0 rfl rfl ic_0 ?_
            refine w_iret rfl rfl (by first | rfl | exact am_nbB _) ?_
            rw [show numo tx n (r + 1) k v pos = (k, v, pos) from if_neg (by rw [show p_dg tx n pos = false from decide_eq_false (fun z => by omega)]; decide)]
            exact ⟨by rw [show decide (0 < k) = false from decide_eq_false (by first | omega | (show ¬ 0 < k; omega))]; rfl, hk, hv⟩
          · have g12 : ¬ k ≤ 0 := fun q => h67 ((nI_leI (a := k) (b := 0) (by omega) (by omega)).mpr q)
            refine w_iconst (pc' := 71) 1 rfl rfl ic_1 ?_
            refine w_goto (pc' := 75) rfl (by decide) ?_
            refine w_iret rfl rfl (by first | rfl | exact am_nbB _) ?_
            rw [show numo tx n (r + 1) k v pos = (k, v, pos) from if_neg (by rw [show p_dg tx n pos = false from decide_eq_false (fun z => by omega)]; decide)]
            exact ⟨by rw [show decide (0 < k) = true from decide_eq_true (by first | omega | (show 0 < k; omega))]; rfl, hk, hv⟩
        · exact absurd h20 (by decide)
set_option maxRecDepth 100000 in
set_option maxHeartbeats 4000000 in
theorem v_tx_digits (xs : List Int32) {tx : Nat → Nat} {n : Nat} {m0 m : am_Mm} {j pos : Nat} (ht : q_ty tx n m0) (hj : j < 6) (hp : q_kq m0 j pos m) (hn : pos ≤ n) : am_V xs 2 71 [.ref 117] m (am_qi (bB (decide (0 < (p_num tx n pos).1))) (fun m' => q_k2 (p_num tx n pos).2.2 m m' ∧ m'.1 117 3 = nI (p_num tx n pos).2.1)) := by
  refine am_V_of ky_71 (Nat.le_of_ble_eq_true rfl) ?_
  show am_P xs 1 tx_oneOrTwoDigits 0 [some (.ref 117), none, none] [] m _
  refine w_aload_n (pc' := 1) rfl rfl rfl rfl ?_
  refine w_iconst (pc' := 2) 0 rfl rfl ic_0 ?_
  refine w_putI (pc' := 5) rfl rfl rfl sh_117 rfl rfl rfl ?_
  refine w_any (fun q => q_kq m0 j pos q ∧ (q_k2 pos m q ∧ q.1 117 3 = nI 0)) ⟨⟨fun c k a b => (am_u_ne (by omega)).trans (hp.1 c k a b), hp.2.1, (am_u_ne (by omega)).trans hp.2.2.1, (am_u_ne (by omega)).trans hp.2.2.2⟩, ⟨fun c k a => am_u_ne (by omega), rfl, (am_u_ne (by omega)).trans hp.2.2.1⟩, am_u_eq⟩ (fun m1 hm1 => ?_)
  obtain ⟨hp1, hk1, hv1⟩ := hm1
  refine w_iconst (pc' := 6) 0 rfl rfl ic_0 ?_
  refine w_ist1 (pc' := 7) rfl rfl rfl ?_
  refine w_aload_n (pc' := 8) rfl rfl rfl rfl ?_
  refine w_cV0i (pc' := 11) (v_tx_ahead xs ht hj hp1 hn) (by decide) rfl rfl rfl (Nat.le_of_ble_eq_true rfl) sh_117 rfl (fun m' hm' => ?_)
  rw [show m' = m1 from hm']
  clear hm' m'
  refine w_ist2 (pc' := 12) rfl rfl rfl ?_
  rw [← numo_num]
  exact lp_dig xs ht hj 2 0 (by omega) m1 pos 0 hp1 hk1 hn hv1 (by omega) (by omega)
set_option maxRecDepth 100000 in
set_option maxHeartbeats 4000000 in
theorem lp_tall0 (xs : List Int32) {tx : Nat → Nat} {n : Nat} {m0 m1 : am_Mm} {j : Nat} (ht : q_ty tx n m0) (hj : j < 6) : ∀ (r k : Nat), k + r = 5 → ∀ (m : am_Mm) (pos : Nat), q_kq m0 j pos m → q_k2 pos m1 m → pos ≤ n → am_P xs 5 tx_takesAll 2 [some (.ref 117), some (.ref 1000000), some (.int (nI k))] [] m (am_qi (bB (p_all tx n ((q_str 0).drop k) pos).1) (fun m' => q_k2 (p_all tx n ((q_str 0).drop k) pos).2 m1 m')) := by
  intro r
  induction r with
  | zero =>
    intro k hk m pos hp hk1 hn
    refine w_iload_n (pc' := 3) rfl rfl rfl ?_
    refine w_aload_n (pc' := 4) rfl rfl rfl rfl ?_
    refine w_cT0i (pc' := 7) (v_len0 xs m) (by decide) rfl rfl rfl (Nat.le_of_ble_eq_true rfl) (by decide) (by decide) rfl (fun m' hm' => ?_)
    rw [show m' = m from hm']
    clear hm' m'
    refine w_ic_ge (t := 30) (pc' := 10) rfl (by decide) rfl (fun h7 => ?_) (fun h7 => ?_)
    · have g1 : 5 ≤ k := (nI_leI (a := 5) (b := k) (by omega) (by omega)).mp h7
      refine w_iconst (pc' := 31) 1 rfl rfl ic_1 ?_
      refine w_iret rfl rfl (by first | rfl | exact am_nbB _) ?_
      rw [show (q_str 0).drop k = [] from List.drop_eq_nil_of_le (by show 5 ≤ k; omega)]
      exact ⟨rfl, hk1⟩
    · have g2 : ¬ 5 ≤ k := fun q => h7 ((nI_leI (a := 5) (b := k) (by omega) (by omega)).mpr q)
      omega
  | succ r ih =>
    intro k hk m pos hp hk1 hn
    refine w_iload_n (pc' := 3) rfl rfl rfl ?_
    refine w_aload_n (pc' := 4) rfl rfl rfl rfl ?_
    refine w_cT0i (pc' := 7) (v_len0 xs m) (by decide) rfl rfl rfl (Nat.le_of_ble_eq_true rfl) (by decide) (by decide) rfl (fun m' hm' => ?_)
    rw [show m' = m from hm']
    clear hm' m'
    refine w_ic_ge (t := 30) (pc' := 10) rfl (by decide) rfl (fun h7 => ?_) (fun h7 => ?_)
    · have g1 : 5 ≤ k := (nI_leI (a := 5) (b := k) (by omega) (by omega)).mp h7
      omega
    · have g2 : ¬ 5 ≤ k := fun q => h7 ((nI_leI (a := 5) (b := k) (by omega) (by omega)).mpr q)
      obtain ⟨v, hv⟩ : ∃ v, (q_str 0)[k]? = some v := ⟨(q_str 0)[k]'(by show k < 5; omega), List.getElem?_eq_getElem _⟩
      have ed : (q_str 0).drop k = v :: (q_str 0).drop (k + 1) := by
        have hk2 : k < (q_str 0).length := by show k < 5; omega
        rw [List.getElem?_eq_getElem hk2] at hv
        rw [← Option.some.inj hv]
        exact List.drop_eq_getElem_cons hk2
      have hv2 : v < 128 := (show ∀ x, x ∈ q_str 0 → x < 128 by decide) v (List.mem_of_getElem? hv)
      refine id ?_
      · refine w_aload_n (pc' := 11) rfl rfl rfl rfl ?_
        refine w_aload_n (pc' := 12) rfl rfl rfl rfl ?_
        refine w_iload_n (pc' := 13) rfl rfl rfl ?_
        refine w_cT1i (pc' := 16) (v_chr0 xs m (i := k) (v := v) (by omega) hv hv2) (by decide) rfl rfl rfl (Nat.le_of_ble_eq_true rfl) (by decide) (by decide) rfl (fun m' hm' => ?_)
        rw [show m' = m from hm']
        clear hm' m'
        refine w_cV1i (pc' := 19) (v_tx_takes xs ht hj hp hn (c := v) hv2) (by decide) rfl rfl rfl (Nat.le_of_ble_eq_true rfl) sh_117 rfl (fun m2 hm' => ?_)
        have hz1 := hm'
        refine w_if_ne (t := 24) (pc' := 22) rfl (by decide) rfl (fun h19 => ?_) (fun h19 => ?_)
        · have hb3 : p_is tx n v pos = true := bB_n0.mp h19
          refine w_iinc2 (pc' := 27) 1 rfl rfl ic_1 rfl ?_
          rw [nI_inc]
          refine w_goto (pc' := 2) rfl (by decide) ?_
          rw [hb3] at hz1
          have hz1 : q_k2 (pos + 1) m m2 := hz1
          rw [ed, show p_all tx n (v :: (q_str 0).drop (k + 1)) pos = p_all tx n ((q_str 0).drop (k + 1)) (pos + 1) from if_pos hb3]
          exact ih (k + 1) (by omega) m2 (pos + 1) (hp.k2 hz1) (hk1.tr hz1) (by have := of_decide_eq_true hb3; omega)
        · have hb4 : p_is tx n v pos = false := bB_0.mp h19
          refine w_iconst (pc' := 23) 0 rfl rfl ic_0 ?_
          refine w_iret rfl rfl (by first | rfl | exact am_nbB _) ?_
          rw [hb4] at hz1
          rw [ed, show p_all tx n (v :: (q_str 0).drop (k + 1)) pos = (false, pos) from if_neg (by rw [hb4]; decide)]
          exact ⟨rfl, hk1.tr hz1⟩
set_option maxRecDepth 100000 in
set_option maxHeartbeats 4000000 in
theorem v_tx_takesAll0 (xs : List Int32) {tx : Nat → Nat} {n : Nat} {m0 m : am_Mm} {j pos : Nat} (ht : q_ty tx n m0) (hj : j < 6) (hp : q_kq m0 j pos m) (hn : pos ≤ n) : am_V xs 6 62 [.ref 117, .ref 1000000] m (am_qi (bB (p_all tx n (q_str 0) pos).1) (fun m' => q_k2 (p_all tx n (q_str 0) pos).2 m m')) := by
  refine am_V_of ky_62 (Nat.le_of_ble_eq_true rfl) ?_
  show am_P xs 5 tx_takesAll 0 [some (.ref 117), some (.ref 1000000), none] [] m _
  refine w_iconst (pc' := 1) 0 rfl rfl ic_0 ?_
  refine w_ist2 (pc' := 2) rfl rfl rfl ?_
  have e0 := lp_tall0 xs ht hj 5 0 (by omega) m pos hp (q_k2.rf hp.2.2.1) hn
  rw [List.drop_zero] at e0
  exact e0
set_option maxRecDepth 100000 in
set_option maxHeartbeats 4000000 in
theorem lp_tall1 (xs : List Int32) {tx : Nat → Nat} {n : Nat} {m0 m1 : am_Mm} {j : Nat} (ht : q_ty tx n m0) (hj : j < 6) : ∀ (r k : Nat), k + r = 5 → ∀ (m : am_Mm) (pos : Nat), q_kq m0 j pos m → q_k2 pos m1 m → pos ≤ n → am_P xs 5 tx_takesAll 2 [some (.ref 117), some (.ref 1000001), some (.int (nI k))] [] m (am_qi (bB (p_all tx n ((q_str 1).drop k) pos).1) (fun m' => q_k2 (p_all tx n ((q_str 1).drop k) pos).2 m1 m')) := by
  intro r
  induction r with
  | zero =>
    intro k hk m pos hp hk1 hn
    refine w_iload_n (pc' := 3) rfl rfl rfl ?_
    refine w_aload_n (pc' := 4) rfl rfl rfl rfl ?_
    refine w_cT0i (pc' := 7) (v_len1 xs m) (by decide) rfl rfl rfl (Nat.le_of_ble_eq_true rfl) (by decide) (by decide) rfl (fun m' hm' => ?_)
    rw [show m' = m from hm']
    clear hm' m'
    refine w_ic_ge (t := 30) (pc' := 10) rfl (by decide) rfl (fun h7 => ?_) (fun h7 => ?_)
    · have g1 : 5 ≤ k := (nI_leI (a := 5) (b := k) (by omega) (by omega)).mp h7
      refine w_iconst (pc' := 31) 1 rfl rfl ic_1 ?_
      refine w_iret rfl rfl (by first | rfl | exact am_nbB _) ?_
      rw [show (q_str 1).drop k = [] from List.drop_eq_nil_of_le (by show 5 ≤ k; omega)]
      exact ⟨rfl, hk1⟩
    · have g2 : ¬ 5 ≤ k := fun q => h7 ((nI_leI (a := 5) (b := k) (by omega) (by omega)).mpr q)
      omega
  | succ r ih =>
    intro k hk m pos hp hk1 hn
    refine w_iload_n (pc' := 3) rfl rfl rfl ?_
    refine w_aload_n (pc' := 4) rfl rfl rfl rfl ?_
    refine w_cT0i (pc' := 7) (v_len1 xs m) (by decide) rfl rfl rfl (Nat.le_of_ble_eq_true rfl) (by decide) (by decide) rfl (fun m' hm' => ?_)
    rw [show m' = m from hm']
    clear hm' m'
    refine w_ic_ge (t := 30) (pc' := 10) rfl (by decide) rfl (fun h7 => ?_) (fun h7 => ?_)
    · have g1 : 5 ≤ k := (nI_leI (a := 5) (b := k) (by omega) (by omega)).mp h7
      omega
    · have g2 : ¬ 5 ≤ k := fun q => h7 ((nI_leI (a := 5) (b := k) (by omega) (by omega)).mpr q)
      obtain ⟨v, hv⟩ : ∃ v, (q_str 1)[k]? = some v := ⟨(q_str 1)[k]'(by show k < 5; omega), List.getElem?_eq_getElem _⟩
      have ed : (q_str 1).drop k = v :: (q_str 1).drop (k + 1) := by
        have hk2 : k < (q_str 1).length := by show k < 5; omega
        rw [List.getElem?_eq_getElem hk2] at hv
        rw [← Option.some.inj hv]
        exact List.drop_eq_getElem_cons hk2
      have hv2 : v < 128 := (show ∀ x, x ∈ q_str 1 → x < 128 by decide) v (List.mem_of_getElem? hv)
      refine id ?_
      · refine w_aload_n (pc' := 11) rfl rfl rfl rfl ?_
        refine w_aload_n (pc' := 12) rfl rfl rfl rfl ?_
        refine w_iload_n (pc' := 13) rfl rfl rfl ?_
        refine w_cT1i (pc' := 16) (v_chr1 xs m (i := k) (v := v) (by omega) hv hv2) (by decide) rfl rfl rfl (Nat.le_of_ble_eq_true rfl) (by decide) (by decide) rfl (fun m' hm' => ?_)
        rw [show m' = m from hm']
        clear hm' m'
        refine w_cV1i (pc' := 19) (v_tx_takes xs ht hj hp hn (c := v) hv2) (by decide) rfl rfl rfl (Nat.le_of_ble_eq_true rfl) sh_117 rfl (fun m2 hm' => ?_)
        have hz1 := hm'
        refine w_if_ne (t := 24) (pc' := 22) rfl (by decide) rfl (fun h19 => ?_) (fun h19 => ?_)
        · have hb3 : p_is tx n v pos = true := bB_n0.mp h19
          refine w_iinc2 (pc' := 27) 1 rfl rfl ic_1 rfl ?_
          rw [nI_inc]
          refine w_goto (pc' := 2) rfl (by decide) ?_
          rw [hb3] at hz1
          have hz1 : q_k2 (pos + 1) m m2 := hz1
          rw [ed, show p_all tx n (v :: (q_str 1).drop (k + 1)) pos = p_all tx n ((q_str 1).drop (k + 1)) (pos + 1) from if_pos hb3]
          exact ih (k + 1) (by omega) m2 (pos + 1) (hp.k2 hz1) (hk1.tr hz1) (by have := of_decide_eq_true hb3; omega)
        · have hb4 : p_is tx n v pos = false := bB_0.mp h19
          refine w_iconst (pc' := 23) 0 rfl rfl ic_0 ?_
          refine w_iret rfl rfl (by first | rfl | exact am_nbB _) ?_
          rw [hb4] at hz1
          rw [ed, show p_all tx n (v :: (q_str 1).drop (k + 1)) pos = (false, pos) from if_neg (by rw [hb4]; decide)]
          exact ⟨rfl, hk1.tr hz1⟩
set_option maxRecDepth 100000 in
set_option maxHeartbeats 4000000 in
theorem v_tx_takesAll1 (xs : List Int32) {tx : Nat → Nat} {n : Nat} {m0 m : am_Mm} {j pos : Nat} (ht : q_ty tx n m0) (hj : j < 6) (hp : q_kq m0 j pos m) (hn : pos ≤ n) : am_V xs 6 62 [.ref 117, .ref 1000001] m (am_qi (bB (p_all tx n (q_str 1) pos).1) (fun m' => q_k2 (p_all tx n (q_str 1) pos).2 m m')) := by
  refine am_V_of ky_62 (Nat.le_of_ble_eq_true rfl) ?_
  show am_P xs 5 tx_takesAll 0 [some (.ref 117), some (.ref 1000001), none] [] m _
  refine w_iconst (pc' := 1) 0 rfl rfl ic_0 ?_
  refine w_ist2 (pc' := 2) rfl rfl rfl ?_
  have e0 := lp_tall1 xs ht hj 5 0 (by omega) m pos hp (q_k2.rf hp.2.2.1) hn
  rw [List.drop_zero] at e0
  exact e0
set_option maxRecDepth 100000 in
set_option maxHeartbeats 4000000 in
theorem lp_tall2 (xs : List Int32) {tx : Nat → Nat} {n : Nat} {m0 m1 : am_Mm} {j : Nat} (ht : q_ty tx n m0) (hj : j < 6) : ∀ (r k : Nat), k + r = 5 → ∀ (m : am_Mm) (pos : Nat), q_kq m0 j pos m → q_k2 pos m1 m → pos ≤ n → am_P xs 5 tx_takesAll 2 [some (.ref 117), some (.ref 1000002), some (.int (nI k))] [] m (am_qi (bB (p_all tx n ((q_str 2).drop k) pos).1) (fun m' => q_k2 (p_all tx n ((q_str 2).drop k) pos).2 m1 m')) := by
  intro r
  induction r with
  | zero =>
    intro k hk m pos hp hk1 hn
    refine w_iload_n (pc' := 3) rfl rfl rfl ?_
    refine w_aload_n (pc' := 4) rfl rfl rfl rfl ?_
    refine w_cT0i (pc' := 7) (v_len2 xs m) (by decide) rfl rfl rfl (Nat.le_of_ble_eq_true rfl) (by decide) (by decide) rfl (fun m' hm' => ?_)
    rw [show m' = m from hm']
    clear hm' m'
    refine w_ic_ge (t := 30) (pc' := 10) rfl (by decide) rfl (fun h7 => ?_) (fun h7 => ?_)
    · have g1 : 5 ≤ k := (nI_leI (a := 5) (b := k) (by omega) (by omega)).mp h7
      refine w_iconst (pc' := 31) 1 rfl rfl ic_1 ?_
      refine w_iret rfl rfl (by first | rfl | exact am_nbB _) ?_
      rw [show (q_str 2).drop k = [] from List.drop_eq_nil_of_le (by show 5 ≤ k; omega)]
      exact ⟨rfl, hk1⟩
    · have g2 : ¬ 5 ≤ k := fun q => h7 ((nI_leI (a := 5) (b := k) (by omega) (by omega)).mpr q)
      omega
  | succ r ih =>
    intro k hk m pos hp hk1 hn
    refine w_iload_n (pc' := 3) rfl rfl rfl ?_
    refine w_aload_n (pc' := 4) rfl rfl rfl rfl ?_
    refine w_cT0i (pc' := 7) (v_len2 xs m) (by decide) rfl rfl rfl (Nat.le_of_ble_eq_true rfl) (by decide) (by decide) rfl (fun m' hm' => ?_)
    rw [show m' = m from hm']
    clear hm' m'
    refine w_ic_ge (t := 30) (pc' := 10) rfl (by decide) rfl (fun h7 => ?_) (fun h7 => ?_)
    · have g1 : 5 ≤ k := (nI_leI (a := 5) (b := k) (by omega) (by omega)).mp h7
      omega
    · have g2 : ¬ 5 ≤ k := fun q => h7 ((nI_leI (a := 5) (b := k) (by omega) (by omega)).mpr q)
      obtain ⟨v, hv⟩ : ∃ v, (q_str 2)[k]? = some v := ⟨(q_str 2)[k]'(by show k < 5; omega), List.getElem?_eq_getElem _⟩
      have ed : (q_str 2).drop k = v :: (q_str 2).drop (k + 1) := by
        have hk2 : k < (q_str 2).length := by show k < 5; omega
        rw [List.getElem?_eq_getElem hk2] at hv
        rw [← Option.some.inj hv]
        exact List.drop_eq_getElem_cons hk2
      have hv2 : v < 128 := (show ∀ x, x ∈ q_str 2 → x < 128 by decide) v (List.mem_of_getElem? hv)
      refine id ?_
      · refine w_aload_n (pc' := 11) rfl rfl rfl rfl ?_
        refine w_aload_n (pc' := 12) rfl rfl rfl rfl ?_
        refine w_iload_n (pc' := 13) rfl rfl rfl ?_
        refine w_cT1i (pc' := 16) (v_chr2 xs m (i := k) (v := v) (by omega) hv hv2) (by decide) rfl rfl rfl (Nat.le_of_ble_eq_true rfl) (by decide) (by decide) rfl (fun m' hm' => ?_)
        rw [show m' = m from hm']
        clear hm' m'
        refine w_cV1i (pc' := 19) (v_tx_takes xs ht hj hp hn (c := v) hv2) (by decide) rfl rfl rfl (Nat.le_of_ble_eq_true rfl) sh_117 rfl (fun m2 hm' => ?_)
        have hz1 := hm'
        refine w_if_ne (t := 24) (pc' := 22) rfl (by decide) rfl (fun h19 => ?_) (fun h19 => ?_)
        · have hb3 : p_is tx n v pos = true := bB_n0.mp h19
          refine w_iinc2 (pc' := 27) 1 rfl rfl ic_1 rfl ?_
          rw [nI_inc]
          refine w_goto (pc' := 2) rfl (by decide) ?_
          rw [hb3] at hz1
          have hz1 : q_k2 (pos + 1) m m2 := hz1
          rw [ed, show p_all tx n (v :: (q_str 2).drop (k + 1)) pos = p_all tx n ((q_str 2).drop (k + 1)) (pos + 1) from if_pos hb3]
          exact ih (k + 1) (by omega) m2 (pos + 1) (hp.k2 hz1) (hk1.tr hz1) (by have := of_decide_eq_true hb3; omega)
        · have hb4 : p_is tx n v pos = false := bB_0.mp h19
          refine w_iconst (pc' := 23) 0 rfl rfl ic_0 ?_
          refine w_iret rfl rfl (by first | rfl | exact am_nbB _) ?_
          rw [hb4] at hz1
          rw [ed, show p_all tx n (v :: (q_str 2).drop (k + 1)) pos = (false, pos) from if_neg (by rw [hb4]; decide)]
          exact ⟨rfl, hk1.tr hz1⟩
set_option maxRecDepth 100000 in
set_option maxHeartbeats 4000000 in
theorem v_tx_takesAll2 (xs : List Int32) {tx : Nat → Nat} {n : Nat} {m0 m : am_Mm} {j pos : Nat} (ht : q_ty tx n m0) (hj : j < 6) (hp : q_kq m0 j pos m) (hn : pos ≤ n) : am_V xs 6 62 [.ref 117, .ref 1000002] m (am_qi (bB (p_all tx n (q_str 2) pos).1) (fun m' => q_k2 (p_all tx n (q_str 2) pos).2 m m')) := by
  refine am_V_of ky_62 (Nat.le_of_ble_eq_true rfl) ?_
  show am_P xs 5 tx_takesAll 0 [some (.ref 117), some (.ref 1000002), none] [] m _
  refine w_iconst (pc' := 1) 0 rfl rfl ic_0 ?_
  refine w_ist2 (pc' := 2) rfl rfl rfl ?_
  have e0 := lp_tall2 xs ht hj 5 0 (by omega) m pos hp (q_k2.rf hp.2.2.1) hn
  rw [List.drop_zero] at e0
  exact e0
/-- where a sign stands first -/
def ixx : List Nat → Int32 → Nat → Int32
  | [], _, _ => -1
  | v :: l, t, k => if nI v = t then nI k else ixx l t (k + 1)
theorem ixx_n : ∀ (l : List Nat) (t k : Nat), (∀ v, v ∈ l → v < 128) → t < 128 → ixx l (nI t) k = match ixn l t k with | some i => nI i | none => -1 := by
  intro l
  induction l with
  | nil => exact fun _ _ _ _ => rfl
  | cons v l ih =>
    intro t k hl ht
    have hv := hl v (List.mem_cons_self ..)
    rw [ixx, ixn]
    by_cases e : v = t
    · rw [if_pos e, if_pos (congrArg nI e)]
    · rw [if_neg e, if_neg (fun z => e ((nI_eq (a := v) (b := t) (by omega) (by omega)).mp z))]
      exact ih t (k + 1) (fun u hu => hl u (List.mem_cons_of_mem _ hu)) ht
theorem ixx_m : ∀ (l : List Nat) (k : Nat), (∀ v, v ∈ l → v < 128) → ixx l (-1) k = -1 := by
  intro l
  induction l with
  | nil => exact fun _ _ => rfl
  | cons v l ih =>
    intro k hl
    have hv := hl v (List.mem_cons_self ..)
    rw [ixx, if_neg (fun z => absurd (show nI v < 0 by rw [z]; decide) (nI_pos (by omega)))]
    exact ih (k + 1) (fun u hu => hl u (List.mem_cons_of_mem _ hu))
theorem ixx_ah {l : List Nat} {tx : Nat → Nat} {n pos : Nat} (hl : ∀ v, v ∈ l → v < 128) (ht : ∀ k, tx k < 128) : ixx l (p_ah tx n pos) 0 = match (if pos < n then ixn l (tx pos) 0 else none) with | some i => nI i | none => -1 := by
  unfold p_ah
  split
  · exact ixx_n l (tx pos) 0 hl (ht pos)
  · exact ixx_m l 0 hl
set_option maxRecDepth 100000 in
set_option maxHeartbeats 4000000 in
theorem lp_pin3 (xs : List Int32) {m : am_Mm} {x : Int32} : ∀ (r k : Nat), k + r = 6 → am_P xs 5 tx_placeIn 2 [some (.ref 1000003), some (.int x), some (.int (nI k))] [] m (am_qi (ixx ((q_str 3).drop k) x k) (· = m)) := by
  intro r
  induction r with
  | zero =>
    intro k hk
    refine w_iload_n (pc' := 3) rfl rfl rfl ?_
    refine w_aload_n (pc' := 4) rfl rfl rfl rfl ?_
    refine w_cT0i (pc' := 7) (v_len3 xs m) (by decide) rfl rfl rfl (Nat.le_of_ble_eq_true rfl) (by decide) (by decide) rfl (fun m' hm' => ?_)
    rw [show m' = m from hm']
    clear hm' m'
    refine w_ic_ge (t := 27) (pc' := 10) rfl (by decide) rfl (fun h7 => ?_) (fun h7 => ?_)
    · have g1 : 6 ≤ k := (nI_leI (a := 6) (b := k) (by omega) (by omega)).mp h7
      refine w_iconst (pc' := 28) (-1) rfl rfl ic_m1 ?_
      refine w_iret rfl rfl rfl ?_
      rw [show (q_str 3).drop k = [] from List.drop_eq_nil_of_le (by show 6 ≤ k; omega)]
      exact ⟨rfl, rfl⟩
    · have g2 : ¬ 6 ≤ k := fun q => h7 ((nI_leI (a := 6) (b := k) (by omega) (by omega)).mpr q)
      omega
  | succ r ih =>
    intro k hk
    refine w_iload_n (pc' := 3) rfl rfl rfl ?_
    refine w_aload_n (pc' := 4) rfl rfl rfl rfl ?_
    refine w_cT0i (pc' := 7) (v_len3 xs m) (by decide) rfl rfl rfl (Nat.le_of_ble_eq_true rfl) (by decide) (by decide) rfl (fun m' hm' => ?_)
    rw [show m' = m from hm']
    clear hm' m'
    refine w_ic_ge (t := 27) (pc' := 10) rfl (by decide) rfl (fun h7 => ?_) (fun h7 => ?_)
    · have g1 : 6 ≤ k := (nI_leI (a := 6) (b := k) (by omega) (by omega)).mp h7
      omega
    · have g2 : ¬ 6 ≤ k := fun q => h7 ((nI_leI (a := 6) (b := k) (by omega) (by omega)).mpr q)
      obtain ⟨v, hv⟩ : ∃ v, (q_str 3)[k]? = some v := ⟨(q_str 3)[k]'(by show k < 6; omega), List.getElem?_eq_getElem _⟩
      have ed : (q_str 3).drop k = v :: (q_str 3).drop (k + 1) := by
        have hk2 : k < (q_str 3).length := by show k < 6; omega
        rw [List.getElem?_eq_getElem hk2] at hv
        rw [← Option.some.inj hv]
        exact List.drop_eq_getElem_cons hk2
      have hv2 : v < 128 := (show ∀ x, x ∈ q_str 3 → x < 128 by decide) v (List.mem_of_getElem? hv)
      refine id ?_
      · refine w_aload_n (pc' := 11) rfl rfl rfl rfl ?_
        refine w_iload_n (pc' := 12) rfl rfl rfl ?_
        refine w_cT1i (pc' := 15) (v_chr3 xs m (i := k) (v := v) (by omega) hv hv2) (by decide) rfl rfl rfl (Nat.le_of_ble_eq_true rfl) (by decide) (by decide) rfl (fun m' hm' => ?_)
        rw [show m' = m from hm']
        clear hm' m'
        refine w_iload_n (pc' := 16) rfl rfl rfl ?_
        refine w_ic_ne (t := 21) (pc' := 19) rfl (by decide) rfl (fun h16 => ?_) (fun h16 => ?_)
        · have hne := h16
          refine w_iinc2 (pc' := 24) 1 rfl rfl ic_1 rfl ?_
          rw [nI_inc]
          refine w_goto (pc' := 2) rfl (by decide) ?_
          rw [ed, show ixx (v :: (q_str 3).drop (k + 1)) x k = ixx ((q_str 3).drop (k + 1)) x (k + 1) from if_neg hne]
          exact ih (k + 1) (by omega)
        · have heq := h16
          refine w_iload_n (pc' := 20) rfl rfl rfl ?_
          refine w_iret rfl rfl rfl ?_
          rw [ed, show ixx (v :: (q_str 3).drop (k + 1)) x k = nI k from if_pos heq]
          exact ⟨rfl, rfl⟩
set_option maxRecDepth 100000 in
set_option maxHeartbeats 4000000 in
theorem v_tx_placeIn3 (xs : List Int32) (m : am_Mm) (x : Int32) : am_V xs 6 76 [.ref 1000003, .int x] m (am_qi (ixx (q_str 3) x 0) (· = m)) := by
  refine am_V_of ky_76 (Nat.le_of_ble_eq_true rfl) ?_
  show am_P xs 5 tx_placeIn 0 [some (.ref 1000003), some (.int x), none] [] m _
  refine w_iconst (pc' := 1) 0 rfl rfl ic_0 ?_
  refine w_ist2 (pc' := 2) rfl rfl rfl ?_
  exact lp_pin3 xs 6 0 (by omega)
set_option maxRecDepth 100000 in
set_option maxHeartbeats 4000000 in
theorem lp_pin4 (xs : List Int32) {m : am_Mm} {x : Int32} : ∀ (r k : Nat), k + r = 3 → am_P xs 5 tx_placeIn 2 [some (.ref 1000004), some (.int x), some (.int (nI k))] [] m (am_qi (ixx ((q_str 4).drop k) x k) (· = m)) := by
  intro r
  induction r with
  | zero =>
    intro k hk
    refine w_iload_n (pc' := 3) rfl rfl rfl ?_
    refine w_aload_n (pc' := 4) rfl rfl rfl rfl ?_
    refine w_cT0i (pc' := 7) (v_len4 xs m) (by decide) rfl rfl rfl (Nat.le_of_ble_eq_true rfl) (by decide) (by decide) rfl (fun m' hm' => ?_)
    rw [show m' = m from hm']
    clear hm' m'
    refine w_ic_ge (t := 27) (pc' := 10) rfl (by decide) rfl (fun h7 => ?_) (fun h7 => ?_)
    · have g1 : 3 ≤ k := (nI_leI (a := 3) (b := k) (by omega) (by omega)).mp h7
      refine w_iconst (pc' := 28) (-1) rfl rfl ic_m1 ?_
      refine w_iret rfl rfl rfl ?_
      rw [show (q_str 4).drop k = [] from List.drop_eq_nil_of_le (by show 3 ≤ k; omega)]
      exact ⟨rfl, rfl⟩
    · have g2 : ¬ 3 ≤ k := fun q => h7 ((nI_leI (a := 3) (b := k) (by omega) (by omega)).mpr q)
      omega
  | succ r ih =>
    intro k hk
    refine w_iload_n (pc' := 3) rfl rfl rfl ?_
    refine w_aload_n (pc' := 4) rfl rfl rfl rfl ?_
    refine w_cT0i (pc' := 7) (v_len4 xs m) (by decide) rfl rfl rfl (Nat.le_of_ble_eq_true rfl) (by decide) (by decide) rfl (fun m' hm' => ?_)
    rw [show m' = m from hm']
    clear hm' m'
    refine w_ic_ge (t := 27) (pc' := 10) rfl (by decide) rfl (fun h7 => ?_) (fun h7 => ?_)
    · have g1 : 3 ≤ k := (nI_leI (a := 3) (b := k) (by omega) (by omega)).mp h7
      omega
    · have g2 : ¬ 3 ≤ k := fun q => h7 ((nI_leI (a := 3) (b := k) (by omega) (by omega)).mpr q)
      obtain ⟨v, hv⟩ : ∃ v, (q_str 4)[k]? = some v := ⟨(q_str 4)[k]'(by show k < 3; omega), List.getElem?_eq_getElem _⟩
      have ed : (q_str 4).drop k = v :: (q_str 4).drop (k + 1) := by
        have hk2 : k < (q_str 4).length := by show k < 3; omega
        rw [List.getElem?_eq_getElem hk2] at hv
        rw [← Option.some.inj hv]
        exact List.drop_eq_getElem_cons hk2
      have hv2 : v < 128 := (show ∀ x, x ∈ q_str 4 → x < 128 by decide) v (List.mem_of_getElem? hv)
      refine id ?_
      · refine w_aload_n (pc' := 11) rfl rfl rfl rfl ?_
        refine w_iload_n (pc' := 12) rfl rfl rfl ?_
        refine w_cT1i (pc' := 15) (v_chr4 xs m (i := k) (v := v) (by omega) hv hv2) (by decide) rfl rfl rfl (Nat.le_of_ble_eq_true rfl) (by decide) (by decide) rfl (fun m' hm' => ?_)
        rw [show m' = m from hm']
        clear hm' m'
        refine w_iload_n (pc' := 16) rfl rfl rfl ?_
        refine w_ic_ne (t := 21) (pc' := 19) rfl (by decide) rfl (fun h16 => ?_) (fun h16 => ?_)
        · have hne := h16
          refine w_iinc2 (pc' := 24) 1 rfl rfl ic_1 rfl ?_
          rw [nI_inc]
          refine w_goto (pc' := 2) rfl (by decide) ?_
          rw [ed, show ixx (v :: (q_str 4).drop (k + 1)) x k = ixx ((q_str 4).drop (k + 1)) x (k + 1) from if_neg hne]
          exact ih (k + 1) (by omega)
        · have heq := h16
          refine w_iload_n (pc' := 20) rfl rfl rfl ?_
          refine w_iret rfl rfl rfl ?_
          rw [ed, show ixx (v :: (q_str 4).drop (k + 1)) x k = nI k from if_pos heq]
          exact ⟨rfl, rfl⟩
set_option maxRecDepth 100000 in
set_option maxHeartbeats 4000000 in
theorem v_tx_placeIn4 (xs : List Int32) (m : am_Mm) (x : Int32) : am_V xs 6 76 [.ref 1000004, .int x] m (am_qi (ixx (q_str 4) x 0) (· = m)) := by
  refine am_V_of ky_76 (Nat.le_of_ble_eq_true rfl) ?_
  show am_P xs 5 tx_placeIn 0 [some (.ref 1000004), some (.int x), none] [] m _
  refine w_iconst (pc' := 1) 0 rfl rfl ic_0 ?_
  refine w_ist2 (pc' := 2) rfl rfl rfl ?_
  exact lp_pin4 xs 3 0 (by omega)
