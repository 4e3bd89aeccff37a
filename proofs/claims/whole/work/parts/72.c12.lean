def q_Sd (T : q_T) : Prop := ∀ i, i < T.1 153 28 → T.1 171 i < T.1 153 0
def q_Pd (T : q_T) : Prop := ∀ i, i < T.1 153 32 → (T.1 174 i = 1 ∨ T.1 174 i = 2) → T.1 175 i < T.1 153 0
def q_J (T : q_T) : Prop := q_Y 0 T ∧ (T.2.1.length ≤ 6 ∧ (q_Sd T ∧ q_Pd T))
def q_I (T : q_T) : Prop := q_J T ∧ (T.1 153 40 = 1 → q_J (q_und T))
theorem sni_f (T : q_T) (n : Nat) : ∀ r k, sni T n r k false = false := by
  intro r
  induction r with
  | zero => exact fun _ => rfl
  | succ r ih =>
    intro k
    rw [sni, ite_self]
    exact ih _
/-- SEEN from a state that has come to an hour -/
def snx : Nat → Nat → q_T → Bool
  | 0, _, _ => true
  | r + 1, k, T => if sni T k (T.1 153 28) 0 true = true then snx r (k + 1) (f_gh T) else false
theorem sno_snx : ∀ (r k : Nat) (T U : q_T), sns k T = U → sno r k T true = snx r k U := by
  intro r
  induction r with
  | zero => exact fun _ _ _ _ => rfl
  | succ r ih =>
    intro k T U h
    rw [sno, if_pos rfl, h, snx]
    cases sni U k (U.1 153 28) 0 true with
    | true =>
      rw [if_pos rfl]
      exact ih (k + 1) U (f_gh U) (if_neg (by omega))
    | false =>
      rw [if_neg (by decide)]
      exact sno_f _ _ _
theorem q_go_hi {W : Nat → Nat} {kn c x : Nat} (hc : 160 < c ∨ (c = 153 ∧ x = 28)) : ∀ (r k : Nat) (T : q_T), (q_go W kn r k T).1 c x = T.1 c x := by
  intro r
  induction r with
  | zero => exact fun _ _ => rfl
  | succ r ih =>
    intro k T
    rw [q_go, ih]
    split
    · rfl
    · exact f_gb_o (by omega) (by omega) (by omega) (by omega) (by omega) (by omega)
theorem f_gh_hi {T : q_T} {c x : Nat} (hc : 160 < c ∨ (c = 153 ∧ x = 28)) : (f_gh T).1 c x = T.1 c x := (q_Tu_ne (by omega)).trans (q_go_hi hc _ _ _)
theorem sni_no {T : q_T} {n : Nat} : ∀ (r k : Nat), (∀ i, k ≤ i → i < k + r → ¬ T.1 172 i = n) → sni T n r k true = true := by
  intro r
  induction r with
  | zero => exact fun _ _ => rfl
  | succ r ih =>
    intro k h
    rw [sni, if_neg (fun z => h k (by omega) (by omega) z.1)]
    exact ih (k + 1) (fun i h1 h2 => h i (by omega) (by omega))
theorem snx_end : ∀ (r k : Nat) (T : q_T), (∀ i, i < T.1 153 28 → T.1 172 i < k) → snx r k T = true := by
  intro r
  induction r with
  | zero => exact fun _ _ _ => rfl
  | succ r ih =>
    intro k T h
    rw [snx, if_pos (sni_no _ _ (fun i h1 h2 => by have := h i (by omega); omega))]
    refine ih (k + 1) (f_gh T) (fun i hi => ?_)
    rw [f_gh_hi (Or.inr ⟨rfl, rfl⟩)] at hi
    rw [f_gh_hi (Or.inl (by omega))]
    have := h i hi
    omega
/-- one above the last hour that is SEEN -/
def lhs (T : q_T) : Nat → Nat → Nat → Nat
  | 0, _, l => l
  | r + 1, k, l => lhs T r (k + 1) (max l (T.1 172 k + 1))
theorem lhs_ge (T : q_T) : ∀ (r k l : Nat), l ≤ lhs T r k l ∧ ∀ i, k ≤ i → i < k + r → T.1 172 i < lhs T r k l := by
  intro r
  induction r with
  | zero => exact fun k l => ⟨Nat.le_refl _, fun i h1 h2 => by omega⟩
  | succ r ih =>
    intro k l
    rw [lhs]
    obtain ⟨h1, h2⟩ := ih (k + 1) (max l (T.1 172 k + 1))
    refine ⟨by omega, fun i i1 i2 => ?_⟩
    by_cases e : i = k
    · subst e
      omega
    · exact h2 i (by omega) (by omega)
theorem lhs_le {T : q_T} (hb : ∀ i, T.1 172 i < 13) : ∀ (r k l : Nat), l ≤ 13 → lhs T r k l ≤ 13 := by
  intro r
  induction r with
  | zero => exact fun _ _ h => h
  | succ r ih =>
    intro k l h
    have := hb k
    exact ih _ _ (by omega)
theorem nI_pgt {a k : Nat} (ha : a < 2 ^ 31) (hk : k < 2 ^ 31) : nI a - 1 < nI k ↔ a ≤ k := by
  cases a with
  | zero =>
    refine ⟨fun _ => Nat.zero_le _, fun _ => ?_⟩
    exact Int32.lt_of_lt_of_le (show (nI 0 - 1 : Int32) < 0 by decide) (nI_pos' hk)
  | succ a =>
    rw [nI_pred]
    exact (nI_ltI (by omega) hk).trans Nat.succ_le_iff.symm
set_option maxRecDepth 100000 in
set_option maxHeartbeats 4000000 in
theorem v_jm_maxp (xs : List Int32) (m : am_Mm) {l x : Nat} (hl : l < 2 ^ 30) (hx : x < 2 ^ 30) : am_V xs 1 5 [.int (nI l - 1), .int (nI x)] m (am_qi (nI (max l (x + 1)) - 1) (· = m)) := by
  refine am_V_of ky_5 (Nat.le_of_ble_eq_true rfl) ?_
  show am_P xs 0 jm_max 0 [some (.int (nI l - 1)), some (.int (nI x))] [] m _
  refine w_iload_n (pc' := 1) rfl rfl rfl ?_
  refine w_iload_n (pc' := 2) rfl rfl rfl ?_
  refine w_ic_lt (t := 9) (pc' := 5) rfl (by decide) rfl (fun h2 => ?_) (fun h2 => ?_)
  · have g1 : l ≤ x := (nI_pgt (by omega) (by omega)).mp h2
    refine w_iload_n (pc' := 10) rfl rfl rfl ?_
    refine w_iret rfl rfl rfl ?_
    refine ⟨?_, rfl⟩
    rw [show max l (x + 1) = x + 1 by omega]
    rw [nI_pred]
  · have g1 : ¬ l ≤ x := fun z => h2 ((nI_pgt (by omega) (by omega)).mpr z)
    refine w_iload_n (pc' := 6) rfl rfl rfl ?_
    refine w_goto (pc' := 10) rfl (by decide) ?_
    refine w_iret rfl rfl rfl ?_
    refine ⟨?_, rfl⟩
    rw [show max l (x + 1) = l by omega]
set_option maxRecDepth 100000 in
set_option maxHeartbeats 4000000 in
theorem lp_last (xs : List Int32) {T : q_T} {m : am_Mm} (hH : q_Rh 91 T m) (hB : q_Bd T) : ∀ (r k : Nat), k + r = T.1 153 28 → ∀ (l : Nat), l < 1000 → am_P xs 1 bh_lastHourSeen 4 [some (.ref 91), some (.int (nI l - 1)), some (.int (nI k))] [] m (am_qi (nI (lhs T r k l) - 1) (· = m)) := by
  intro r
  induction r with
  | zero =>
    intro k hk l hl
    refine w_iload_n (pc' := 5) rfl rfl rfl ?_
    refine w_aload_n (pc' := 6) rfl rfl rfl rfl ?_
    refine w_getC (pc' := 9) rfl rfl rfl sh_91 rfl ?_
    refine w_getI (pc' := 12) rfl rfl rfl sh_92 rfl ?_
    have b1 : T.1 153 28 < 6 := hB 153 (28)
    rw [show m.1 92 4 = nI (T.1 153 28) from hH.1]
    refine w_ic_ge (t := 46) (pc' := 15) rfl (by decide) rfl (fun h12 => ?_) (fun h12 => ?_)
    · have g2 : (T.1 153 28) ≤ k := (nI_leI (a := (T.1 153 28)) (b := k) (by omega) (by omega)).mp h12
      refine w_iload_n (pc' := 47) rfl rfl rfl ?_
      refine w_iret rfl rfl rfl ?_
      exact ⟨rfl, rfl⟩
    · have g3 : ¬ (T.1 153 28) ≤ k := fun q => h12 ((nI_leI (a := (T.1 153 28)) (b := k) (by omega) (by omega)).mpr q)
      omega
  | succ r ih =>
    intro k hk l hl
    refine w_iload_n (pc' := 5) rfl rfl rfl ?_
    refine w_aload_n (pc' := 6) rfl rfl rfl rfl ?_
    refine w_getC (pc' := 9) rfl rfl rfl sh_91 rfl ?_
    refine w_getI (pc' := 12) rfl rfl rfl sh_92 rfl ?_
    have b1 : T.1 153 28 < 6 := hB 153 (28)
    rw [show m.1 92 4 = nI (T.1 153 28) from hH.1]
    refine w_ic_ge (t := 46) (pc' := 15) rfl (by decide) rfl (fun h12 => ?_) (fun h12 => ?_)
    · have g2 : (T.1 153 28) ≤ k := (nI_leI (a := (T.1 153 28)) (b := k) (by omega) (by omega)).mp h12
      omega
    · have g3 : ¬ (T.1 153 28) ≤ k := fun q => h12 ((nI_leI (a := (T.1 153 28)) (b := k) (by omega) (by omega)).mpr q)
      refine w_iload_n (pc' := 16) rfl rfl rfl ?_
      refine w_aload_n (pc' := 17) rfl rfl rfl rfl ?_
      refine w_getC (pc' := 20) rfl rfl rfl sh_91 rfl ?_
      refine w_getC (pc' := 23) rfl rfl rfl sh_92 rfl ?_
      refine w_ic_ge (t := 46) (pc' := 26) rfl (by decide) rfl (fun h23 => ?_) (fun h23 => ?_)
      · have g4 : 5 ≤ k := (nI_leI (a := 5) (b := k) (by omega) (by omega)).mp h23
        omega
      · have g5 : ¬ 5 ≤ k := fun q => h23 ((nI_leI (a := 5) (b := k) (by omega) (by omega)).mpr q)
        refine w_iload_n (pc' := 27) rfl rfl rfl ?_
        refine w_aload_n (pc' := 28) rfl rfl rfl rfl ?_
        refine w_getC (pc' := 31) rfl rfl rfl sh_91 rfl ?_
        refine w_getC (pc' := 34) rfl rfl rfl sh_92 rfl ?_
        refine w_iload_n (pc' := 35) rfl rfl rfl ?_
        refine w_iald (j := (k)) (pc' := 36) rfl rfl sh_94 rfl (by omega) (by decide) ?_
        rw [show m.1 94 k = nI (T.1 172 k) from (hH.2.1 k (by omega)).2.1]
        have b6 : T.1 172 k < 13 := hB 172 (k)
        refine w_cS2i (pc' := 39) (v_jm_maxp xs m (l := l) (x := T.1 172 k) (by omega) (by omega)) (by decide) rfl rfl rfl (Or.inl rfl) (Nat.le_of_ble_eq_true rfl) (fun m' hm' => ?_)
        rw [show m' = m from hm']
        clear hm' m'
        refine w_ist1 (pc' := 40) rfl rfl rfl ?_
        refine w_iinc2 (pc' := 43) 1 rfl rfl ic_1 rfl ?_
        rw [nI_inc]
        refine w_goto (pc' := 4) rfl (by decide) ?_
        exact ih (k + 1) (by omega) _ (by omega)
set_option maxRecDepth 100000 in
set_option maxHeartbeats 4000000 in
theorem v_lastHour (xs : List Int32) {T : q_T} {m : am_Mm} (hH : q_Rh 91 T m) (hB : q_Bd T) : am_V xs 2 38 [.ref 91] m (am_qi (nI (lhs T (T.1 153 28) 0 0) - 1) (· = m)) := by
  refine am_V_of ky_38 (Nat.le_of_ble_eq_true rfl) ?_
  show am_P xs 1 bh_lastHourSeen 0 [some (.ref 91), none, none] [] m _
  refine w_iconst (pc' := 1) (-1) rfl rfl ic_m1 ?_
  refine w_ist1 (pc' := 2) rfl rfl rfl ?_
  refine w_iconst (pc' := 3) 0 rfl rfl ic_0 ?_
  refine w_ist2 (pc' := 4) rfl rfl rfl ?_
  exact lp_last xs hH hB (T.1 153 28) 0 (by omega) 0 (by omega)
set_option maxRecDepth 100000 in
set_option maxHeartbeats 4000000 in
theorem lp_soIn (xs : List Int32) {T : q_T} {m : am_Mm} (hR : q_Rl 61 T m) (hH : q_Rh 91 T m) (hB : q_Bd T) (hS : q_Sd T) {n : Nat} (hn : n < 13) : ∀ (r k : Nat), k + r = T.1 153 28 → am_P xs 2 k_seenIsSoIn 10 [some (.ref 0), some (.int (nI n)), some (.ref 92), some (.int (nI k))] [] m (am_qi (bB (sni T n r k true)) (· = m)) := by
  intro r
  induction r with
  | zero =>
    intro k hk
    refine w_iload_n (pc' := 11) rfl rfl rfl ?_
    refine w_aload_n (pc' := 12) rfl rfl rfl rfl ?_
    refine w_getI (pc' := 15) rfl rfl rfl sh_92 rfl ?_
    have b1 : T.1 153 28 < 6 := hB 153 (28)
    rw [show m.1 92 4 = nI (T.1 153 28) from hH.1]
    refine w_ic_ge (t := 73) (pc' := 18) rfl (by decide) rfl (fun h15 => ?_) (fun h15 => ?_)
    · have g2 : (T.1 153 28) ≤ k := (nI_leI (a := (T.1 153 28)) (b := k) (by omega) (by omega)).mp h15
      refine w_iconst (pc' := 74) 1 rfl rfl ic_1 ?_
      refine w_iret rfl rfl (by first | rfl | exact am_nbB _) ?_
      exact ⟨rfl, rfl⟩
    · have g3 : ¬ (T.1 153 28) ≤ k := fun q => h15 ((nI_leI (a := (T.1 153 28)) (b := k) (by omega) (by omega)).mpr q)
      omega
  | succ r ih =>
    intro k hk
    refine w_iload_n (pc' := 11) rfl rfl rfl ?_
    refine w_aload_n (pc' := 12) rfl rfl rfl rfl ?_
    refine w_getI (pc' := 15) rfl rfl rfl sh_92 rfl ?_
    have b1 : T.1 153 28 < 6 := hB 153 (28)
    rw [show m.1 92 4 = nI (T.1 153 28) from hH.1]
    refine w_ic_ge (t := 73) (pc' := 18) rfl (by decide) rfl (fun h15 => ?_) (fun h15 => ?_)
    · have g2 : (T.1 153 28) ≤ k := (nI_leI (a := (T.1 153 28)) (b := k) (by omega) (by omega)).mp h15
      omega
    · have g3 : ¬ (T.1 153 28) ≤ k := fun q => h15 ((nI_leI (a := (T.1 153 28)) (b := k) (by omega) (by omega)).mpr q)
      refine w_iload_n (pc' := 19) rfl rfl rfl ?_
      refine w_aload_n (pc' := 20) rfl rfl rfl rfl ?_
      refine w_getC (pc' := 23) rfl rfl rfl sh_92 rfl ?_
      refine w_ic_ge (t := 73) (pc' := 26) rfl (by decide) rfl (fun h23 => ?_) (fun h23 => ?_)
      · have g4 : 5 ≤ k := (nI_leI (a := 5) (b := k) (by omega) (by omega)).mp h23
        omega
      · have g5 : ¬ 5 ≤ k := fun q => h23 ((nI_leI (a := 5) (b := k) (by omega) (by omega)).mpr q)
        refine w_aload_n (pc' := 27) rfl rfl rfl rfl ?_
        refine w_getC (pc' := 30) rfl rfl rfl sh_92 rfl ?_
        refine w_iload_n (pc' := 31) rfl rfl rfl ?_
        refine w_iald (j := (k)) (pc' := 32) rfl rfl sh_94 rfl (by omega) (by decide) ?_
        rw [show m.1 94 k = nI (T.1 172 k) from (hH.2.1 k (by omega)).2.1]
        have b6 : T.1 172 k < 13 := hB 172 (k)
        refine w_iload_n (pc' := 33) rfl rfl rfl ?_
        refine w_ic_ne (t := 67) (pc' := 36) rfl (by decide) rfl (fun h33 => ?_) (fun h33 => ?_)
        · have g7 : ¬ (T.1 172 k) = n := fun q => h33 ((nI_eq (a := (T.1 172 k)) (b := n) (by omega) (by omega)).mpr q)
          refine w_iinc3 (pc' := 70) 1 rfl rfl ic_1 rfl ?_
          rw [nI_inc]
          refine w_goto (pc' := 10) rfl (by decide) ?_
          rw [show sni T n (r + 1) k true = sni T n r (k + 1) true from congrArg (sni T n r (k + 1)) (if_neg (fun z => by omega))]
          exact ih (k + 1) (by omega)
        · have g8 : (T.1 172 k) = n := (nI_eq (a := (T.1 172 k)) (b := n) (by omega) (by omega)).mp h33
          refine w_aload_n (pc' := 37) rfl rfl rfl rfl ?_
          refine w_getC (pc' := 40) rfl rfl rfl sh_0 rfl ?_
          refine w_aload_n (pc' := 41) rfl rfl rfl rfl ?_
          refine w_getC (pc' := 44) rfl rfl rfl sh_0 rfl ?_
          refine w_aload_n (pc' := 45) rfl rfl rfl rfl ?_
          refine w_getC (pc' := 48) rfl rfl rfl sh_92 rfl ?_
          refine w_iload_n (pc' := 49) rfl rfl rfl ?_
          refine w_iald (j := (k)) (pc' := 50) rfl rfl sh_93 rfl (by omega) (by decide) ?_
          rw [show m.1 93 k = nI (T.1 171 k) from (hH.2.1 k (by omega)).1]
          have b9 : T.1 171 k < 6 := hB 171 (k)
          refine w_cV1i (pc' := 53) (v_la_whereIs xs q_L61 hR hB (p := T.1 171 k) (hS k (by omega))) (by decide) rfl rfl rfl (Nat.le_of_ble_eq_true rfl) (shL q_L61) rfl (fun m' hm' => ?_)
          rw [show m' = m from hm']
          clear hm' m'
          have b6 : T.1 156 (T.1 171 k) < 16 := hB 156 _
          refine w_cV1i (pc' := 56) (v_la_markAt xs q_L61 hR (i := T.1 156 (T.1 171 k)) (by omega)) (by decide) rfl rfl rfl (Nat.le_of_ble_eq_true rfl) (shL q_L61) rfl (fun m' hm' => ?_)
          rw [show m' = m from hm']
          clear hm' m'
          have bm8 : T.1 162 (T.1 156 (T.1 171 k)) < 8 := hB 162 _
          refine w_aload_n (pc' := 57) rfl rfl rfl rfl ?_
          refine w_getC (pc' := 60) rfl rfl rfl sh_92 rfl ?_
          refine w_iload_n (pc' := 61) rfl rfl rfl ?_
          refine w_iald (j := (k)) (pc' := 62) rfl rfl sh_95 rfl (by omega) (by decide) ?_
          rw [show m.1 95 k = nI (T.1 173 k) from (hH.2.1 k (by omega)).2.2]
          have b10 : T.1 173 k < 8 := hB 173 (k)
          refine w_ic_eq (t := 67) (pc' := 65) rfl (by decide) rfl (fun h62 => ?_) (fun h62 => ?_)
          · have g11 : (T.1 162 (T.1 156 (T.1 171 k))) = (T.1 173 k) := (nI_eq (a := (T.1 162 (T.1 156 (T.1 171 k)))) (b := (T.1 173 k)) (by omega) (by omega)).mp h62
            refine w_iinc3 (pc' := 70) 1 rfl rfl ic_1 rfl ?_
            rw [nI_inc]
            refine w_goto (pc' := 10) rfl (by decide) ?_
            rw [show sni T n (r + 1) k true = sni T n r (k + 1) true from congrArg (sni T n r (k + 1)) (if_neg (fun z => by omega))]
            exact ih (k + 1) (by omega)
          · have g12 : ¬ (T.1 162 (T.1 156 (T.1 171 k))) = (T.1 173 k) := fun q => h62 ((nI_eq (a := (T.1 162 (T.1 156 (T.1 171 k)))) (b := (T.1 173 k)) (by omega) (by omega)).mpr q)
            refine w_iconst (pc' := 66) 0 rfl rfl ic_0 ?_
            refine w_iret rfl rfl (by first | rfl | exact am_nbB _) ?_
            rw [show sni T n (r + 1) k true = false from (congrArg (sni T n r (k + 1)) (if_pos ⟨by omega, by omega⟩)).trans (sni_f _ _ _ _)]
            exact ⟨rfl, rfl⟩
set_option maxRecDepth 100000 in
set_option maxHeartbeats 4000000 in
theorem v_soIn (xs : List Int32) {T : q_T} {m : am_Mm} (hR : q_Rl 61 T m) (hH : q_Rh 91 T m) (hB : q_Bd T) (hS : q_Sd T) {n : Nat} (hn : n < 13) : am_V xs 3 39 [.ref 0, .int (nI n)] m (am_qi (bB (sni T n (T.1 153 28) 0 true)) (· = m)) := by
  refine am_V_of ky_39 (Nat.le_of_ble_eq_true rfl) ?_
  show am_P xs 2 k_seenIsSoIn 0 [some (.ref 0), some (.int (nI n)), none, none] [] m _
  refine w_aload_n (pc' := 1) rfl rfl rfl rfl ?_
  refine w_getC (pc' := 4) rfl rfl rfl sh_0 rfl ?_
  refine w_getC (pc' := 7) rfl rfl rfl sh_91 rfl ?_
  refine w_ast2 (pc' := 8) rfl rfl rfl rfl ?_
  refine w_iconst (pc' := 9) 0 rfl rfl ic_0 ?_
  refine w_ist3 (pc' := 10) rfl rfl rfl ?_
  exact lp_soIn xs hR hH hB hS hn (T.1 153 28) 0 (by omega)
set_option maxRecDepth 100000 in
set_option maxHeartbeats 4000000 in
theorem lp_so (xs : List Int32) {T0 : q_T} {m0 : am_Mm} (hH0 : q_Rh 91 T0 m0) (hRo0 : q_Ro T0 m0) (hl6 : T0.2.1.length ≤ 6) (hS0 : q_Sd T0) (hL13 : lhs T0 (T0.1 153 28) 0 0 ≤ 13) : ∀ (r k : Nat), k + r = 13 → ∀ (T : q_T) (m : am_Mm) (h0 : Nat), q_Rl 61 T m → q_Fl 61 m0 m → q_Y h0 T → (∀ c j, (171 ≤ c ∧ c ≤ 177) ∨ (c = 153 ∧ (j = 28 ∨ j = 32 ∨ j = 35)) → T.1 c j = T0.1 c j) → T.2 = T0.2 → T.1 153 0 = T0.1 153 0 → h0 + r ≤ 100 → am_P xs 8 k_seenIsSo 10 [some (.ref 0), some (.int (nI (lhs T0 (T0.1 153 28) 0 0) - 1)), some (.int (nI k))] [] m (am_qi (bB (snx r k T)) (fun m' => q_Fl 61 m0 m')) := by
  intro r
  induction r with
  | zero =>
    intro k hk T m h0 hR hF hY hT7 hT2 hA0 hr
    refine w_iload_n (pc' := 11) rfl rfl rfl ?_
    refine w_iload_n (pc' := 12) rfl rfl rfl ?_
    refine w_ic_gt (t := 45) (pc' := 15) rfl (by decide) rfl (fun h12 => ?_) (fun h12 => ?_)
    · have gL : (lhs T0 (T0.1 153 28) 0 0) ≤ k := (nI_pgt (by omega) (by omega)).mp h12
      refine w_iconst (pc' := 46) 1 rfl rfl ic_1 ?_
      refine w_iret rfl rfl (by first | rfl | exact am_nbB _) ?_
      rw [snx_end _ k T (fun i hi => by rw [hT7 153 28 (by omega)] at hi; rw [hT7 172 i (by omega)]; have := (lhs_ge T0 (T0.1 153 28) 0 0).2 i (by omega) (by omega); omega)]
      exact ⟨rfl, hF⟩
    · have gL : ¬ (lhs T0 (T0.1 153 28) 0 0) ≤ k := fun z => h12 ((nI_pgt (by omega) (by omega)).mpr z)
      omega
  | succ r ih =>
    intro k hk T m h0 hR hF hY hT7 hT2 hA0 hr
    refine w_iload_n (pc' := 11) rfl rfl rfl ?_
    refine w_iload_n (pc' := 12) rfl rfl rfl ?_
    refine w_ic_gt (t := 45) (pc' := 15) rfl (by decide) rfl (fun h12 => ?_) (fun h12 => ?_)
    · have gL : (lhs T0 (T0.1 153 28) 0 0) ≤ k := (nI_pgt (by omega) (by omega)).mp h12
      refine w_iconst (pc' := 46) 1 rfl rfl ic_1 ?_
      refine w_iret rfl rfl (by first | rfl | exact am_nbB _) ?_
      rw [snx_end _ k T (fun i hi => by rw [hT7 153 28 (by omega)] at hi; rw [hT7 172 i (by omega)]; have := (lhs_ge T0 (T0.1 153 28) 0 0).2 i (by omega) (by omega); omega)]
      exact ⟨rfl, hF⟩
    · have gL : ¬ (lhs T0 (T0.1 153 28) 0 0) ≤ k := fun z => h12 ((nI_pgt (by omega) (by omega)).mpr z)
      refine w_iload_n (pc' := 16) rfl rfl rfl ?_
      refine w_bipush (pc' := 18) 12 rfl rfl bp_12 ?_
      refine w_ic_gt (t := 45) (pc' := 21) rfl (by decide) rfl (fun h18 => ?_) (fun h18 => ?_)
      · have g1 : 12 < k := (nI_ltI (a := 12) (b := k) (by omega) (by omega)).mp h18
        omega
      · have g2 : ¬ 12 < k := fun q => h18 ((nI_ltI (a := 12) (b := k) (by omega) (by omega)).mpr q)
        refine w_aload_n (pc' := 22) rfl rfl rfl rfl ?_
        refine w_iload_n (pc' := 23) rfl rfl rfl ?_
        refine w_cV1i (pc' := 26) (v_soIn xs hR (hH0.eq (fun c c1 c2 => hF.1 c (by omega)) hT7) hY.1 (fun i hi => by rw [hT7 171 i (by omega), hA0]; exact hS0 i (by rw [← hT7 153 28 (by omega)]; exact hi)) (n := k) (by omega)) (by decide) rfl rfl rfl (Nat.le_of_ble_eq_true rfl) sh_0 rfl (fun m' hm' => ?_)
        rw [show m' = m from hm']
        clear hm' m'
        refine w_if_ne (t := 31) (pc' := 29) rfl (by decide) rfl (fun h26 => ?_) (fun h26 => ?_)
        · have hb3 : sni T k (T.1 153 28) 0 true = true := bB_n0.mp h26
          refine w_aload_n (pc' := 32) rfl rfl rfl rfl ?_
          refine w_getC (pc' := 35) rfl rfl rfl sh_0 rfl ?_
          refine w_iconst (pc' := 36) 1 rfl rfl ic_1 ?_
          refine w_cV1n (pc' := 39) (v_la_hoursGo xs q_L61 (n := 1) (h0 := h0) hR hY (hRo0.fl2 hF hT2 (by omega) (by rw [hT2]; exact hl6)) (by rw [hT2]; exact hl6) (by omega)) (by decide) rfl rfl rfl (Nat.le_of_ble_eq_true rfl) (shL q_L61) rfl (fun m1 hm' => ?_)
          obtain ⟨hR_1, hF_1⟩ := hm'
          have hR_1 : q_Rl 61 (f_gh T) m1 := hR_1
          have hF_1 := hF.tr hF_1
          have hAs := f_gh_As hY (by omega)
          refine w_iinc2 (pc' := 42) 1 rfl rfl ic_1 rfl ?_
          rw [nI_inc]
          refine w_goto (pc' := 10) rfl (by decide) ?_
          rw [show snx (r + 1) k T = snx r (k + 1) (f_gh T) from if_pos hb3]
          exact ih (k + 1) (by omega) (f_gh T) m1 (h0 + 1) hR_1 hF_1 (f_gh_Y hY (by omega)) (fun c j hc => (hAs.2.1 c j (by omega) (by omega)).trans (hT7 c j hc)) (hAs.1.trans hT2) ((hAs.2.1 153 0 (by omega) (by omega)).trans hA0) (by omega)
        · have hb4 : sni T k (T.1 153 28) 0 true = false := bB_0.mp h26
          refine w_iconst (pc' := 30) 0 rfl rfl ic_0 ?_
          refine w_iret rfl rfl (by first | rfl | exact am_nbB _) ?_
          rw [show snx (r + 1) k T = false from if_neg (by rw [hb4]; decide)]
          exact ⟨rfl, hF⟩
set_option maxRecDepth 100000 in
set_option maxHeartbeats 4000000 in
theorem v_so (xs : List Int32) {T0 T : q_T} {m : am_Mm} (hH0 : q_Rh 91 T0 m) (hB0 : q_Bd T0) (hRo0 : q_Ro T0 m) (hl6 : T0.2.1.length ≤ 6) (hS0 : q_Sd T0) (hR : q_Rl 61 T m) (hY : q_Y 0 T) (hT7 : ∀ c j, (171 ≤ c ∧ c ≤ 177) ∨ (c = 153 ∧ (j = 28 ∨ j = 32 ∨ j = 35)) → T.1 c j = T0.1 c j) (hT2 : T.2 = T0.2) (hA0 : T.1 153 0 = T0.1 153 0) : am_V xs 9 37 [.ref 0] m (am_qi (bB (f_sn T)) (fun m' => q_Fl 61 m m')) := by
  refine am_V_of ky_37 (Nat.le_of_ble_eq_true rfl) ?_
  show am_P xs 8 k_seenIsSo 0 [some (.ref 0), none, none] [] m _
  refine w_aload_n (pc' := 1) rfl rfl rfl rfl ?_
  refine w_getC (pc' := 4) rfl rfl rfl sh_0 rfl ?_
  refine w_cV0i (pc' := 7) (v_lastHour xs hH0 hB0) (by decide) rfl rfl rfl (Nat.le_of_ble_eq_true rfl) sh_91 rfl (fun m' hm' => ?_)
  rw [show m' = m from hm']
  clear hm' m'
  refine w_ist1 (pc' := 8) rfl rfl rfl ?_
  refine w_iconst (pc' := 9) 0 rfl rfl ic_0 ?_
  refine w_ist2 (pc' := 10) rfl rfl rfl ?_
  have hL13 := lhs_le (T := T0) (fun i => hB0 172 i) (T0.1 153 28) 0 0 (by omega)
  rw [show f_sn T = snx 13 0 T from sno_snx 13 0 T T (if_pos rfl)]
  exact lp_so xs hH0 hRo0 hl6 hS0 hL13 13 0 (by omega) T m 0 hR q_Fl.rf hY hT7 hT2 hA0 (by omega)
