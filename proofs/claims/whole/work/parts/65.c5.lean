def lcc (T : q_T) (e : Int32) (a k : Nat) (mk : Nat) : Bool := decide ((e >>> (nI k &&& 31)) &&& 1 = 1 ∧ T.1 162 (f_stp k a) = mk)
def lcn (T : q_T) (e : Int32) (a mk : Nat) : Nat → Nat
  | 0 => 0
  | k + 1 => lcn T e a mk k + (if lcc T e a k mk = true then 1 else 0)
theorem lkc_lcn (T : q_T) (e : Int32) (a mk : Nat) : ∀ r k, lkc T e a mk r k (lcn T e a mk k) = lcn T e a mk (k + r) := by
  intro r
  induction r with
  | zero => exact fun _ => rfl
  | succ r ih =>
    intro k
    rw [lkc, show k + (r + 1) = k + 1 + r by omega, ← ih (k + 1)]
    congr 1
    rw [lcn]
    unfold lcc
    by_cases h : (e >>> (nI k &&& 31)) &&& 1 = 1 ∧ T.1 162 (f_stp k a) = mk
    · rw [if_pos h, decide_eq_true h, if_pos rfl]
    · rw [if_neg h, decide_eq_false h, if_neg (by decide)]
      rfl
/-- the greatest of the eight -/
def lmx (T : q_T) (e : Int32) (a k M : Nat) : Prop := (∀ i, i < 8 → lcn T e a i k ≤ M) ∧ (M = 0 ∨ ∃ i, i < 8 ∧ M = lcn T e a i k)
theorem lkm_ge (T : q_T) (e : Int32) (a : Nat) : ∀ (r k mo : Nat), mo ≤ lkm T e a r k mo ∧ ((∀ i, k ≤ i → i < k + r → lcn T e a i 16 ≤ lkm T e a r k mo) ∧ (lkm T e a r k mo = mo ∨ ∃ i, k ≤ i ∧ (i < k + r ∧ lkm T e a r k mo = lcn T e a i 16))) := by
  intro r
  induction r with
  | zero => exact fun k mo => ⟨Nat.le_refl _, fun i h1 h2 => by omega, Or.inl rfl⟩
  | succ r ih =>
    intro k mo
    rw [lkm]
    have e1 : lkc T e a k 16 0 0 = lcn T e a k 16 := (lkc_lcn T e a k 16 0).trans (by rw [Nat.zero_add])
    rw [e1]
    obtain ⟨h1, h2, h3⟩ := ih (k + 1) (max mo (lcn T e a k 16))
    refine ⟨by omega, fun i i1 i2 => ?_, ?_⟩
    · by_cases z : i = k
      · subst z
        omega
      · exact h2 i (by omega) (by omega)
    · rcases h3 with h3 | ⟨i, i1, i2, i3⟩
      · by_cases z : mo ≤ lcn T e a k 16
        · exact Or.inr ⟨k, by omega, by omega, by omega⟩
        · exact Or.inl (by omega)
      · exact Or.inr ⟨i, by omega, by omega, i3⟩
theorem lmx_lkm {T : q_T} {e : Int32} {a M : Nat} (h : lmx T e a 16 M) : M = lkm T e a 8 0 0 := by
  obtain ⟨h1, h2, h3⟩ := lkm_ge T e a 8 0 0
  obtain ⟨g1, g2⟩ := h
  have a1 : M ≤ lkm T e a 8 0 0 := by
    rcases g2 with g2 | ⟨i, i1, i2⟩
    · omega
    · have := h2 i (by omega) (by omega)
      omega
  have a2 : lkm T e a 8 0 0 ≤ M := by
    rcases h3 with h3 | ⟨i, i1, i2, i3⟩
    · omega
    · have := g1 i (by omega)
      omega
  omega
theorem lcn_le (T : q_T) (e : Int32) (a mk : Nat) : ∀ k, lcn T e a mk k ≤ k := by
  intro k
  induction k with
  | zero => exact Nat.le_refl _
  | succ k ih =>
    rw [lcn]
    split <;> omega
theorem lmx_n {T : q_T} {e : Int32} {a k M : Nat} (h : lmx T e a k M) (hn : ∀ i, i < 8 → lcc T e a k i = false) : lmx T e a (k + 1) M := by
  have e1 : ∀ i, i < 8 → lcn T e a i (k + 1) = lcn T e a i k := fun i hi => by rw [lcn, hn i hi]; rfl
  refine ⟨fun i hi => by rw [e1 i hi]; exact h.1 i hi, ?_⟩
  rcases h.2 with h2 | ⟨i, i1, i2⟩
  · exact Or.inl h2
  · exact Or.inr ⟨i, i1, by rw [e1 i i1]; exact i2⟩
theorem lmx_y {T : q_T} {e : Int32} {a k M j : Nat} (h : lmx T e a k M) (hj : j < 8) (hy : lcc T e a k j = true) (hn : ∀ i, i < 8 → i ≠ j → lcc T e a k i = false) : lmx T e a (k + 1) (max M (lcn T e a j k + 1)) := by
  have e1 : ∀ i, i < 8 → i ≠ j → lcn T e a i (k + 1) = lcn T e a i k := fun i hi hij => by rw [lcn, hn i hi hij]; rfl
  have e2 : lcn T e a j (k + 1) = lcn T e a j k + 1 := by rw [lcn, hy]; rfl
  refine ⟨fun i hi => ?_, ?_⟩
  · by_cases z : i = j
    · subst z
      omega
    · have := h.1 i hi
      rw [e1 i hi z]
      omega
  · by_cases z : M ≤ lcn T e a j k + 1
    · exact Or.inr ⟨j, hj, by omega⟩
    · rcases h.2 with h2 | ⟨i, i1, i2⟩
      · omega
      · refine Or.inr ⟨i, i1, ?_⟩
        by_cases y : i = j
        · subst y
          omega
        · rw [e1 i i1 y]
          omega
set_option maxRecDepth 100000 in
set_option maxHeartbeats 4000000 in
theorem lp_mz (xs : List Int32) {b : Nat} (hb : q_isL b) {T : q_T} {m0 : am_Mm} (hB : q_Bd T) {e : Int32} {a : Nat} {Q : am_Q} (hK : ∀ m, q_Rl b T m → q_Fl b m0 m → (∀ i, i < 8 → m.1 (b + 5) i = nI 0) → am_P xs 3 la_mostAtOneMark 21 [some (.ref b), some (.int e), some (.int (nI a)), some (.int (nI 8)), none, none] [] m Q) : ∀ (r k : Nat), k + r = 8 → ∀ (m : am_Mm), q_Rl b T m → q_Fl b m0 m → (∀ i, i < k → m.1 (b + 5) i = nI 0) → am_P xs 3 la_mostAtOneMark 2 [some (.ref b), some (.int e), some (.int (nI a)), some (.int (nI k)), none, none] [] m (Q) := by
  intro r
  induction r with
  | zero =>
    intro k hk m hR hF hA
    have hb1 := q_isL_lt hb
    have hn0 : T.1 153 0 < 7 := hB 153 0
    refine w_iload_n (pc' := 3) rfl rfl rfl ?_
    refine w_bipush (pc' := 5) 8 rfl rfl bp_8 ?_
    refine w_ic_ge (t := 21) (pc' := 8) rfl (by decide) rfl (fun h5 => ?_) (fun h5 => ?_)
    · have g1 : 8 ≤ k := (nI_leI (a := 8) (b := k) (by omega) (by omega)).mp h5
      obtain rfl : k = 8 := by omega
      exact hK m hR hF hA
    · have g2 : ¬ 8 ≤ k := fun q => h5 ((nI_leI (a := 8) (b := k) (by omega) (by omega)).mpr q)
      omega
  | succ r ih =>
    intro k hk m hR hF hA
    have hb1 := q_isL_lt hb
    have hn0 : T.1 153 0 < 7 := hB 153 0
    refine w_iload_n (pc' := 3) rfl rfl rfl ?_
    refine w_bipush (pc' := 5) 8 rfl rfl bp_8 ?_
    refine w_ic_ge (t := 21) (pc' := 8) rfl (by decide) rfl (fun h5 => ?_) (fun h5 => ?_)
    · have g1 : 8 ≤ k := (nI_leI (a := 8) (b := k) (by omega) (by omega)).mp h5
      omega
    · have g2 : ¬ 8 ≤ k := fun q => h5 ((nI_leI (a := 8) (b := k) (by omega) (by omega)).mpr q)
      refine w_aload_n (pc' := 9) rfl rfl rfl rfl ?_
      refine w_getC (pc' := 12) rfl rfl rfl (shL hb) rfl ?_
      refine w_iload_n (pc' := 13) rfl rfl rfl ?_
      refine w_iconst (pc' := 14) 0 rfl rfl ic_0 ?_
      refine w_iast (j := (k)) (pc' := 15) rfl rfl (shLt hb) rfl (by omega) (by decide) ?_
      refine w_any (fun q => q_Rl b T q ∧ (q_Fl b m0 q ∧ ∀ i, i < k + 1 → q.1 (b + 5) i = nI 0)) ⟨hR.jk (by omega) (by omega), hF.u (by omega), q_an (F := fun _ => 0) hA rfl⟩ (fun m1 hm1 => ?_)
      obtain ⟨hR_1, hF_1, hA_1⟩ := hm1
      refine w_iinc3 (pc' := 18) 1 rfl rfl ic_1 rfl ?_
      rw [nI_inc]
      refine w_goto (pc' := 2) rfl (by decide) ?_
      exact ih (k + 1) (by omega) m1 hR_1 hF_1 hA_1
set_option maxRecDepth 100000 in
set_option maxHeartbeats 4000000 in
theorem lp_mm (xs : List Int32) {b : Nat} (hb : q_isL b) {T : q_T} {m0 : am_Mm} (hB : q_Bd T) {e : Int32} {a : Nat} (ha : a < 4) : ∀ (r k : Nat), k + r = 16 → ∀ (m : am_Mm) (M : Nat), q_Rl b T m → q_Fl b m0 m → (∀ i, i < 8 → m.1 (b + 5) i = nI (lcn T e a i k)) → M ≤ k → lmx T e a k M → ∀ (l5 : Option Value), am_P xs 3 la_mostAtOneMark 26 [some (.ref b), some (.int e), some (.int (nI a)), some (.int (nI M)), some (.int (nI k)), l5] [] m (am_qi (nI (lkm T e a 8 0 0)) (fun m' => q_Rl b T m' ∧ q_Fl b m0 m')) := by
  intro r
  induction r with
  | zero =>
    intro k hk m M hR hF hA hMk hM l5
    have hb1 := q_isL_lt hb
    have hn0 : T.1 153 0 < 7 := hB 153 0
    have hlc := fun i => lcn_le T e a i k
    refine w_iload (pc' := 28) rfl rfl rfl ?_
    refine w_bipush (pc' := 30) 16 rfl rfl bp_16 ?_
    refine w_ic_ge (t := 92) (pc' := 33) rfl (by decide) rfl (fun h30 => ?_) (fun h30 => ?_)
    · have g1 : 16 ≤ k := (nI_leI (a := 16) (b := k) (by omega) (by omega)).mp h30
      refine w_iload_n (pc' := 93) rfl rfl rfl ?_
      refine w_iret rfl rfl rfl ?_
      obtain rfl : k = 16 := by omega
      rw [← lmx_lkm hM]
      exact ⟨rfl, hR, hF⟩
    · have g2 : ¬ 16 ≤ k := fun q => h30 ((nI_leI (a := 16) (b := k) (by omega) (by omega)).mpr q)
      omega
  | succ r ih =>
    intro k hk m M hR hF hA hMk hM l5
    have hb1 := q_isL_lt hb
    have hn0 : T.1 153 0 < 7 := hB 153 0
    have hlc := fun i => lcn_le T e a i k
    refine w_iload (pc' := 28) rfl rfl rfl ?_
    refine w_bipush (pc' := 30) 16 rfl rfl bp_16 ?_
    refine w_ic_ge (t := 92) (pc' := 33) rfl (by decide) rfl (fun h30 => ?_) (fun h30 => ?_)
    · have g1 : 16 ≤ k := (nI_leI (a := 16) (b := k) (by omega) (by omega)).mp h30
      omega
    · have g2 : ¬ 16 ≤ k := fun q => h30 ((nI_leI (a := 16) (b := k) (by omega) (by omega)).mpr q)
      refine w_aload_n (pc' := 34) rfl rfl rfl rfl ?_
      refine w_iload (pc' := 36) rfl rfl rfl ?_
      refine w_iload_n (pc' := 37) rfl rfl rfl ?_
      refine w_cS2i (pc' := 40) (v_k_step xs m (a := k) (b := a) (by omega) (by omega)) (by decide) rfl rfl rfl (Or.inl rfl) (Nat.le_of_ble_eq_true rfl) (fun m' hm' => ?_)
      rw [show m' = m from hm']
      clear hm' m'
      have hst3 := f_stp_lt (a := k) (b := a) (by omega)
      refine w_cV1i (pc' := 43) (v_la_markAt xs hb hR (i := (f_stp k a)) (by omega)) (by decide) rfl rfl rfl (Nat.le_of_ble_eq_true rfl) (shL hb) rfl (fun m' hm' => ?_)
      rw [show m' = m from hm']
      clear hm' m'
      have bm40 : T.1 162 (f_stp k a) < 8 := hB 162 _
      refine w_ist5 (pc' := 45) rfl rfl rfl ?_
      refine w_iload_n (pc' := 46) rfl rfl rfl ?_
      refine w_iload (pc' := 48) rfl rfl rfl ?_
      refine w_ishr (pc' := 49) rfl rfl ?_
      refine w_iconst (pc' := 50) 1 rfl rfl ic_1 ?_
      refine w_iand (pc' := 51) rfl rfl ?_
      refine w_iconst (pc' := 52) 1 rfl rfl ic_1 ?_
      refine w_ic_ne (t := 86) (pc' := 55) rfl (by decide) rfl (fun h52 => ?_) (fun h52 => ?_)
      · have hbit : ¬ (e >>> (nI k &&& 31)) &&& 1 = 1 := h52
        refine w_iinc4 (pc' := 89) 1 rfl rfl ic_1 rfl ?_
        rw [nI_inc]
        refine w_goto (pc' := 26) rfl (by decide) ?_
        have hno : ∀ i, i < 8 → lcc T e a k i = false := fun i _ => decide_eq_false (fun y => hbit y.1)
        exact ih (k + 1) (by omega) m M hR hF (fun i hi => by rw [hA i hi, lcn, hno i hi]; rfl) (by omega) (lmx_n hM hno) _
      · have hbit : (e >>> (nI k &&& 31)) &&& 1 = 1 := h52
        refine w_iload (pc' := 57) rfl rfl rfl ?_
        refine w_cS1i (pc' := 60) (v_k_isMark xs m (nI (T.1 162 (f_stp k a)))) (by decide) rfl rfl rfl (Or.inr rfl) (Nat.le_of_ble_eq_true rfl) (fun m' hm' => ?_)
        rw [show m' = m from hm']
        clear hm' m'
        rw [show q_is (nI (T.1 162 (f_stp k a))) 8 = true from q_is_nI (by omega) (by omega)]
        refine w_if_eq (t := 86) (pc' := 63) rfl (by decide) rfl (fun h60 => ?_) (fun h60 => ?_)
        · exact absurd h60 (by decide)
        · refine w_aload_n (pc' := 64) rfl rfl rfl rfl ?_
          refine w_getC (pc' := 67) rfl rfl rfl (shL hb) rfl ?_
          refine w_iload (pc' := 69) rfl rfl rfl ?_
          refine w_dup2 (pc' := 70) rfl rfl rfl rfl ?_
          have hl9 := hlc (T.1 162 (f_stp k a))
          refine w_iald (j := ((T.1 162 (f_stp k a)))) (pc' := 71) rfl rfl (shLt hb) rfl (by omega) (by decide) ?_
          rw [hA (T.1 162 (f_stp k a)) (by omega)]
          refine w_iconst (pc' := 72) 1 rfl rfl ic_1 ?_
          refine w_iadd (pc' := 73) rfl rfl ?_
          rw [show nI ((lcn T e a (T.1 162 (f_stp k a)) k)) + (1 : Int32) = nI ((lcn T e a (T.1 162 (f_stp k a)) k) + 1) from nI_add _ _]
          refine w_iast (j := ((T.1 162 (f_stp k a)))) (pc' := 74) rfl rfl (shLt hb) rfl (by omega) (by decide) ?_
          have hy : lcc T e a k (T.1 162 (f_stp k a)) = true := decide_eq_true ⟨hbit, rfl⟩
          have hno : ∀ i, i < 8 → i ≠ (T.1 162 (f_stp k a)) → lcc T e a k i = false := fun i _ z => decide_eq_false (fun y => z y.2.symm)
          refine w_any (fun q => q_Rl b T q ∧ (q_Fl b m0 q ∧ ∀ i, i < 8 → q.1 (b + 5) i = nI (lcn T e a i (k + 1)))) ⟨hR.jk (by omega) (by omega), hF.u (by omega), fun i hi => ?_⟩ (fun m1 hm1 => ?_)
          · by_cases z : i = (T.1 162 (f_stp k a))
            · rw [z, am_u_eq, lcn, hy]
              rfl
            · rw [am_u_ne (by omega), hA i hi, lcn, hno i hi z]
              rfl
          obtain ⟨hR_1, hF_1, hA_1⟩ := hm1
          have e9 : lcn T e a (T.1 162 (f_stp k a)) (k + 1) = lcn T e a (T.1 162 (f_stp k a)) k + 1 := by rw [lcn, hy]; rfl
          refine w_iload_n (pc' := 75) rfl rfl rfl ?_
          refine w_aload_n (pc' := 76) rfl rfl rfl rfl ?_
          refine w_getC (pc' := 79) rfl rfl rfl (shL hb) rfl ?_
          refine w_iload (pc' := 81) rfl rfl rfl ?_
          refine w_iald (j := ((T.1 162 (f_stp k a)))) (pc' := 82) rfl rfl (shLt hb) rfl (by omega) (by decide) ?_
          rw [hA_1 (T.1 162 (f_stp k a)) (by omega)]
          have hl8 := lcn_le T e a (T.1 162 (f_stp k a)) (k + 1)
          refine w_cS2i (pc' := 85) (v_jm_max0 xs m1 (a := M) (b := (lcn T e a (T.1 162 (f_stp k a)) (k + 1))) (by omega) (by omega)) (by decide) rfl rfl rfl (Or.inl rfl) (Nat.le_of_ble_eq_true rfl) (fun m' hm' => ?_)
          rw [show m' = m1 from hm']
          clear hm' m'
          refine w_ist3 (pc' := 86) rfl rfl rfl ?_
          refine w_iinc4 (pc' := 89) 1 rfl rfl ic_1 rfl ?_
          rw [nI_inc]
          refine w_goto (pc' := 26) rfl (by decide) ?_
          exact ih (k + 1) (by omega) m1 _ hR_1 hF_1 hA_1 (by omega) (by rw [e9]; exact lmx_y hM (by omega) hy hno) _
set_option maxRecDepth 100000 in
set_option maxHeartbeats 4000000 in
theorem v_la_most (xs : List Int32) {b : Nat} (hb : q_isL b) {T : q_T} {m : am_Mm} (hR : q_Rl b T m) (hB : q_Bd T) {e : Int32} {a : Nat} (ha : a < 4) : am_V xs 4 30 [.ref b, .int e, .int (nI a)] m (am_qi (nI (lkm T e a 8 0 0)) (fun m' => q_Rl b T m' ∧ q_Fl b m m')) := by
  have hb1 := q_isL_lt hb
  have hn0 : T.1 153 0 < 7 := hB 153 0
  refine am_V_of ky_30 (Nat.le_of_ble_eq_true rfl) ?_
  show am_P xs 3 la_mostAtOneMark 0 [some (.ref b), some (.int e), some (.int (nI a)), none, none, none] [] m _
  refine w_iconst (pc' := 1) 0 rfl rfl ic_0 ?_
  refine w_ist3 (pc' := 2) rfl rfl rfl ?_
  refine lp_mz xs hb hB (fun m1 hR_1 hF_1 hA_1 => ?_) 8 0 (by omega) m hR q_Fl.rf (fun i hi => absurd hi (by omega))
  refine w_iconst (pc' := 22) 0 rfl rfl ic_0 ?_
  refine w_ist3 (pc' := 23) rfl rfl rfl ?_
  refine w_iconst (pc' := 24) 0 rfl rfl ic_0 ?_
  refine w_ist4 (pc' := 26) rfl rfl rfl ?_
  exact lp_mm xs hb hB ha 16 0 (by omega) m1 0 hR_1 hF_1 hA_1 (Nat.le_refl _) ⟨fun i _ => Nat.le_refl _, Or.inl rfl⟩ none
set_option maxRecDepth 100000 in
set_option maxHeartbeats 4000000 in
theorem lp_look (xs : List Int32) {b : Nat} (hb : q_isL b) {T : q_T} {m0 : am_Mm} (hB : q_Bd T) {D : Nat} (e : Int32) : ∀ (r k : Nat), k + r = 4 → ∀ (le f : Nat) (m : am_Mm), le < 10000 → f < 4 → q_Rl b T m → q_Fl b m0 m → ∀ (l6 : Option Value), am_P xs 4 la_lookOf 22 [some (.ref b), some (.ref D), some (.int e), some (.int (nI f)), some (.int (nI le)), some (.int (nI k)), l6] [] m (am_qi (nI (lkw T e r k le f)) (fun m' => q_Rl b T m' ∧ q_Fl b m0 m')) := by
  intro r
  induction r with
  | zero =>
    intro k hk le f m hle hf hR hF l6
    have hb1 := q_isL_lt hb
    have hn0 : T.1 153 0 < 7 := hB 153 0
    refine w_iload (pc' := 24) rfl rfl rfl ?_
    refine w_iconst (pc' := 25) 4 rfl rfl ic_4 ?_
    refine w_ic_ge (t := 57) (pc' := 28) rfl (by decide) rfl (fun h25 => ?_) (fun h25 => ?_)
    · have g1 : 4 ≤ k := (nI_leI (a := 4) (b := k) (by omega) (by omega)).mp h25
      refine w_iload_n (pc' := 58) rfl rfl rfl ?_
      refine w_iret rfl rfl rfl ?_
      exact ⟨rfl, hR, hF⟩
    · have g2 : ¬ 4 ≤ k := fun q => h25 ((nI_leI (a := 4) (b := k) (by omega) (by omega)).mpr q)
      omega
  | succ r ih =>
    intro k hk le f m hle hf hR hF l6
    have hb1 := q_isL_lt hb
    have hn0 : T.1 153 0 < 7 := hB 153 0
    refine w_iload (pc' := 24) rfl rfl rfl ?_
    refine w_iconst (pc' := 25) 4 rfl rfl ic_4 ?_
    refine w_ic_ge (t := 57) (pc' := 28) rfl (by decide) rfl (fun h25 => ?_) (fun h25 => ?_)
    · have g1 : 4 ≤ k := (nI_leI (a := 4) (b := k) (by omega) (by omega)).mp h25
      omega
    · have g2 : ¬ 4 ≤ k := fun q => h25 ((nI_leI (a := 4) (b := k) (by omega) (by omega)).mpr q)
      refine w_aload_n (pc' := 29) rfl rfl rfl rfl ?_
      refine w_iload_n (pc' := 30) rfl rfl rfl ?_
      refine w_iload (pc' := 32) rfl rfl rfl ?_
      refine w_cV2i (pc' := 35) (v_la_most xs hb hR hB (e := e) (a := k) (by omega)) (by decide) rfl rfl rfl (Nat.le_of_ble_eq_true rfl) (shL hb) rfl (fun m1 hm' => ?_)
      obtain ⟨hR_1, hF_1⟩ := hm'
      have hl16 := lkm_le T e k 8 0 0 (by omega)
      refine w_ist6 (pc' := 37) rfl rfl rfl ?_
      refine w_iload (pc' := 39) rfl rfl rfl ?_
      refine w_iload (pc' := 41) rfl rfl rfl ?_
      refine w_ic_ge (t := 51) (pc' := 44) rfl (by decide) rfl (fun h41 => ?_) (fun h41 => ?_)
      · have g3 : le ≤ (lkm T e k 8 0 0) := (nI_leI (a := le) (b := (lkm T e k 8 0 0)) (by omega) (by omega)).mp h41
        refine w_iinc5 (pc' := 54) 1 rfl rfl ic_1 rfl ?_
        rw [nI_inc]
        refine w_goto (pc' := 22) rfl (by decide) ?_
        rw [show lkw T e (r + 1) k le f = lkw T e r (k + 1) le f from if_neg (by omega)]
        exact ih (k + 1) (by omega) _ _ m1 (by omega) (by omega) hR_1 (hF.tr hF_1) _
      · have g4 : ¬ le ≤ (lkm T e k 8 0 0) := fun q => h41 ((nI_leI (a := le) (b := (lkm T e k 8 0 0)) (by omega) (by omega)).mpr q)
        refine w_iload (pc' := 46) rfl rfl rfl ?_
        refine w_ist4 (pc' := 48) rfl rfl rfl ?_
        refine w_iload (pc' := 50) rfl rfl rfl ?_
        refine w_ist3 (pc' := 51) rfl rfl rfl ?_
        refine w_iinc5 (pc' := 54) 1 rfl rfl ic_1 rfl ?_
        rw [nI_inc]
        refine w_goto (pc' := 22) rfl (by decide) ?_
        rw [show lkw T e (r + 1) k le f = lkw T e r (k + 1) (lkm T e k 8 0 0) k from if_pos (by omega)]
        exact ih (k + 1) (by omega) _ _ m1 (by omega) (by omega) hR_1 (hF.tr hF_1) _
set_option maxRecDepth 100000 in
set_option maxHeartbeats 4000000 in
theorem v_la_lookOf (xs : List Int32) {b : Nat} (hb : q_isL b) {T : q_T} {m : am_Mm} (hR : q_Rl b T m) (hB : q_Bd T) {p : Nat} (hp : p < T.1 153 0) : am_V xs 5 29 [.ref b, .ref (b + 6 + 4 * p)] m (am_qi (f_look T p) (fun m' => q_Rl b T m' ∧ q_Fl b m m')) := by
  have hb1 := q_isL_lt hb
  have hn0 : T.1 153 0 < 7 := hB 153 0
  refine am_V_of ky_29 (Nat.le_of_ble_eq_true rfl) ?_
  show am_P xs 4 la_lookOf 0 [some (.ref b), some (.ref (b + 6 + 4 * p)), none, none, none, none, none] [] m _
  refine w_aload_n (pc' := 1) rfl rfl rfl rfl ?_
  refine w_aload_n (pc' := 2) rfl rfl rfl rfl ?_
  refine w_cV1i (pc' := 5) (v_hereOf xs hb hR hB hp) (by decide) rfl rfl rfl (Nat.le_of_ble_eq_true rfl) (shL hb) rfl (fun m' hm' => ?_)
  rw [show m' = m from hm']
  clear hm' m'
  refine w_ist2 (pc' := 6) rfl rfl rfl ?_
  refine w_iload_n (pc' := 7) rfl rfl rfl ?_
  refine w_if_ne (t := 13) (pc' := 10) rfl (by decide) rfl (fun h7 => ?_) (fun h7 => ?_)
  · have h0 : ¬ f_came T p true = 0 := h7
    refine w_iconst (pc' := 14) 0 rfl rfl ic_0 ?_
    refine w_ist3 (pc' := 15) rfl rfl rfl ?_
    refine w_bipush (pc' := 17) 17 rfl rfl bp_17 ?_
    refine w_ist4 (pc' := 19) rfl rfl rfl ?_
    refine w_iconst (pc' := 20) 0 rfl rfl ic_0 ?_
    refine w_ist5 (pc' := 22) rfl rfl rfl ?_
    have hl16 := lkm_le T (f_came T p true) 0 8 0 0 (by omega)
    rw [show f_look T p = nI (lkw T (f_came T p true) 4 0 17 0) from (if_neg h0).trans (congrArg nI ((if_pos (by omega)).trans (if_pos (by omega)).symm))]
    exact lp_look xs hb hB (f_came T p true) 4 0 (by omega) 17 0 m (by omega) (by omega) hR q_Fl.rf none
  · have h0 : f_came T p true = 0 := h7
    refine w_bipush (pc' := 12) (-5) rfl rfl bp_m5 ?_
    refine w_iret rfl rfl rfl ?_
    rw [show f_look T p = -5 from if_pos h0]
    exact ⟨rfl, hR, q_Fl.rf⟩
