theorem q_Rc.item {T : q_T} {m : am_Mm} (hC : q_Rc T m) (hI : q_I T) {t i : Nat} (ht : t < 6) (v : Int64) : q_Q (q_Ti T t i v) m (am_uJ m (142 + 2 * t) i v) := by
  refine hC.x hI (hC.2.2.2.1.tp (fun c hc => rfl) rfl (fun c k hc => rfl) (fun t' ht' => ?_)) (fun c hc => rfl) (fun c hc => uJ_nc (by omega)) rfl (fun c k hc => rfl)
  obtain ⟨a1, a2, a3⟩ := hC.2.2.2.1.2.2.2.2.2.2 t' ht'
  refine ⟨a1, a2, fun j hj => ?_⟩
  by_cases e : t' = t ∧ j = i
  · obtain ⟨rfl, rfl⟩ := e
    exact uJ_at.trans (if_pos (⟨rfl, rfl⟩ : t' = t' ∧ j = j)).symm
  · exact (uJ_ne (by omega)).trans ((a3 j hj).trans (if_neg e).symm)
theorem q_Rc.shift {T : q_T} {m : am_Mm} (hC : q_Rc T m) (hI : q_I T) {t i o j n : Nat} (ht : t < 6) (ho : o < 6) (hi : i + n ≤ 60) (hj : j + n ≤ 60) : q_Q (q_Tc T t i o j n) m (am_cpJ m (142 + 2 * t) (142 + 2 * o) i j n) := by
  have nc : ∀ c, c ≠ 142 + 2 * o → (am_cpJ m (142 + 2 * t) (142 + 2 * o) i j n).2 c = m.2 c := fun c hc => funext (fun x => if_neg (fun q => hc q.1))
  refine hC.x hI (hC.2.2.2.1.tp (fun c hc => rfl) rfl (fun c k hc => rfl) (fun t' ht' => ?_)) (fun c hc => rfl) (fun c hc => nc c (by omega)) rfl (fun c k hc => rfl)
  obtain ⟨a1, a2, a3⟩ := hC.2.2.2.1.2.2.2.2.2.2 t' ht'
  refine ⟨a1, a2, fun x hx => ?_⟩
  show (if 142 + 2 * t' = 142 + 2 * o ∧ j ≤ x ∧ x < j + n then m.2 (142 + 2 * t) (i + (x - j)) else m.2 (142 + 2 * t') x) = if t' = o ∧ j ≤ x ∧ x < j + n then T.2.2 t (i + (x - j)) else T.2.2 t' x
  by_cases e : t' = o ∧ j ≤ x ∧ x < j + n
  · rw [if_pos ⟨by omega, e.2⟩, if_pos e]
    exact (hC.2.2.2.1.2.2.2.2.2.2 t ht).2.2 _ (by omega)
  · rw [if_neg (fun q => e ⟨by omega, q.2⟩), if_neg e]
    exact a3 x hx
def q_hr (T : q_T) (t : Nat) (x n : Int32) : Bool := decide (¬ n < 0 ∧ (¬ x < 0 ∧ x.toNatClampNeg + n.toNatClampNeg ≤ T.1 183 t))
theorem q_hr_of {T : q_T} {t : Nat} {x n : Int32} (h : q_hr T t x n = true) : ∃ a b, x = nI a ∧ (n = nI b ∧ (a < 2 ^ 31 ∧ (b < 2 ^ 31 ∧ a + b ≤ T.1 183 t))) := by
  obtain ⟨h1, h2, h3⟩ := of_decide_eq_true h
  obtain ⟨b, hb, rfl⟩ := nI_of h1
  obtain ⟨a, ha, rfl⟩ := nI_of h2
  rw [nI_clamp ha, nI_clamp hb] at h3
  exact ⟨a, b, rfl, rfl, ha, hb, h3⟩
theorem q_hr_no {T : q_T} {t : Nat} {x n : Int32} (h : q_hr T t x n = false) : n < 0 ∨ (x < 0 ∨ ¬ x.toNatClampNeg + n.toNatClampNeg ≤ T.1 183 t) := by
  have h1 := of_decide_eq_false h
  by_cases e1 : n < 0
  · exact Or.inl e1
  · by_cases e2 : x < 0
    · exact Or.inr (Or.inl e2)
    · exact Or.inr (Or.inr (fun e3 => h1 ⟨e1, e2, e3⟩))
set_option maxRecDepth 100000 in
set_option maxHeartbeats 4000000 in
theorem v_asItem (xs : List Int32) {m : am_Mm} {t : Nat} (ht : t < 6) {x : Int32} (hx : m.1 (141 + 2 * t) 0 = x) (v : Int64) : am_V xs 1 135 [.ref (141 + 2 * t), .long v] m (am_qj (f_kept x v) (· = m)) := by
  refine am_V_of ky_135 (Nat.le_of_ble_eq_true rfl) ?_
  show am_P xs 0 tp_asItem 0 [some (.ref (141 + 2 * t)), some (.long v), none] [] m _
  refine w_aload_n (pc' := 1) rfl rfl rfl rfl ?_
  refine w_getI (pc' := 4) rfl rfl rfl (shT (t := t) (by omega)) rfl ?_
  rw [hx]
  refine w_tsw (t := 52) rfl rfl (fun hD1 => ?_) (fun z1 hl1 hh1 hz1 => ?_)
  · have eD1_0 : ¬ x = 0 := fun q => by rw [q] at hD1; revert hD1; decide
    have eD1_1 : ¬ x = 1 := fun q => by rw [q] at hD1; revert hD1; decide
    have eD1_2 : ¬ x = 2 := fun q => by rw [q] at hD1; revert hD1; decide
    have eD1_3 : ¬ x = 3 := fun q => by rw [q] at hD1; revert hD1; decide
    refine w_lload_n (pc' := 53) rfl rfl rfl ?_
    refine w_lconst (pc' := 54) 0 rfl rfl rfl ?_
    refine w_lcmp (pc' := 55) rfl rfl ?_
    refine w_if_eq (t := 62) (pc' := 58) rfl (by decide) rfl (fun h55 => ?_) (fun h55 => ?_)
    · refine w_lconst (pc' := 63) 0 rfl rfl rfl ?_
      refine w_lret rfl rfl ?_
      refine ⟨?_, rfl⟩
      unfold f_kept
      rw [if_neg eD1_0, if_neg eD1_1, if_neg eD1_2, if_neg eD1_3, if_pos h55]
    · refine w_lconst (pc' := 59) 1 rfl rfl rfl ?_
      refine w_goto (pc' := 63) rfl (by decide) ?_
      refine w_lret rfl rfl ?_
      refine ⟨?_, rfl⟩
      unfold f_kept
      rw [if_neg eD1_0, if_neg eD1_1, if_neg eD1_2, if_neg eD1_3, if_neg h55]
  · rcases (show z1 = 0 ∨ z1 = 1 ∨ z1 = 2 ∨ z1 = 3 by omega) with rfl | rfl | rfl | rfl
    · refine ⟨32, 36, rfl, rfl, ?_⟩
      have e1 : x = 0 := ts_eq hz1 (by decide)
      refine w_lload_n (pc' := 37) rfl rfl rfl ?_
      refine w_l2i (pc' := 38) rfl rfl ?_
      refine w_i2b (pc' := 39) rfl rfl ?_
      refine w_i2l (pc' := 40) rfl rfl ?_
      refine w_lret rfl rfl ?_
      refine ⟨?_, rfl⟩
      rw [e1]
      rfl
    · refine ⟨37, 41, rfl, rfl, ?_⟩
      have e1 : x = 1 := ts_eq hz1 (by decide)
      refine w_lload_n (pc' := 42) rfl rfl rfl ?_
      refine w_l2i (pc' := 43) rfl rfl ?_
      refine w_i2s (pc' := 44) rfl rfl ?_
      refine w_i2l (pc' := 45) rfl rfl ?_
      refine w_lret rfl rfl ?_
      refine ⟨?_, rfl⟩
      rw [e1]
      rfl
    · refine ⟨42, 46, rfl, rfl, ?_⟩
      have e1 : x = 2 := ts_eq hz1 (by decide)
      refine w_lload_n (pc' := 47) rfl rfl rfl ?_
      refine w_l2i (pc' := 48) rfl rfl ?_
      refine w_i2l (pc' := 49) rfl rfl ?_
      refine w_lret rfl rfl ?_
      refine ⟨?_, rfl⟩
      rw [e1]
      rfl
    · refine ⟨46, 50, rfl, rfl, ?_⟩
      have e1 : x = 3 := ts_eq hz1 (by decide)
      refine w_lload_n (pc' := 51) rfl rfl rfl ?_
      refine w_lret rfl rfl ?_
      refine ⟨?_, rfl⟩
      rw [e1]
      rfl
set_option maxRecDepth 100000 in
set_option maxHeartbeats 4000000 in
theorem v_k_item (xs : List Int32) {T : q_T} {m : am_Mm} (hC : q_Rc T m) (hI : q_I T) (t i : Int32) (v : Int64) : am_V xs 2 134 [.ref 0, .int t, .int i, .long v] m (am_qi (f_item T t i v).1 (q_Q (f_item T t i v).2 m)) := by
  have hY := hI.1.1
  have hB := hY.1
  have hl6 := hI.1.2.1
  have hn0 : T.1 153 0 < 7 := hB 153 0
  refine am_V_of ky_134 (Nat.le_of_ble_eq_true rfl) ?_
  show am_P xs 1 k_item 0 [some (.ref 0), some (.int t), some (.int i), some (.long v), none, none] [] m _
  rcases hqbt : q_is t 6 with _ | _
  · have hqt : q_is t 6 = false := hqbt
    refine w_aload_n (pc' := 1) rfl rfl rfl rfl ?_
    refine w_iload_n (pc' := 2) rfl rfl rfl ?_
    refine w_cV1a (pc' := 5) (v_tapeAtN xs m hqt) (by decide) rfl rfl rfl (Nat.le_of_ble_eq_true rfl) sh_0 rfl (fun m' hm' => ?_)
    rw [show m' = m from hm']
    clear hm' m'
    refine w_ast5 (pc' := 7) rfl rfl rfl rfl ?_
    refine w_aload (pc' := 9) rfl rfl rfl rfl ?_
    refine w_ifnonnullN (pc' := 12) rfl rfl ?_
    refine w_iconst (pc' := 13) (-1) rfl rfl ic_m1 ?_
    refine w_iret rfl rfl rfl ?_
    have hf : f_item T t i v = (-1, T) := by simp [f_item, hqt]
    rw [hf]
    exact ⟨rfl, hC.Q hI (q_Fq.rf)⟩
  · obtain ⟨jt, hjt, rfl⟩ := q_is_of hqbt (by omega)
    have b61t : T.1 183 jt < 61 := hB 183 jt
    have b6t : T.1 182 jt < 6 := hB 182 jt
    refine w_aload_n (pc' := 1) rfl rfl rfl rfl ?_
    refine w_iload_n (pc' := 2) rfl rfl rfl ?_
    refine w_cV1a (pc' := 5) (v_tapeAtS xs m (t := jt) (by omega)) (by decide) rfl rfl rfl (Nat.le_of_ble_eq_true rfl) sh_0 rfl (fun m' hm' => ?_)
    rw [show m' = m from hm']
    clear hm' m'
    refine w_ast5 (pc' := 7) rfl rfl rfl rfl ?_
    refine w_aload (pc' := 9) rfl rfl rfl rfl ?_
    refine w_ifnonnullR (pc' := 14) rfl (by decide) (by omega) ?_
    refine w_aload (pc' := 16) rfl rfl rfl rfl ?_
    refine w_getI (pc' := 19) rfl rfl rfl (shT (t := jt) (by omega)) rfl ?_
    rw [show m.1 (141 + 2 * jt) 0 = nI (T.1 182 jt) - 1 from (hC.2.2.2.1.2.2.2.2.2.2 jt (by omega)).1]
    refine w_iconst (pc' := 20) (-1) rfl rfl ic_m1 ?_
    refine w_ic_ne (t := 26) (pc' := 23) rfl (by decide) rfl (fun h20 => ?_) (fun h20 => ?_)
    · have g1 : ¬ (T.1 182 jt) = 0 := fun q => h20 ((nI_pp (a := (T.1 182 jt)) (b := 0) (by omega) (by omega)).mpr q)
      refine w_aload (pc' := 28) rfl rfl rfl rfl ?_
      refine w_iload_n (pc' := 29) rfl rfl rfl ?_
      refine w_cV1i (pc' := 32) (v_has xs hC hB (t := jt) (by omega) (i)) (by decide) rfl rfl rfl (Nat.le_of_ble_eq_true rfl) (shT (t := jt) (by omega)) rfl (fun m' hm' => ?_)
      rw [show m' = m from hm']
      clear hm' m'
      refine w_if_ne (t := 38) (pc' := 35) rfl (by decide) rfl (fun h32 => ?_) (fun h32 => ?_)
      · obtain ⟨j2, hj2, rfl⟩ := q_is_of (bB_n0.mp h32) (by omega)
        refine w_aload (pc' := 40) rfl rfl rfl rfl ?_
        refine w_getC (pc' := 43) rfl rfl rfl (shT (t := jt) (by omega)) rfl ?_
        refine w_iload_n (pc' := 44) rfl rfl rfl ?_
        refine w_aload (pc' := 46) rfl rfl rfl rfl ?_
        refine w_lload_n (pc' := 47) rfl rfl rfl ?_
        refine w_cV1j (pc' := 50) (v_asItem xs (t := jt) (by omega) (hC.2.2.2.1.2.2.2.2.2.2 jt (by omega)).1 v) (by decide) rfl rfl rfl (Nat.le_of_ble_eq_true rfl) (shT (t := jt) (by omega)) rfl (fun m' hm' => ?_)
        rw [show m' = m from hm']
        clear hm' m'
        refine w_last (j := (j2)) (pc' := 51) rfl rfl (shTi (t := jt) (by omega)) rfl (by omega) (by decide) ?_
        refine w_iconst (pc' := 52) 1 rfl rfl ic_1 ?_
        refine w_iret rfl rfl rfl ?_
        have hf : f_item T (nI jt) (nI j2) v = (1, q_Ti T jt j2 (f_kept (nI (T.1 182 jt) - 1) v)) := by unfold f_item; rw [if_pos (q_is_nI hjt (by omega)), nI_clamp (show jt < 2 ^ 31 by omega), if_pos (by omega), if_pos (q_is_nI (by omega) (by omega)), nI_clamp (show j2 < 2 ^ 31 by omega)]
        rw [hf]
        exact ⟨rfl, hC.item hI (by omega) _⟩
      · have hN3 := bB_0.mp h32
        refine w_bipush (pc' := 37) (-13) rfl rfl bp_m13 ?_
        refine w_iret rfl rfl rfl ?_
        have hf : f_item T (nI jt) i v = (-13, T) := by unfold f_item; rw [if_pos (q_is_nI hjt (by omega)), nI_clamp (show jt < 2 ^ 31 by omega), if_pos (by omega), if_neg (by rw [hN3]; decide)]
        rw [hf]
        exact ⟨rfl, hC.Q hI (q_Fq.rf)⟩
    · have g4 : (T.1 182 jt) = 0 := (nI_pp (a := (T.1 182 jt)) (b := 0) (by omega) (by omega)).mp h20
      refine w_bipush (pc' := 25) (-11) rfl rfl bp_m11 ?_
      refine w_iret rfl rfl rfl ?_
      have hf : f_item T (nI jt) i v = (-11, T) := by unfold f_item; rw [if_pos (q_is_nI hjt (by omega)), nI_clamp (show jt < 2 ^ 31 by omega), if_neg (by omega)]
      rw [hf]
      exact ⟨rfl, hC.Q hI (q_Fq.rf)⟩
set_option maxRecDepth 100000 in
set_option maxHeartbeats 4000000 in
theorem v_hasRun (xs : List Int32) {T : q_T} {m : am_Mm} (hC : q_Rc T m) (hB : q_Bd T) {t : Nat} (ht : t < 6) (x n : Int32) : am_V xs 1 138 [.ref (141 + 2 * t), .int x, .int n] m (am_qi (bB (q_hr T t x n)) (· = m)) := by
  have b61 : T.1 183 t < 61 := hB 183 t
  refine am_V_of ky_138 (Nat.le_of_ble_eq_true rfl) ?_
  show am_P xs 0 tp_hasRun 0 [some (.ref (141 + 2 * t)), some (.int x), some (.int n)] [] m _
  refine w_iload_n (pc' := 1) rfl rfl rfl ?_
  refine w_if_lt (t := 35) (pc' := 4) rfl (by decide) rfl (fun h1 => ?_) (fun h1 => ?_)
  · refine w_iconst (pc' := 36) 0 rfl rfl ic_0 ?_
    refine w_iret rfl rfl (by first | rfl | exact am_nbB _) ?_
    rw [show q_hr T t x n = false from decide_eq_false (fun z => z.1 h1)]
    exact ⟨rfl, rfl⟩
  · obtain ⟨b, hb, rfl⟩ := nI_of (x := n) h1
    refine w_iload_n (pc' := 5) rfl rfl rfl ?_
    refine w_if_lt (t := 35) (pc' := 8) rfl (by decide) rfl (fun h5 => ?_) (fun h5 => ?_)
    · refine w_iconst (pc' := 36) 0 rfl rfl ic_0 ?_
      refine w_iret rfl rfl (by first | rfl | exact am_nbB _) ?_
      rw [show q_hr T t x (nI b) = false from decide_eq_false (fun z => z.2.1 h5)]
      exact ⟨rfl, rfl⟩
    · obtain ⟨a, ha, rfl⟩ := nI_of (x := x) h5
      refine w_iload_n (pc' := 9) rfl rfl rfl ?_
      refine w_i2l (pc' := 10) rfl rfl ?_
      refine w_iload_n (pc' := 11) rfl rfl rfl ?_
      refine w_i2l (pc' := 12) rfl rfl ?_
      refine w_ladd (pc' := 13) rfl rfl ?_
      refine w_aload_n (pc' := 14) rfl rfl rfl rfl ?_
      refine w_getI (pc' := 17) rfl rfl rfl (shT (t := t) (by omega)) rfl ?_
      rw [show m.1 (141 + 2 * t) 1 = nI (T.1 183 t) from (hC.2.2.2.1.2.2.2.2.2.2 t (by omega)).2.1]
      refine w_i2l (pc' := 18) rfl rfl ?_
      refine w_lcmp (pc' := 19) rfl rfl ?_
      refine w_if_gt (t := 35) (pc' := 22) rfl (by decide) rfl (fun h19 => ?_) (fun h19 => ?_)
      · have hgt : ¬ a + b ≤ T.1 183 t := fun z => absurd ((lg_leS ha hb (by omega)).mpr z) (Int32.not_le.mpr h19)
        refine w_iconst (pc' := 36) 0 rfl rfl ic_0 ?_
        refine w_iret rfl rfl (by first | rfl | exact am_nbB _) ?_
        rw [show q_hr T t (nI a) (nI b) = false from decide_eq_false (fun z => by have z3 := z.2.2; rw [nI_clamp ha, nI_clamp hb] at z3; exact hgt z3)]
        exact ⟨rfl, rfl⟩
      · have hle : a + b ≤ T.1 183 t := (lg_leS ha hb (by omega)).mp (Int32.not_lt.mp h19)
        refine w_aload_n (pc' := 23) rfl rfl rfl rfl ?_
        refine w_getI (pc' := 26) rfl rfl rfl (shT (t := t) (by omega)) rfl ?_
        rw [show m.1 (141 + 2 * t) 1 = nI (T.1 183 t) from (hC.2.2.2.1.2.2.2.2.2.2 t (by omega)).2.1]
        refine w_bipush (pc' := 28) 60 rfl rfl bp_60 ?_
        refine w_ic_gt (t := 35) (pc' := 31) rfl (by decide) rfl (fun h28 => ?_) (fun h28 => ?_)
        · have g1 : 60 < (T.1 183 t) := (nI_ltI (a := 60) (b := (T.1 183 t)) (by omega) (by omega)).mp h28
          omega
        · have g2 : ¬ 60 < (T.1 183 t) := fun q => h28 ((nI_ltI (a := 60) (b := (T.1 183 t)) (by omega) (by omega)).mpr q)
          refine w_iconst (pc' := 32) 1 rfl rfl ic_1 ?_
          refine w_goto (pc' := 36) rfl (by decide) ?_
          refine w_iret rfl rfl (by first | rfl | exact am_nbB _) ?_
          rw [show q_hr T t (nI a) (nI b) = true from decide_eq_true ⟨h1, h5, by rw [nI_clamp ha, nI_clamp hb]; exact hle⟩]
          exact ⟨rfl, rfl⟩
set_option maxRecDepth 100000 in
set_option maxHeartbeats 4000000 in
theorem v_k_shift (xs : List Int32) {T : q_T} {m : am_Mm} (hC : q_Rc T m) (hI : q_I T) (t : Int32) (i : Int32) (o : Int32) (j : Int32) (n : Int32) : am_V xs 2 137 [.ref 0, .int t, .int i, .int o, .int j, .int n] m (am_qi (f_shift T t i o j n).1 (q_Q (f_shift T t i o j n).2 m)) := by
  have hY := hI.1.1
  have hB := hY.1
  have hl6 := hI.1.2.1
  have hn0 : T.1 153 0 < 7 := hB 153 0
  have hF : q_Fl 1 m m := q_Fl.rf
  have hR1 := hC.1
  refine am_V_of ky_137 (Nat.le_of_ble_eq_true rfl) ?_
  show am_P xs 1 k_shift 0 [some (.ref 0), some (.int t), some (.int i), some (.int o), some (.int j), some (.int n), none, none] [] m _
  rcases hqbt : q_is t 6 with _ | _
  · have hqt : q_is t 6 = false := hqbt
    refine w_aload_n (pc' := 1) rfl rfl rfl rfl ?_
    refine w_iload_n (pc' := 2) rfl rfl rfl ?_
    refine w_cV1a (pc' := 5) (v_tapeAtN xs m hqt) (by decide) rfl rfl rfl (Nat.le_of_ble_eq_true rfl) sh_0 rfl (fun m' hm' => ?_)
    rw [show m' = m from hm']
    clear hm' m'
    refine w_ast6 (pc' := 7) rfl rfl rfl rfl ?_
    rcases hqbo : q_is o 6 with _ | _
    · have hqo : q_is o 6 = false := hqbo
      refine w_aload_n (pc' := 8) rfl rfl rfl rfl ?_
      refine w_iload_n (pc' := 9) rfl rfl rfl ?_
      refine w_cV1a (pc' := 12) (v_tapeAtN xs m hqo) (by decide) rfl rfl rfl (Nat.le_of_ble_eq_true rfl) sh_0 rfl (fun m' hm' => ?_)
      rw [show m' = m from hm']
      clear hm' m'
      refine w_ast7 (pc' := 14) rfl rfl rfl rfl ?_
      refine w_aload (pc' := 16) rfl rfl rfl rfl ?_
      refine w_ifnullN (pc' := 24) rfl (by decide) ?_
      refine w_iconst (pc' := 25) (-1) rfl rfl ic_m1 ?_
      refine w_iret rfl rfl rfl ?_
      have hf : f_shift T t i o j n = (-1, T) := by simp [f_shift, hqt, hqo]
      rw [hf]
      exact ⟨rfl, hC.Q hI (q_Fq.rf)⟩
    · obtain ⟨jo, hjo, rfl⟩ := q_is_of hqbo (by omega)
      have b61o : T.1 183 jo < 61 := hB 183 jo
      have b6o : T.1 182 jo < 6 := hB 182 jo
      refine w_aload_n (pc' := 8) rfl rfl rfl rfl ?_
      refine w_iload_n (pc' := 9) rfl rfl rfl ?_
      refine w_cV1a (pc' := 12) (v_tapeAtS xs m (t := jo) (by omega)) (by decide) rfl rfl rfl (Nat.le_of_ble_eq_true rfl) sh_0 rfl (fun m' hm' => ?_)
      rw [show m' = m from hm']
      clear hm' m'
      refine w_ast7 (pc' := 14) rfl rfl rfl rfl ?_
      refine w_aload (pc' := 16) rfl rfl rfl rfl ?_
      refine w_ifnullN (pc' := 24) rfl (by decide) ?_
      refine w_iconst (pc' := 25) (-1) rfl rfl ic_m1 ?_
      refine w_iret rfl rfl rfl ?_
      have hf : f_shift T t i (nI jo) j n = (-1, T) := by simp [f_shift, hqt, q_is_nI (n := 6) hjo (by omega), nI_clamp (show jo < 2 ^ 31 by omega)]
      rw [hf]
      exact ⟨rfl, hC.Q hI (q_Fq.rf)⟩
  · obtain ⟨jt, hjt, rfl⟩ := q_is_of hqbt (by omega)
    have b61t : T.1 183 jt < 61 := hB 183 jt
    have b6t : T.1 182 jt < 6 := hB 182 jt
    refine w_aload_n (pc' := 1) rfl rfl rfl rfl ?_
    refine w_iload_n (pc' := 2) rfl rfl rfl ?_
    refine w_cV1a (pc' := 5) (v_tapeAtS xs m (t := jt) (by omega)) (by decide) rfl rfl rfl (Nat.le_of_ble_eq_true rfl) sh_0 rfl (fun m' hm' => ?_)
    rw [show m' = m from hm']
    clear hm' m'
    refine w_ast6 (pc' := 7) rfl rfl rfl rfl ?_
    rcases hqbo : q_is o 6 with _ | _
    · have hqo : q_is o 6 = false := hqbo
      refine w_aload_n (pc' := 8) rfl rfl rfl rfl ?_
      refine w_iload_n (pc' := 9) rfl rfl rfl ?_
      refine w_cV1a (pc' := 12) (v_tapeAtN xs m hqo) (by decide) rfl rfl rfl (Nat.le_of_ble_eq_true rfl) sh_0 rfl (fun m' hm' => ?_)
      rw [show m' = m from hm']
      clear hm' m'
      refine w_ast7 (pc' := 14) rfl rfl rfl rfl ?_
      refine w_aload (pc' := 16) rfl rfl rfl rfl ?_
      refine w_ifnullR (pc' := 19) rfl rfl (by omega) ?_
      refine w_aload (pc' := 21) rfl rfl rfl rfl ?_
      refine w_ifnonnullN (pc' := 24) rfl rfl ?_
      refine w_iconst (pc' := 25) (-1) rfl rfl ic_m1 ?_
      refine w_iret rfl rfl rfl ?_
      have hf : f_shift T (nI jt) i o j n = (-1, T) := by simp [f_shift, q_is_nI (n := 6) hjt (by omega), nI_clamp (show jt < 2 ^ 31 by omega), hqo]
      rw [hf]
      exact ⟨rfl, hC.Q hI (q_Fq.rf)⟩
    · obtain ⟨jo, hjo, rfl⟩ := q_is_of hqbo (by omega)
      have b61o : T.1 183 jo < 61 := hB 183 jo
      have b6o : T.1 182 jo < 6 := hB 182 jo
      refine w_aload_n (pc' := 8) rfl rfl rfl rfl ?_
      refine w_iload_n (pc' := 9) rfl rfl rfl ?_
      refine w_cV1a (pc' := 12) (v_tapeAtS xs m (t := jo) (by omega)) (by decide) rfl rfl rfl (Nat.le_of_ble_eq_true rfl) sh_0 rfl (fun m' hm' => ?_)
      rw [show m' = m from hm']
      clear hm' m'
      refine w_ast7 (pc' := 14) rfl rfl rfl rfl ?_
      refine w_aload (pc' := 16) rfl rfl rfl rfl ?_
      refine w_ifnullR (pc' := 19) rfl rfl (by omega) ?_
      refine w_aload (pc' := 21) rfl rfl rfl rfl ?_
      refine w_ifnonnullR (pc' := 26) rfl (by decide) (by omega) ?_
      refine w_aload (pc' := 28) rfl rfl rfl rfl ?_
      refine w_getI (pc' := 31) rfl rfl rfl (shT (t := jt) (by omega)) rfl ?_
      rw [show m.1 (141 + 2 * jt) 0 = nI (T.1 182 jt) - 1 from (hC.2.2.2.1.2.2.2.2.2.2 jt (by omega)).1]
      refine w_iconst (pc' := 32) (-1) rfl rfl ic_m1 ?_
      refine w_ic_eq (t := 44) (pc' := 35) rfl (by decide) rfl (fun h32 => ?_) (fun h32 => ?_)
      · have g1 : (T.1 182 jt) = 0 := (nI_pp (a := (T.1 182 jt)) (b := 0) (by omega) (by omega)).mp h32
        refine w_bipush (pc' := 46) (-11) rfl rfl bp_m11 ?_
        refine w_iret rfl rfl rfl ?_
        have hf : f_shift T (nI jt) i (nI jo) j n = (-11, T) := by unfold f_shift; rw [if_pos ⟨q_is_nI hjt (by omega), q_is_nI hjo (by omega)⟩, nI_clamp (show jt < 2 ^ 31 by omega), nI_clamp (show jo < 2 ^ 31 by omega), if_neg (by omega)]
        rw [hf]
        exact ⟨rfl, hC.Q hI (q_Fq.rf)⟩
      · have g2 : ¬ (T.1 182 jt) = 0 := fun q => h32 ((nI_pp (a := (T.1 182 jt)) (b := 0) (by omega) (by omega)).mpr q)
        refine w_aload (pc' := 37) rfl rfl rfl rfl ?_
        refine w_getI (pc' := 40) rfl rfl rfl (shT (t := jo) (by omega)) rfl ?_
        rw [show m.1 (141 + 2 * jo) 0 = nI (T.1 182 jo) - 1 from (hC.2.2.2.1.2.2.2.2.2.2 jo (by omega)).1]
        refine w_iconst (pc' := 41) (-1) rfl rfl ic_m1 ?_
        refine w_ic_ne (t := 47) (pc' := 44) rfl (by decide) rfl (fun h41 => ?_) (fun h41 => ?_)
        · have g3 : ¬ (T.1 182 jo) = 0 := fun q => h41 ((nI_pp (a := (T.1 182 jo)) (b := 0) (by omega) (by omega)).mpr q)
          refine w_aload (pc' := 49) rfl rfl rfl rfl ?_
          refine w_getI (pc' := 52) rfl rfl rfl (shT (t := jt) (by omega)) rfl ?_
          rw [show m.1 (141 + 2 * jt) 0 = nI (T.1 182 jt) - 1 from (hC.2.2.2.1.2.2.2.2.2.2 jt (by omega)).1]
          refine w_aload (pc' := 54) rfl rfl rfl rfl ?_
          refine w_getI (pc' := 57) rfl rfl rfl (shT (t := jo) (by omega)) rfl ?_
          rw [show m.1 (141 + 2 * jo) 0 = nI (T.1 182 jo) - 1 from (hC.2.2.2.1.2.2.2.2.2.2 jo (by omega)).1]
          refine w_ic_eq (t := 63) (pc' := 60) rfl (by decide) rfl (fun h57 => ?_) (fun h57 => ?_)
          · have g4 : (T.1 182 jt) = (T.1 182 jo) := (nI_pp (a := (T.1 182 jt)) (b := (T.1 182 jo)) (by omega) (by omega)).mp h57
            refine w_aload (pc' := 65) rfl rfl rfl rfl ?_
            refine w_iload_n (pc' := 66) rfl rfl rfl ?_
            refine w_iload (pc' := 68) rfl rfl rfl ?_
            refine w_cV2i (pc' := 71) (v_hasRun xs hC hB (t := jt) (by omega) _ _) (by decide) rfl rfl rfl (Nat.le_of_ble_eq_true rfl) (shT (t := jt) (by omega)) rfl (fun m' hm' => ?_)
            rw [show m' = m from hm']
            clear hm' m'
            refine w_if_eq (t := 86) (pc' := 74) rfl (by decide) rfl (fun h71 => ?_) (fun h71 => ?_)
            · have hr := q_hr_no (bB_0.mp h71)
              refine w_bipush (pc' := 88) (-13) rfl rfl bp_m13 ?_
              refine w_iret rfl rfl rfl ?_
              have hf : f_shift T (nI jt) i (nI jo) j n = (-13, T) := by unfold f_shift; rw [if_pos ⟨q_is_nI hjt (by omega), q_is_nI hjo (by omega)⟩, nI_clamp (show jt < 2 ^ 31 by omega), nI_clamp (show jo < 2 ^ 31 by omega), if_pos ⟨by omega, by omega⟩, if_pos (by omega), if_pos (by rcases hr with z | z | z; exact Or.inl z; exact Or.inr (Or.inl z); exact Or.inr (Or.inr (Or.inr (Or.inl z))))]
              rw [hf]
              exact ⟨rfl, hC.Q hI (q_Fq.rf)⟩
            · obtain ⟨ji, jn, rfl, rfl, hji, hjn, hle1⟩ := q_hr_of (bB_n0.mp h71)
              refine w_aload (pc' := 76) rfl rfl rfl rfl ?_
              refine w_iload (pc' := 78) rfl rfl rfl ?_
              refine w_iload (pc' := 80) rfl rfl rfl ?_
              refine w_cV2i (pc' := 83) (v_hasRun xs hC hB (t := jo) (by omega) _ _) (by decide) rfl rfl rfl (Nat.le_of_ble_eq_true rfl) (shT (t := jo) (by omega)) rfl (fun m' hm' => ?_)
              rw [show m' = m from hm']
              clear hm' m'
              refine w_if_ne (t := 89) (pc' := 86) rfl (by decide) rfl (fun h83 => ?_) (fun h83 => ?_)
              · obtain ⟨jj, b2, rfl, eb2, hjj, hb2, hle2⟩ := q_hr_of (bB_n0.mp h83)
                obtain rfl : jn = b2 := (nI_eq hjn hb2).mp eb2
                refine w_aload (pc' := 91) rfl rfl rfl rfl ?_
                refine w_getC (pc' := 94) rfl rfl rfl (shT (t := jt) (by omega)) rfl ?_
                refine w_iload_n (pc' := 95) rfl rfl rfl ?_
                refine w_aload (pc' := 97) rfl rfl rfl rfl ?_
                refine w_getC (pc' := 100) rfl rfl rfl (shT (t := jo) (by omega)) rfl ?_
                refine w_iload (pc' := 102) rfl rfl rfl ?_
                refine w_iload (pc' := 104) rfl rfl rfl ?_
                refine w_acpJ (n := jn) (dp := jj) (sp := ji) (pc' := 107) rfl rfl rfl (Nat.le_of_ble_eq_true rfl) (shTi (t := jt) (by omega)) (shTi (t := jo) (by omega)) rfl rfl rfl (by omega) (by omega) (by decide) (by decide) ?_
                refine w_iload (pc' := 109) rfl rfl rfl ?_
                refine w_iret rfl rfl rfl ?_
                have hf : f_shift T (nI jt) (nI ji) (nI jo) (nI jj) (nI jn) = (nI jn, q_Tc T jt ji jo jj jn) := by unfold f_shift; rw [if_pos ⟨q_is_nI hjt (by omega), q_is_nI hjo (by omega)⟩, nI_clamp (show jt < 2 ^ 31 by omega), nI_clamp (show jo < 2 ^ 31 by omega), if_pos ⟨by omega, by omega⟩, if_pos (by omega), if_neg (fun z => by rcases z with z | z | z | z | z; exact nI_pos hjn z; exact nI_pos hji z; exact nI_pos hjj z; exact z (by rw [nI_clamp hji, nI_clamp hjn]; exact hle1); exact z (by rw [nI_clamp hjj, nI_clamp hjn]; exact hle2)), nI_clamp hji, nI_clamp hjn, nI_clamp hjj]
                rw [hf]
                exact ⟨rfl, hC.shift hI (by omega) (by omega) (by omega) (by omega)⟩
              · have hr := q_hr_no (bB_0.mp h83)
                refine w_bipush (pc' := 88) (-13) rfl rfl bp_m13 ?_
                refine w_iret rfl rfl rfl ?_
                have hf : f_shift T (nI jt) (nI ji) (nI jo) j (nI jn) = (-13, T) := by unfold f_shift; rw [if_pos ⟨q_is_nI hjt (by omega), q_is_nI hjo (by omega)⟩, nI_clamp (show jt < 2 ^ 31 by omega), nI_clamp (show jo < 2 ^ 31 by omega), if_pos ⟨by omega, by omega⟩, if_pos (by omega), if_pos (by rcases hr with z | z | z; exact Or.inl z; exact Or.inr (Or.inr (Or.inl z)); exact Or.inr (Or.inr (Or.inr (Or.inr z))))]
                rw [hf]
                exact ⟨rfl, hC.Q hI (q_Fq.rf)⟩
          · have g5 : ¬ (T.1 182 jt) = (T.1 182 jo) := fun q => h57 ((nI_pp (a := (T.1 182 jt)) (b := (T.1 182 jo)) (by omega) (by omega)).mpr q)
            refine w_bipush (pc' := 62) (-12) rfl rfl bp_m12 ?_
            refine w_iret rfl rfl rfl ?_
            have hf : f_shift T (nI jt) i (nI jo) j n = (-12, T) := by unfold f_shift; rw [if_pos ⟨q_is_nI hjt (by omega), q_is_nI hjo (by omega)⟩, nI_clamp (show jt < 2 ^ 31 by omega), nI_clamp (show jo < 2 ^ 31 by omega), if_pos ⟨by omega, by omega⟩, if_neg (by omega)]
            rw [hf]
            exact ⟨rfl, hC.Q hI (q_Fq.rf)⟩
        · have g6 : (T.1 182 jo) = 0 := (nI_pp (a := (T.1 182 jo)) (b := 0) (by omega) (by omega)).mp h41
          refine w_bipush (pc' := 46) (-11) rfl rfl bp_m11 ?_
          refine w_iret rfl rfl rfl ?_
          have hf : f_shift T (nI jt) i (nI jo) j n = (-11, T) := by unfold f_shift; rw [if_pos ⟨q_is_nI hjt (by omega), q_is_nI hjo (by omega)⟩, nI_clamp (show jt < 2 ^ 31 by omega), nI_clamp (show jo < 2 ^ 31 by omega), if_neg (by omega)]
          rw [hf]
          exact ⟨rfl, hC.Q hI (q_Fq.rf)⟩
