theorem nI_subN {a b : Nat} (h : b ≤ a) : nI a - nI b = nI (a - b) := by
  have e : nI a = nI (a - b) + nI b := by rw [nI_add, Nat.sub_add_cancel h]
  rw [e, Int32.add_sub_cancel]
theorem nI_rem4 : ∀ a, a < 16 → nI a - nI a / 4 * 4 = nI (a % 4) := by decide +kernel
def f_stp (a b : Nat) : Nat := if b = 0 then (if a < 4 then a else a - 4) else if b = 1 then (if a % 4 = 0 then a else a - 1) else if b = 2 then (if a % 4 = 3 then a else a + 1) else (if 11 < a then a else a + 4)
theorem f_stp_lt {a b : Nat} (h : a < 16) : f_stp a b < 16 := by
  unfold f_stp
  split
  · split <;> omega
  · split
    · split <;> omega
    · split
      · split <;> omega
      · split <;> omega
set_option maxRecDepth 100000 in
set_option maxHeartbeats 4000000 in
theorem v_m_step (xs : List Int32) (m : am_Mm) {a b : Nat} (ha : a < 16) (hb : b < 100) : am_V xs 1 152 [.int (nI a), .int (nI b)] m (am_qi (nI (f_stp a b)) (· = m)) := by
  refine am_V_of ky_152 (Nat.le_of_ble_eq_true rfl) ?_
  show am_P xs 0 m_step 0 [some (.int (nI a)), some (.int (nI b))] [] m _
  refine w_iload_n (pc' := 1) rfl rfl rfl ?_
  refine w_tsw (t := 70) rfl rfl (fun hD1 => ?_) (fun z1 hl1 hh1 hz1 => ?_)
  · have eD1_0 : ¬ b = 0 := fun q => by rw [nI_toInt (by omega)] at hD1; omega
    have eD1_1 : ¬ b = 1 := fun q => by rw [nI_toInt (by omega)] at hD1; omega
    have eD1_2 : ¬ b = 2 := fun q => by rw [nI_toInt (by omega)] at hD1; omega
    refine w_iload_n (pc' := 71) rfl rfl rfl ?_
    refine w_bipush (pc' := 73) 11 rfl rfl bp_11 ?_
    refine w_ic_le (t := 80) (pc' := 76) rfl (by decide) rfl (fun h73 => ?_) (fun h73 => ?_)
    · have g2 : a ≤ 11 := (nI_leI (a := a) (b := 11) (by omega) (by omega)).mp h73
      refine w_iload_n (pc' := 81) rfl rfl rfl ?_
      refine w_iconst (pc' := 82) 4 rfl rfl ic_4 ?_
      refine w_iadd (pc' := 83) rfl rfl ?_
      rw [show nI (a) + (4 : Int32) = nI (a + 4) from nI_add _ _]
      refine w_iret rfl rfl rfl ?_
      rw [show f_stp a b = a + 4 by simp [f_stp, eD1_0, eD1_1, eD1_2, g2, Nat.not_lt.mpr g2]]
      exact ⟨rfl, rfl⟩
    · have g3 : ¬ a ≤ 11 := fun q => h73 ((nI_leI (a := a) (b := 11) (by omega) (by omega)).mpr q)
      refine w_iload_n (pc' := 77) rfl rfl rfl ?_
      refine w_goto (pc' := 83) rfl (by decide) ?_
      refine w_iret rfl rfl rfl ?_
      rw [show f_stp a b = a by simp [f_stp, eD1_0, eD1_1, eD1_2, g3, Nat.lt_of_not_le g3]]
      exact ⟨rfl, rfl⟩
  · rcases (show z1 = 0 ∨ z1 = 1 ∨ z1 = 2 by omega) with rfl | rfl | rfl
    · refine ⟨27, 28, rfl, rfl, ?_⟩
      have e1 : b = 0 := by rw [nI_toInt (by omega)] at hz1; omega
      refine w_iload_n (pc' := 29) rfl rfl rfl ?_
      refine w_iconst (pc' := 30) 4 rfl rfl ic_4 ?_
      refine w_ic_ge (t := 37) (pc' := 33) rfl (by decide) rfl (fun h30 => ?_) (fun h30 => ?_)
      · have g4 : 4 ≤ a := (nI_leI (a := 4) (b := a) (by omega) (by omega)).mp h30
        refine w_iload_n (pc' := 38) rfl rfl rfl ?_
        refine w_iconst (pc' := 39) 4 rfl rfl ic_4 ?_
        refine w_isub (pc' := 40) rfl rfl ?_
        rw [show nI (a) - (4 : Int32) = nI (a - 4) from nI_subN (a := a) (b := 4) (by omega)]
        refine w_iret rfl rfl rfl ?_
        rw [show f_stp a b = (a - 4) by simp [f_stp, e1, g4, Nat.not_lt.mpr g4]]
        exact ⟨rfl, rfl⟩
      · have g5 : ¬ 4 ≤ a := fun q => h30 ((nI_leI (a := 4) (b := a) (by omega) (by omega)).mpr q)
        refine w_iload_n (pc' := 34) rfl rfl rfl ?_
        refine w_goto (pc' := 40) rfl (by decide) ?_
        refine w_iret rfl rfl rfl ?_
        rw [show f_stp a b = a by simp [f_stp, e1, g5, Nat.lt_of_not_le g5]]
        exact ⟨rfl, rfl⟩
    · refine ⟨40, 41, rfl, rfl, ?_⟩
      have e1 : b = 1 := by rw [nI_toInt (by omega)] at hz1; omega
      refine w_iload_n (pc' := 42) rfl rfl rfl ?_
      refine w_iconst (pc' := 43) 4 rfl rfl ic_4 ?_
      refine w_irem (pc' := 44) rfl rfl (by decide) ?_
      rw [nI_rem4 a ha]
      refine w_if_ne (t := 51) (pc' := 47) rfl (by decide) rfl (fun h44 => ?_) (fun h44 => ?_)
      · have g6 : ¬ (a % 4) = 0 := fun q => h44 ((nI_eq (a := (a % 4)) (b := 0) (by omega) (by omega)).mpr q)
        refine w_iload_n (pc' := 52) rfl rfl rfl ?_
        refine w_iconst (pc' := 53) 1 rfl rfl ic_1 ?_
        refine w_isub (pc' := 54) rfl rfl ?_
        rw [show nI (a) - (1 : Int32) = nI (a - 1) from nI_subN (a := a) (b := 1) (by omega)]
        refine w_iret rfl rfl rfl ?_
        rw [show f_stp a b = (a - 1) by simp [f_stp, e1, g6]]
        exact ⟨rfl, rfl⟩
      · have g7 : (a % 4) = 0 := (nI_eq (a := (a % 4)) (b := 0) (by omega) (by omega)).mp h44
        refine w_iload_n (pc' := 48) rfl rfl rfl ?_
        refine w_goto (pc' := 54) rfl (by decide) ?_
        refine w_iret rfl rfl rfl ?_
        rw [show f_stp a b = a by simp [f_stp, e1, eq_true g7]]
        exact ⟨rfl, rfl⟩
    · refine ⟨54, 55, rfl, rfl, ?_⟩
      have e1 : b = 2 := by rw [nI_toInt (by omega)] at hz1; omega
      refine w_iload_n (pc' := 56) rfl rfl rfl ?_
      refine w_iconst (pc' := 57) 4 rfl rfl ic_4 ?_
      refine w_irem (pc' := 58) rfl rfl (by decide) ?_
      rw [nI_rem4 a ha]
      refine w_iconst (pc' := 59) 3 rfl rfl ic_3 ?_
      refine w_ic_ne (t := 66) (pc' := 62) rfl (by decide) rfl (fun h59 => ?_) (fun h59 => ?_)
      · have g8 : ¬ (a % 4) = 3 := fun q => h59 ((nI_eq (a := (a % 4)) (b := 3) (by omega) (by omega)).mpr q)
        refine w_iload_n (pc' := 67) rfl rfl rfl ?_
        refine w_iconst (pc' := 68) 1 rfl rfl ic_1 ?_
        refine w_iadd (pc' := 69) rfl rfl ?_
        rw [show nI (a) + (1 : Int32) = nI (a + 1) from nI_add _ _]
        refine w_iret rfl rfl rfl ?_
        rw [show f_stp a b = a + 1 by simp [f_stp, e1, g8]]
        exact ⟨rfl, rfl⟩
      · have g9 : (a % 4) = 3 := (nI_eq (a := (a % 4)) (b := 3) (by omega) (by omega)).mp h59
        refine w_iload_n (pc' := 63) rfl rfl rfl ?_
        refine w_goto (pc' := 69) rfl (by decide) ?_
        refine w_iret rfl rfl rfl ?_
        rw [show f_stp a b = a by simp [f_stp, e1, eq_true g9]]
        exact ⟨rfl, rfl⟩
theorem nI_pinc (c : Nat) : nI c - 1 + Int32.ofInt 1 = nI (c + 1) - 1 := by
  rw [nI_pred]
  exact Int32.sub_add_cancel (nI c) 1
def oc (T : q_T) (p : Nat) : Nat → Nat → Nat
  | 0, _ => 0
  | r + 1, k => (if T.1 156 k = T.1 156 p then 1 else 0) + oc T p r (k + 1)
/-- the others where one is, and itself -/
def f_oc (T : q_T) (p : Nat) : Nat := oc T p (T.1 153 0) 0
set_option maxRecDepth 100000 in
set_option maxHeartbeats 4000000 in
theorem lp_others (xs : List Int32) {T : q_T} {m : am_Mm} (h : q_Rm T m) (hB : q_Bd T) {p : Nat} (hp : p < 6) : ∀ (r k : Nat), k + r = T.1 153 0 → ∀ (c : Nat), am_P xs 0 m_others 4 [some (.ref 153), some (.int (nI p)), some (.int (nI c - 1)), some (.int (nI k))] [] m (am_qi (nI (c + oc T p r k) - 1) (· = m)) := by
  intro r
  induction r with
  | zero =>
    intro k hk c
    refine w_iload_n (pc' := 5) rfl rfl rfl ?_
    refine w_aload_n (pc' := 6) rfl rfl rfl rfl ?_
    refine w_getI (pc' := 9) rfl rfl rfl sh_153 rfl ?_
    rw [show m.1 153 0 = nI (T.1 153 (0)) from (rf_0 h :)]
    have b1 : (T.1 153 (0)) < 7 := hB 153 (0)
    refine w_ic_ge (t := 36) (pc' := 12) rfl (by decide) rfl (fun h9 => ?_) (fun h9 => ?_)
    · have g2 : (T.1 153 (0)) ≤ k := (nI_leI (a := (T.1 153 (0))) (b := k) (by omega) (by omega)).mp h9
      refine w_iload_n (pc' := 37) rfl rfl rfl ?_
      refine w_iret rfl rfl rfl ?_
      exact ⟨rfl, rfl⟩
    · have g3 : ¬ (T.1 153 (0)) ≤ k := fun q => h9 ((nI_leI (a := (T.1 153 (0))) (b := k) (by omega) (by omega)).mpr q)
      omega
  | succ r ih =>
    intro k hk c
    refine w_iload_n (pc' := 5) rfl rfl rfl ?_
    refine w_aload_n (pc' := 6) rfl rfl rfl rfl ?_
    refine w_getI (pc' := 9) rfl rfl rfl sh_153 rfl ?_
    rw [show m.1 153 0 = nI (T.1 153 (0)) from (rf_0 h :)]
    have b1 : (T.1 153 (0)) < 7 := hB 153 (0)
    refine w_ic_ge (t := 36) (pc' := 12) rfl (by decide) rfl (fun h9 => ?_) (fun h9 => ?_)
    · have g2 : (T.1 153 (0)) ≤ k := (nI_leI (a := (T.1 153 (0))) (b := k) (by omega) (by omega)).mp h9
      omega
    · have g3 : ¬ (T.1 153 (0)) ≤ k := fun q => h9 ((nI_leI (a := (T.1 153 (0))) (b := k) (by omega) (by omega)).mpr q)
      refine w_aload_n (pc' := 13) rfl rfl rfl rfl ?_
      refine w_getC (pc' := 16) rfl rfl rfl sh_153 rfl ?_
      refine w_iload_n (pc' := 17) rfl rfl rfl ?_
      refine w_iald (j := (k)) (pc' := 18) rfl rfl sh_156 rfl (by omega) (by decide) ?_
      rw [show m.1 156 k = nI (T.1 156 (k)) from (rd_156 h _ :)]
      have b4 : (T.1 156 (k)) < 16 := hB 156 (k)
      refine w_aload_n (pc' := 19) rfl rfl rfl rfl ?_
      refine w_getC (pc' := 22) rfl rfl rfl sh_153 rfl ?_
      refine w_iload_n (pc' := 23) rfl rfl rfl ?_
      refine w_iald (j := (p)) (pc' := 24) rfl rfl sh_156 rfl (by omega) (by decide) ?_
      rw [show m.1 156 p = nI (T.1 156 (p)) from (rd_156 h _ :)]
      have b5 : (T.1 156 (p)) < 16 := hB 156 (p)
      refine w_ic_ne (t := 30) (pc' := 27) rfl (by decide) rfl (fun h24 => ?_) (fun h24 => ?_)
      · have g6 : ¬ (T.1 156 (k)) = (T.1 156 (p)) := fun q => h24 ((nI_eq (a := (T.1 156 (k))) (b := (T.1 156 (p))) (by omega) (by omega)).mpr q)
        refine w_iinc3 (pc' := 33) 1 rfl rfl ic_1 rfl ?_
        rw [nI_inc]
        refine w_goto (pc' := 4) rfl (by decide) ?_
        rw [show c + oc T p (r + 1) k = c + oc T p r (k + 1) by rw [oc, if_neg g6]; omega]
        exact ih (k + 1) (by omega) c
      · have g7 : (T.1 156 (k)) = (T.1 156 (p)) := (nI_eq (a := (T.1 156 (k))) (b := (T.1 156 (p))) (by omega) (by omega)).mp h24
        refine w_iinc2 (pc' := 30) 1 rfl rfl ic_1 rfl ?_
        rw [nI_pinc]
        refine w_iinc3 (pc' := 33) 1 rfl rfl ic_1 rfl ?_
        rw [nI_inc]
        refine w_goto (pc' := 4) rfl (by decide) ?_
        rw [show c + oc T p (r + 1) k = c + 1 + oc T p r (k + 1) by rw [oc, if_pos g7]; omega]
        exact ih (k + 1) (by omega) (c + 1)
set_option maxRecDepth 100000 in
set_option maxHeartbeats 4000000 in
theorem v_m_others (xs : List Int32) {T : q_T} {m : am_Mm} (h : q_Rm T m) (hB : q_Bd T) {p : Nat} (hp : p < 6) : am_V xs 1 149 [.ref 153, .int (nI p)] m (am_qi (nI (f_oc T p) - 1) (· = m)) := by
  refine am_V_of ky_149 (Nat.le_of_ble_eq_true rfl) ?_
  show am_P xs 0 m_others 0 [some (.ref 153), some (.int (nI p)), none, none] [] m _
  refine w_iconst (pc' := 1) (-1) rfl rfl ic_m1 ?_
  refine w_ist2 (pc' := 2) rfl rfl rfl ?_
  refine w_iconst (pc' := 3) 0 rfl rfl ic_0 ?_
  refine w_ist3 (pc' := 4) rfl rfl rfl ?_
  have e0 := lp_others xs h hB hp (T.1 153 0) 0 (by omega) 0
  rw [Nat.zero_add] at e0
  exact e0
def adq (T : q_T) : Nat → Nat → Int32 → Int32
  | 0, _, a => a
  | r + 1, k, a => adq T r (k + 1) (a ||| (nI (T.1 158 k) <<< (nI k &&& 31)))
def f_ad (T : q_T) : Int32 := adq T (T.1 153 0) 0 0
def odr (T : q_T) : Nat → Nat → Nat
  | 0, _ => 0
  | r + 1, k => T.1 159 k + odr T r (k + 1)
def f_od (T : q_T) : Nat := odr T (T.1 153 0) 0
set_option maxRecDepth 100000 in
set_option maxHeartbeats 4000000 in
theorem lp_allDone (xs : List Int32) {T : q_T} {m : am_Mm} (h : q_Rm T m) (hB : q_Bd T) : ∀ (r k : Nat), k + r = T.1 153 0 → ∀ (a : Int32), am_P xs 0 m_allDone 4 [some (.ref 153), some (.int a), some (.int (nI k))] [] m (am_qi (adq T r k a) (· = m)) := by
  intro r
  induction r with
  | zero =>
    intro k hk a
    refine w_iload_n (pc' := 5) rfl rfl rfl ?_
    refine w_aload_n (pc' := 6) rfl rfl rfl rfl ?_
    refine w_getI (pc' := 9) rfl rfl rfl sh_153 rfl ?_
    rw [show m.1 153 0 = nI (T.1 153 (0)) from (rf_0 h :)]
    have b1 : (T.1 153 (0)) < 7 := hB 153 (0)
    refine w_ic_ge (t := 29) (pc' := 12) rfl (by decide) rfl (fun h9 => ?_) (fun h9 => ?_)
    · have g2 : (T.1 153 (0)) ≤ k := (nI_leI (a := (T.1 153 (0))) (b := k) (by omega) (by omega)).mp h9
      refine w_iload_n (pc' := 30) rfl rfl rfl ?_
      refine w_iret rfl rfl rfl ?_
      exact ⟨rfl, rfl⟩
    · have g3 : ¬ (T.1 153 (0)) ≤ k := fun q => h9 ((nI_leI (a := (T.1 153 (0))) (b := k) (by omega) (by omega)).mpr q)
      omega
  | succ r ih =>
    intro k hk a
    refine w_iload_n (pc' := 5) rfl rfl rfl ?_
    refine w_aload_n (pc' := 6) rfl rfl rfl rfl ?_
    refine w_getI (pc' := 9) rfl rfl rfl sh_153 rfl ?_
    rw [show m.1 153 0 = nI (T.1 153 (0)) from (rf_0 h :)]
    have b1 : (T.1 153 (0)) < 7 := hB 153 (0)
    refine w_ic_ge (t := 29) (pc' := 12) rfl (by decide) rfl (fun h9 => ?_) (fun h9 => ?_)
    · have g2 : (T.1 153 (0)) ≤ k := (nI_leI (a := (T.1 153 (0))) (b := k) (by omega) (by omega)).mp h9
      omega
    · have g3 : ¬ (T.1 153 (0)) ≤ k := fun q => h9 ((nI_leI (a := (T.1 153 (0))) (b := k) (by omega) (by omega)).mpr q)
      refine w_iload_n (pc' := 13) rfl rfl rfl ?_
      refine w_aload_n (pc' := 14) rfl rfl rfl rfl ?_
      refine w_getC (pc' := 17) rfl rfl rfl sh_153 rfl ?_
      refine w_iload_n (pc' := 18) rfl rfl rfl ?_
      refine w_iald (j := (k)) (pc' := 19) rfl rfl sh_158 rfl (by omega) (by decide) ?_
      rw [show m.1 158 k = nI (T.1 158 (k)) from (rd_158 h _ :)]
      have b4 : (T.1 158 (k)) < 2 := hB 158 (k)
      refine w_iload_n (pc' := 20) rfl rfl rfl ?_
      refine w_ishl (pc' := 21) rfl rfl ?_
      refine w_ior (pc' := 22) rfl rfl ?_
      refine w_ist1 (pc' := 23) rfl rfl rfl ?_
      refine w_iinc2 (pc' := 26) 1 rfl rfl ic_1 rfl ?_
      rw [nI_inc]
      refine w_goto (pc' := 4) rfl (by decide) ?_
      rw [show adq T (r + 1) k a = adq T r (k + 1) (a ||| (nI (T.1 158 k) <<< (nI k &&& 31))) from rfl]
      exact ih (k + 1) (by omega) _
set_option maxRecDepth 100000 in
set_option maxHeartbeats 4000000 in
theorem v_m_allDone (xs : List Int32) {T : q_T} {m : am_Mm} (h : q_Rm T m) (hB : q_Bd T) : am_V xs 1 188 [.ref 153] m (am_qi (f_ad T) (· = m)) := by
  refine am_V_of ky_188 (Nat.le_of_ble_eq_true rfl) ?_
  show am_P xs 0 m_allDone 0 [some (.ref 153), none, none] [] m _
  refine w_iconst (pc' := 1) 0 rfl rfl ic_0 ?_
  refine w_ist1 (pc' := 2) rfl rfl rfl ?_
  refine w_iconst (pc' := 3) 0 rfl rfl ic_0 ?_
  refine w_ist2 (pc' := 4) rfl rfl rfl ?_
  exact lp_allDone xs h hB (T.1 153 0) 0 (by omega) 0
set_option maxRecDepth 100000 in
set_option maxHeartbeats 4000000 in
theorem lp_allDrew (xs : List Int32) {T : q_T} {m : am_Mm} (h : q_Rm T m) (hB : q_Bd T) : ∀ (r k : Nat), k + r = T.1 153 0 → ∀ (c : Nat), am_P xs 0 m_allDrew 4 [some (.ref 153), some (.int (nI c)), some (.int (nI k))] [] m (am_qi (nI (c + odr T r k)) (· = m)) := by
  intro r
  induction r with
  | zero =>
    intro k hk c
    refine w_iload_n (pc' := 5) rfl rfl rfl ?_
    refine w_aload_n (pc' := 6) rfl rfl rfl rfl ?_
    refine w_getI (pc' := 9) rfl rfl rfl sh_153 rfl ?_
    rw [show m.1 153 0 = nI (T.1 153 (0)) from (rf_0 h :)]
    have b1 : (T.1 153 (0)) < 7 := hB 153 (0)
    refine w_ic_ge (t := 27) (pc' := 12) rfl (by decide) rfl (fun h9 => ?_) (fun h9 => ?_)
    · have g2 : (T.1 153 (0)) ≤ k := (nI_leI (a := (T.1 153 (0))) (b := k) (by omega) (by omega)).mp h9
      refine w_iload_n (pc' := 28) rfl rfl rfl ?_
      refine w_iret rfl rfl rfl ?_
      exact ⟨rfl, rfl⟩
    · have g3 : ¬ (T.1 153 (0)) ≤ k := fun q => h9 ((nI_leI (a := (T.1 153 (0))) (b := k) (by omega) (by omega)).mpr q)
      omega
  | succ r ih =>
    intro k hk c
    refine w_iload_n (pc' := 5) rfl rfl rfl ?_
    refine w_aload_n (pc' := 6) rfl rfl rfl rfl ?_
    refine w_getI (pc' := 9) rfl rfl rfl sh_153 rfl ?_
    rw [show m.1 153 0 = nI (T.1 153 (0)) from (rf_0 h :)]
    have b1 : (T.1 153 (0)) < 7 := hB 153 (0)
    refine w_ic_ge (t := 27) (pc' := 12) rfl (by decide) rfl (fun h9 => ?_) (fun h9 => ?_)
    · have g2 : (T.1 153 (0)) ≤ k := (nI_leI (a := (T.1 153 (0))) (b := k) (by omega) (by omega)).mp h9
      omega
    · have g3 : ¬ (T.1 153 (0)) ≤ k := fun q => h9 ((nI_leI (a := (T.1 153 (0))) (b := k) (by omega) (by omega)).mpr q)
      refine w_iload_n (pc' := 13) rfl rfl rfl ?_
      refine w_aload_n (pc' := 14) rfl rfl rfl rfl ?_
      refine w_getC (pc' := 17) rfl rfl rfl sh_153 rfl ?_
      refine w_iload_n (pc' := 18) rfl rfl rfl ?_
      refine w_iald (j := (k)) (pc' := 19) rfl rfl sh_159 rfl (by omega) (by decide) ?_
      rw [show m.1 159 k = nI (T.1 159 (k)) from (rd_159 h _ :)]
      refine w_iadd (pc' := 20) rfl rfl ?_
      rw [show nI (c) + nI ((T.1 159 (k))) = nI (c + (T.1 159 (k))) from nI_add _ _]
      refine w_ist1 (pc' := 21) rfl rfl rfl ?_
      refine w_iinc2 (pc' := 24) 1 rfl rfl ic_1 rfl ?_
      rw [nI_inc]
      refine w_goto (pc' := 4) rfl (by decide) ?_
      rw [show c + odr T (r + 1) k = c + T.1 159 k + odr T r (k + 1) by rw [odr]; omega]
      exact ih (k + 1) (by omega) _
set_option maxRecDepth 100000 in
set_option maxHeartbeats 4000000 in
theorem v_m_allDrew (xs : List Int32) {T : q_T} {m : am_Mm} (h : q_Rm T m) (hB : q_Bd T) : am_V xs 1 203 [.ref 153] m (am_qi (nI (f_od T)) (· = m)) := by
  refine am_V_of ky_203 (Nat.le_of_ble_eq_true rfl) ?_
  show am_P xs 0 m_allDrew 0 [some (.ref 153), none, none] [] m _
  refine w_iconst (pc' := 1) 0 rfl rfl ic_0 ?_
  refine w_ist1 (pc' := 2) rfl rfl rfl ?_
  refine w_iconst (pc' := 3) 0 rfl rfl ic_0 ?_
  refine w_ist2 (pc' := 4) rfl rfl rfl ?_
  have e0 := lp_allDrew xs h hB (T.1 153 0) 0 (by omega) 0
  rw [Nat.zero_add] at e0
  exact e0
