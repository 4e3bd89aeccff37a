def wk (T : q_T) (p : Nat) : Nat → Nat → Nat → Bool → Nat × Bool
  | 0, _, c, b => (c, b)
  | r + 1, k, c, b => wk T p r (k + 1) (f_stp c (T.1 160 (8 * p + k) / 10)) (if T.1 162 (f_stp c (T.1 160 (8 * p + k) / 10)) = T.1 160 (8 * p + k) % 10 then b else false)
theorem wk_lt (T : q_T) (p : Nat) : ∀ (r k c : Nat) (b : Bool), c < 16 → (wk T p r k c b).1 < 16 := by
  intro r
  induction r with
  | zero => exact fun _ _ _ h => h
  | succ r ih => exact fun k c b h => ih _ _ _ (f_stp_lt h)
def cam (T : q_T) (p : Nat) (e : Bool) : Nat → Nat → Int32 → Int32
  | 0, _, b => b
  | r + 1, k, b => cam T p e r (k + 1) (if (wk T p (T.1 157 p) 0 k true).2 = true then b ||| ((1 : Int32) <<< (nI (if e = true then (wk T p (T.1 157 p) 0 k true).1 else k) &&& 31)) else b)
def f_came (T : q_T) (p : Nat) (e : Bool) : Int32 := cam T p e 16 0 0
set_option maxRecDepth 100000 in
set_option maxHeartbeats 4000000 in
theorem lp_wk (xs : List Int32) {T : q_T} {m : am_Mm} (h : q_Rm T m) (hB : q_Bd T) {p from_ : Nat} (hp : p < 6) {a bits : Int32} {Q : am_Q} : ∀ (r k : Nat), k + r = T.1 157 p → ∀ (c : Nat) (b : Bool), c < 16 → am_P xs 2 m_came 89 [some (.ref 153), some (.int (nI p)), some (.int a), some (.int bits), some (.int (nI from_)), some (.int (nI (wk T p r k c b).1)), some (.int (bB (wk T p r k c b).2)), some (.int (nI (T.1 157 p)))] [] m Q → am_P xs 2 m_came 22 [some (.ref 153), some (.int (nI p)), some (.int a), some (.int bits), some (.int (nI from_)), some (.int (nI c)), some (.int (bB b)), some (.int (nI k))] [] m (Q) := by
  intro r
  induction r with
  | zero =>
    intro k hk c b hc hK
    refine w_iload (pc' := 24) rfl rfl rfl ?_
    refine w_aload_n (pc' := 25) rfl rfl rfl rfl ?_
    refine w_getC (pc' := 28) rfl rfl rfl sh_153 rfl ?_
    refine w_iload_n (pc' := 29) rfl rfl rfl ?_
    refine w_iald (j := (p)) (pc' := 30) rfl rfl sh_157 rfl (by omega) (by decide) ?_
    rw [show m.1 157 p = nI (T.1 157 (p)) from (rd_157 h _ :)]
    have b1 : (T.1 157 (p)) < 9 := hB 157 (p)
    refine w_ic_ge (t := 89) (pc' := 33) rfl (by decide) rfl (fun h30 => ?_) (fun h30 => ?_)
    · have g2 : (T.1 157 (p)) ≤ k := (nI_leI (a := (T.1 157 (p))) (b := k) (by omega) (by omega)).mp h30
      obtain rfl : k = T.1 157 p := by omega
      exact hK
    · have g3 : ¬ (T.1 157 (p)) ≤ k := fun q => h30 ((nI_leI (a := (T.1 157 (p))) (b := k) (by omega) (by omega)).mpr q)
      omega
  | succ r ih =>
    intro k hk c b hc hK
    refine w_iload (pc' := 24) rfl rfl rfl ?_
    refine w_aload_n (pc' := 25) rfl rfl rfl rfl ?_
    refine w_getC (pc' := 28) rfl rfl rfl sh_153 rfl ?_
    refine w_iload_n (pc' := 29) rfl rfl rfl ?_
    refine w_iald (j := (p)) (pc' := 30) rfl rfl sh_157 rfl (by omega) (by decide) ?_
    rw [show m.1 157 p = nI (T.1 157 (p)) from (rd_157 h _ :)]
    have b1 : (T.1 157 (p)) < 9 := hB 157 (p)
    refine w_ic_ge (t := 89) (pc' := 33) rfl (by decide) rfl (fun h30 => ?_) (fun h30 => ?_)
    · have g2 : (T.1 157 (p)) ≤ k := (nI_leI (a := (T.1 157 (p))) (b := k) (by omega) (by omega)).mp h30
      omega
    · have g3 : ¬ (T.1 157 (p)) ≤ k := fun q => h30 ((nI_leI (a := (T.1 157 (p))) (b := k) (by omega) (by omega)).mpr q)
      refine w_iload (pc' := 35) rfl rfl rfl ?_
      refine w_aload_n (pc' := 36) rfl rfl rfl rfl ?_
      refine w_getC (pc' := 39) rfl rfl rfl sh_153 rfl ?_
      refine w_bipush (pc' := 41) 8 rfl rfl bp_8 ?_
      refine w_iload_n (pc' := 42) rfl rfl rfl ?_
      refine w_imul (pc' := 43) rfl rfl ?_
      rw [show (8 : Int32) * nI (p) = nI (8 * p) from nI_mul _ _]
      refine w_iload (pc' := 45) rfl rfl rfl ?_
      refine w_iadd (pc' := 46) rfl rfl ?_
      rw [show nI (8 * p) + nI (k) = nI ((8 * p) + k) from nI_add _ _]
      refine w_iald (j := ((8 * p) + k)) (pc' := 47) rfl rfl sh_160 rfl (by omega) (by decide) ?_
      rw [show m.1 160 ((8 * p) + k) = nI (T.1 160 ((8 * p) + k)) from (rd_160 h _ :)]
      have b4 : (T.1 160 ((8 * p) + k)) < 40 := hB 160 ((8 * p) + k)
      refine w_bipush (pc' := 49) 10 rfl rfl bp_10 ?_
      refine w_idiv (pc' := 50) rfl rfl (by decide) ?_
      rw [show nI ((T.1 160 ((8 * p) + k))) / (10 : Int32) = nI ((T.1 160 ((8 * p) + k)) / 10) from nI_divI (a := (T.1 160 ((8 * p) + k))) (c := 10) (by omega) (by omega) (by omega)]
      refine w_cS2i (pc' := 53) (v_m_step xs m (a := c) (b := ((T.1 160 ((8 * p) + k)) / 10)) (by omega) (by omega)) (by decide) rfl rfl rfl (Or.inl rfl) (Nat.le_of_ble_eq_true rfl) (fun m' hm' => ?_)
      rw [show m' = m from hm']
      clear hm' m'
      have hst := f_stp_lt (a := c) (b := ((T.1 160 ((8 * p) + k)) / 10)) (by omega)
      refine w_ist5 (pc' := 55) rfl rfl rfl ?_
      refine w_aload_n (pc' := 56) rfl rfl rfl rfl ?_
      refine w_getC (pc' := 59) rfl rfl rfl sh_153 rfl ?_
      refine w_iload (pc' := 61) rfl rfl rfl ?_
      refine w_iald (j := ((f_stp c ((T.1 160 ((8 * p) + k)) / 10)))) (pc' := 62) rfl rfl sh_162 rfl (by omega) (by decide) ?_
      rw [show m.1 162 (f_stp c ((T.1 160 ((8 * p) + k)) / 10)) = nI (T.1 162 ((f_stp c ((T.1 160 ((8 * p) + k)) / 10)))) from (rd_162 h _ :)]
      have b5 : (T.1 162 ((f_stp c ((T.1 160 ((8 * p) + k)) / 10)))) < 8 := hB 162 ((f_stp c ((T.1 160 ((8 * p) + k)) / 10)))
      refine w_aload_n (pc' := 63) rfl rfl rfl rfl ?_
      refine w_getC (pc' := 66) rfl rfl rfl sh_153 rfl ?_
      refine w_bipush (pc' := 68) 8 rfl rfl bp_8 ?_
      refine w_iload_n (pc' := 69) rfl rfl rfl ?_
      refine w_imul (pc' := 70) rfl rfl ?_
      rw [show (8 : Int32) * nI (p) = nI (8 * p) from nI_mul _ _]
      refine w_iload (pc' := 72) rfl rfl rfl ?_
      refine w_iadd (pc' := 73) rfl rfl ?_
      rw [show nI (8 * p) + nI (k) = nI ((8 * p) + k) from nI_add _ _]
      refine w_iald (j := ((8 * p) + k)) (pc' := 74) rfl rfl sh_160 rfl (by omega) (by decide) ?_
      rw [show m.1 160 ((8 * p) + k) = nI (T.1 160 ((8 * p) + k)) from (rd_160 h _ :)]
      have b6 : (T.1 160 ((8 * p) + k)) < 40 := hB 160 ((8 * p) + k)
      refine w_bipush (pc' := 76) 10 rfl rfl bp_10 ?_
      refine w_irem (pc' := 77) rfl rfl (by decide) ?_
      rw [show nI ((T.1 160 ((8 * p) + k))) - nI ((T.1 160 ((8 * p) + k))) / (10 : Int32) * (10 : Int32) = nI ((T.1 160 ((8 * p) + k)) % 10) from nI_remI (a := (T.1 160 ((8 * p) + k))) (c := 10) (by omega) (by omega) (by omega)]
      refine w_ic_eq (t := 83) (pc' := 80) rfl (by decide) rfl (fun h77 => ?_) (fun h77 => ?_)
      · have g7 : (T.1 162 ((f_stp c ((T.1 160 ((8 * p) + k)) / 10)))) = ((T.1 160 ((8 * p) + k)) % 10) := (nI_eq (a := (T.1 162 ((f_stp c ((T.1 160 ((8 * p) + k)) / 10))))) (b := ((T.1 160 ((8 * p) + k)) % 10)) (by omega) (by omega)).mp h77
        refine w_iinc7 (pc' := 86) 1 rfl rfl ic_1 rfl ?_
        rw [nI_inc]
        refine w_goto (pc' := 22) rfl (by decide) ?_
        rw [show wk T p (r + 1) k c b = wk T p r (k + 1) (f_stp c (T.1 160 (8 * p + k) / 10)) b from congrArg (wk T p r (k + 1) (f_stp c (T.1 160 (8 * p + k) / 10))) (if_pos (by omega))] at hK
        exact ih (k + 1) (by omega) _ b hst hK
      · have g8 : ¬ (T.1 162 ((f_stp c ((T.1 160 ((8 * p) + k)) / 10)))) = ((T.1 160 ((8 * p) + k)) % 10) := fun q => h77 ((nI_eq (a := (T.1 162 ((f_stp c ((T.1 160 ((8 * p) + k)) / 10))))) (b := ((T.1 160 ((8 * p) + k)) % 10)) (by omega) (by omega)).mpr q)
        refine w_iconst (pc' := 81) 0 rfl rfl ic_0 ?_
        refine w_ist6 (pc' := 83) rfl rfl rfl ?_
        refine w_iinc7 (pc' := 86) 1 rfl rfl ic_1 rfl ?_
        rw [nI_inc]
        refine w_goto (pc' := 22) rfl (by decide) ?_
        rw [show wk T p (r + 1) k c b = wk T p r (k + 1) (f_stp c (T.1 160 (8 * p + k) / 10)) false from congrArg (wk T p r (k + 1) (f_stp c (T.1 160 (8 * p + k) / 10))) (if_neg (by omega))] at hK
        exact ih (k + 1) (by omega) _ false hst hK
set_option maxRecDepth 100000 in
set_option maxHeartbeats 4000000 in
theorem lp_came (xs : List Int32) {T : q_T} {m : am_Mm} (h : q_Rm T m) (hB : q_Bd T) {p : Nat} (hp : p < 6) (e : Bool) : ∀ (r k : Nat), k + r = 16 → ∀ (b : Int32) (l5 l6 l7 : Option Value), am_P xs 2 m_came 5 [some (.ref 153), some (.int (nI p)), some (.int (bB e)), some (.int b), some (.int (nI k)), l5, l6, l7] [] m (am_qi (cam T p e r k b) (· = m)) := by
  intro r
  induction r with
  | zero =>
    intro k hk b l5 l6 l7
    refine w_iload (pc' := 7) rfl rfl rfl ?_
    refine w_bipush (pc' := 9) 16 rfl rfl bp_16 ?_
    refine w_ic_ge (t := 116) (pc' := 12) rfl (by decide) rfl (fun h9 => ?_) (fun h9 => ?_)
    · have g1 : 16 ≤ k := (nI_leI (a := 16) (b := k) (by omega) (by omega)).mp h9
      refine w_iload_n (pc' := 117) rfl rfl rfl ?_
      refine w_iret rfl rfl rfl ?_
      exact ⟨rfl, rfl⟩
    · have g2 : ¬ 16 ≤ k := fun q => h9 ((nI_leI (a := 16) (b := k) (by omega) (by omega)).mpr q)
      omega
  | succ r ih =>
    intro k hk b l5 l6 l7
    refine w_iload (pc' := 7) rfl rfl rfl ?_
    refine w_bipush (pc' := 9) 16 rfl rfl bp_16 ?_
    refine w_ic_ge (t := 116) (pc' := 12) rfl (by decide) rfl (fun h9 => ?_) (fun h9 => ?_)
    · have g1 : 16 ≤ k := (nI_leI (a := 16) (b := k) (by omega) (by omega)).mp h9
      omega
    · have g2 : ¬ 16 ≤ k := fun q => h9 ((nI_leI (a := 16) (b := k) (by omega) (by omega)).mpr q)
      refine w_iload (pc' := 14) rfl rfl rfl ?_
      refine w_ist5 (pc' := 16) rfl rfl rfl ?_
      refine w_iconst (pc' := 17) 1 rfl rfl ic_1 ?_
      refine w_ist6 (pc' := 19) rfl rfl rfl ?_
      refine w_iconst (pc' := 20) 0 rfl rfl ic_0 ?_
      refine w_ist7 (pc' := 22) rfl rfl rfl ?_
      refine lp_wk xs h hB hp (T.1 157 p) 0 (by omega) k true (by omega) ?_
      have hw16 := wk_lt T p (T.1 157 p) 0 k true (by omega)
      refine w_iload (pc' := 91) rfl rfl rfl ?_
      refine w_if_eq (t := 110) (pc' := 94) rfl (by decide) rfl (fun h91 => ?_) (fun h91 => ?_)
      · have hb3 : (wk T p (T.1 157 p) 0 k true).2 = false := bB_0.mp h91
        refine w_iinc4 (pc' := 113) 1 rfl rfl ic_1 rfl ?_
        rw [nI_inc]
        refine w_goto (pc' := 5) rfl (by decide) ?_
        rw [show cam T p e (r + 1) k b = cam T p e r (k + 1) b from congrArg (cam T p e r (k + 1)) (if_neg (by rw [hb3]; decide))]
        exact ih (k + 1) (by omega) b _ _ _
      · have hb4 : (wk T p (T.1 157 p) 0 k true).2 = true := bB_n0.mp h91
        refine w_iload_n (pc' := 95) rfl rfl rfl ?_
        refine w_iconst (pc' := 96) 1 rfl rfl ic_1 ?_
        refine w_iload_n (pc' := 97) rfl rfl rfl ?_
        refine w_if_eq (t := 105) (pc' := 100) rfl (by decide) rfl (fun h97 => ?_) (fun h97 => ?_)
        · have hb5 : e = false := bB_0.mp h97
          refine w_iload (pc' := 107) rfl rfl rfl ?_
          refine w_ishl (pc' := 108) rfl rfl ?_
          refine w_ior (pc' := 109) rfl rfl ?_
          refine w_ist3 (pc' := 110) rfl rfl rfl ?_
          refine w_iinc4 (pc' := 113) 1 rfl rfl ic_1 rfl ?_
          rw [nI_inc]
          refine w_goto (pc' := 5) rfl (by decide) ?_
          rw [show cam T p e (r + 1) k b = cam T p e r (k + 1) (b ||| ((1 : Int32) <<< (nI (k) &&& 31))) from congrArg (cam T p e r (k + 1)) ((if_pos hb4).trans (by rw [hb5]; rfl))]
          exact ih (k + 1) (by omega) _ _ _ _
        · have hb6 : e = true := bB_n0.mp h97
          refine w_iload (pc' := 102) rfl rfl rfl ?_
          refine w_goto (pc' := 107) rfl (by decide) ?_
          refine w_ishl (pc' := 108) rfl rfl ?_
          refine w_ior (pc' := 109) rfl rfl ?_
          refine w_ist3 (pc' := 110) rfl rfl rfl ?_
          refine w_iinc4 (pc' := 113) 1 rfl rfl ic_1 rfl ?_
          rw [nI_inc]
          refine w_goto (pc' := 5) rfl (by decide) ?_
          rw [show cam T p e (r + 1) k b = cam T p e r (k + 1) (b ||| ((1 : Int32) <<< (nI ((wk T p (T.1 157 p) 0 k true).1) &&& 31))) from congrArg (cam T p e r (k + 1)) ((if_pos hb4).trans (by rw [hb6]; rfl))]
          exact ih (k + 1) (by omega) _ _ _ _
set_option maxRecDepth 100000 in
set_option maxHeartbeats 4000000 in
theorem v_m_came (xs : List Int32) {T : q_T} {m : am_Mm} (h : q_Rm T m) (hB : q_Bd T) {p : Nat} (hp : p < 6) (e : Bool) : am_V xs 3 151 [.ref 153, .int (nI p), .int (bB e)] m (am_qi (f_came T p e) (· = m)) := by
  refine am_V_of ky_151 (Nat.le_of_ble_eq_true rfl) ?_
  show am_P xs 2 m_came 0 [some (.ref 153), some (.int (nI p)), some (.int (bB e)), none, none, none, none, none] [] m _
  refine w_iconst (pc' := 1) 0 rfl rfl ic_0 ?_
  refine w_ist3 (pc' := 2) rfl rfl rfl ?_
  refine w_iconst (pc' := 3) 0 rfl rfl ic_0 ?_
  refine w_ist4 (pc' := 5) rfl rfl rfl ?_
  exact lp_came xs h hB hp e 16 0 (by omega) 0 none none none
def lkc (T : q_T) (e : Int32) (a mk : Nat) : Nat → Nat → Nat → Nat
  | 0, _, c => c
  | r + 1, k, c => lkc T e a mk r (k + 1) (if (e >>> (nI k &&& 31)) &&& 1 = 1 ∧ T.1 162 (f_stp k a) = mk then c + 1 else c)
theorem lkc_le (T : q_T) (e : Int32) (a mk : Nat) : ∀ (r k c : Nat), lkc T e a mk r k c ≤ c + r := by
  intro r
  induction r with
  | zero => exact fun _ c => Nat.le_refl c
  | succ r ih =>
    intro k c
    refine Nat.le_trans (ih _ _) ?_
    split <;> omega
def lkm (T : q_T) (e : Int32) (a : Nat) : Nat → Nat → Nat → Nat
  | 0, _, mo => mo
  | r + 1, k, mo => lkm T e a r (k + 1) (max mo (lkc T e a k 16 0 0))
theorem lkm_le (T : q_T) (e : Int32) (a : Nat) : ∀ (r k mo : Nat), mo ≤ 16 → lkm T e a r k mo ≤ 16 := by
  intro r
  induction r with
  | zero => exact fun _ _ h => h
  | succ r ih =>
    intro k mo h
    have := lkc_le T e a k 16 0 0
    exact ih _ _ (by omega)
def lkw (T : q_T) (e : Int32) : Nat → Nat → Nat → Nat → Nat
  | 0, _, _, f => f
  | r + 1, k, le, f => if lkm T e k 8 0 0 < le then lkw T e r (k + 1) (lkm T e k 8 0 0) k else lkw T e r (k + 1) le f
def f_look (T : q_T) (p : Nat) : Int32 := if f_came T p true = 0 then -5 else nI (lkw T (f_came T p true) 4 0 9999 0)
set_option maxRecDepth 100000 in
set_option maxHeartbeats 4000000 in
theorem v_jm_max0 (xs : List Int32) (m : am_Mm) {a b : Nat} (ha : a < 2 ^ 31) (hb : b < 2 ^ 31) : am_V xs 1 5 [.int (nI a), .int (nI b)] m (am_qi (nI (max a b)) (· = m)) := by
  refine am_V_of ky_5 (Nat.le_of_ble_eq_true rfl) ?_
  show am_P xs 0 jm_max 0 [some (.int (nI a)), some (.int (nI b))] [] m _
  refine w_iload_n (pc' := 1) rfl rfl rfl ?_
  refine w_iload_n (pc' := 2) rfl rfl rfl ?_
  refine w_ic_lt (t := 9) (pc' := 5) rfl (by decide) rfl (fun h2 => ?_) (fun h2 => ?_)
  · have g1 : a < b := (nI_ltI (a := a) (b := b) (by omega) (by omega)).mp h2
    refine w_iload_n (pc' := 10) rfl rfl rfl ?_
    refine w_iret rfl rfl rfl ?_
    exact ⟨by rw [show max a b = b by omega], rfl⟩
  · have g2 : ¬ a < b := fun q => h2 ((nI_ltI (a := a) (b := b) (by omega) (by omega)).mpr q)
    refine w_iload_n (pc' := 6) rfl rfl rfl ?_
    refine w_goto (pc' := 10) rfl (by decide) ?_
    refine w_iret rfl rfl rfl ?_
    exact ⟨by rw [show max a b = a by omega], rfl⟩
set_option maxRecDepth 100000 in
set_option maxHeartbeats 4000000 in
theorem lp_lk1 (xs : List Int32) {T : q_T} {m : am_Mm} (h : q_Rm T m) (hB : q_Bd T) {q : Int32} (e : Int32) {fo le a mo mk : Nat} {Q : am_Q} (ha : a < 4) (hmk : mk < 8) : ∀ (r k : Nat), k + r = 16 → ∀ (c : Nat), c ≤ k → am_P xs 3 m_look 92 [some (.ref 153), some (.int q), some (.int e), some (.int (nI fo)), some (.int (nI le)), some (.int (nI a)), some (.int (nI mo)), some (.int (nI mk)), some (.int (nI (lkc T e a mk r k c))), some (.int (nI 16))] [] m Q → am_P xs 3 m_look 49 [some (.ref 153), some (.int q), some (.int e), some (.int (nI fo)), some (.int (nI le)), some (.int (nI a)), some (.int (nI mo)), some (.int (nI mk)), some (.int (nI c)), some (.int (nI k))] [] m (Q) := by
  intro r
  induction r with
  | zero =>
    intro k hk c hck hK
    refine w_iload (pc' := 51) rfl rfl rfl ?_
    refine w_bipush (pc' := 53) 16 rfl rfl bp_16 ?_
    refine w_ic_ge (t := 92) (pc' := 56) rfl (by decide) rfl (fun h53 => ?_) (fun h53 => ?_)
    · have g1 : 16 ≤ k := (nI_leI (a := 16) (b := k) (by omega) (by omega)).mp h53
      obtain rfl : k = 16 := by omega
      exact hK
    · have g2 : ¬ 16 ≤ k := fun q => h53 ((nI_leI (a := 16) (b := k) (by omega) (by omega)).mpr q)
      omega
  | succ r ih =>
    intro k hk c hck hK
    refine w_iload (pc' := 51) rfl rfl rfl ?_
    refine w_bipush (pc' := 53) 16 rfl rfl bp_16 ?_
    refine w_ic_ge (t := 92) (pc' := 56) rfl (by decide) rfl (fun h53 => ?_) (fun h53 => ?_)
    · have g1 : 16 ≤ k := (nI_leI (a := 16) (b := k) (by omega) (by omega)).mp h53
      omega
    · have g2 : ¬ 16 ≤ k := fun q => h53 ((nI_leI (a := 16) (b := k) (by omega) (by omega)).mpr q)
      refine w_iload_n (pc' := 57) rfl rfl rfl ?_
      refine w_iload (pc' := 59) rfl rfl rfl ?_
      refine w_ishr (pc' := 60) rfl rfl ?_
      refine w_iconst (pc' := 61) 1 rfl rfl ic_1 ?_
      refine w_iand (pc' := 62) rfl rfl ?_
      refine w_iconst (pc' := 63) 1 rfl rfl ic_1 ?_
      refine w_ic_ne (t := 86) (pc' := 66) rfl (by decide) rfl (fun h63 => ?_) (fun h63 => ?_)
      · have hbit : ¬ (e >>> (nI k &&& 31)) &&& 1 = 1 := h63
        refine w_iinc9 (pc' := 89) 1 rfl rfl ic_1 rfl ?_
        rw [nI_inc]
        refine w_goto (pc' := 49) rfl (by decide) ?_
        rw [show lkc T e a mk (r + 1) k c = lkc T e a mk r (k + 1) c from congrArg (lkc T e a mk r (k + 1)) (if_neg (fun z => hbit z.1))] at hK
        exact ih (k + 1) (by omega) _ (by omega) hK
      · have hbit : (e >>> (nI k &&& 31)) &&& 1 = 1 := h63
        refine w_aload_n (pc' := 67) rfl rfl rfl rfl ?_
        refine w_getC (pc' := 70) rfl rfl rfl sh_153 rfl ?_
        refine w_iload (pc' := 72) rfl rfl rfl ?_
        refine w_iload (pc' := 74) rfl rfl rfl ?_
        refine w_cS2i (pc' := 77) (v_m_step xs m (a := k) (b := a) (by omega) (by omega)) (by decide) rfl rfl rfl (Or.inl rfl) (Nat.le_of_ble_eq_true rfl) (fun m' hm' => ?_)
        rw [show m' = m from hm']
        clear hm' m'
        have hst := f_stp_lt (a := k) (b := a) (by omega)
        refine w_iald (j := ((f_stp k a))) (pc' := 78) rfl rfl sh_162 rfl (by omega) (by decide) ?_
        rw [show m.1 162 (f_stp k a) = nI (T.1 162 ((f_stp k a))) from (rd_162 h _ :)]
        have b3 : (T.1 162 ((f_stp k a))) < 8 := hB 162 ((f_stp k a))
        refine w_iload (pc' := 80) rfl rfl rfl ?_
        refine w_ic_ne (t := 86) (pc' := 83) rfl (by decide) rfl (fun h80 => ?_) (fun h80 => ?_)
        · have g4 : ¬ (T.1 162 ((f_stp k a))) = mk := fun q => h80 ((nI_eq (a := (T.1 162 ((f_stp k a)))) (b := mk) (by omega) (by omega)).mpr q)
          refine w_iinc9 (pc' := 89) 1 rfl rfl ic_1 rfl ?_
          rw [nI_inc]
          refine w_goto (pc' := 49) rfl (by decide) ?_
          rw [show lkc T e a mk (r + 1) k c = lkc T e a mk r (k + 1) c from congrArg (lkc T e a mk r (k + 1)) (if_neg (fun z => absurd z.2 (by omega)))] at hK
          exact ih (k + 1) (by omega) _ (by omega) hK
        · have g5 : (T.1 162 ((f_stp k a))) = mk := (nI_eq (a := (T.1 162 ((f_stp k a)))) (b := mk) (by omega) (by omega)).mp h80
          refine w_iinc8 (pc' := 86) 1 rfl rfl ic_1 rfl ?_
          rw [nI_inc]
          refine w_iinc9 (pc' := 89) 1 rfl rfl ic_1 rfl ?_
          rw [nI_inc]
          refine w_goto (pc' := 49) rfl (by decide) ?_
          rw [show lkc T e a mk (r + 1) k c = lkc T e a mk r (k + 1) (c + 1) from congrArg (lkc T e a mk r (k + 1)) (if_pos ⟨hbit, by omega⟩)] at hK
          exact ih (k + 1) (by omega) _ (by omega) hK
set_option maxRecDepth 100000 in
set_option maxHeartbeats 4000000 in
theorem lp_lk2 (xs : List Int32) {T : q_T} {m : am_Mm} (h : q_Rm T m) (hB : q_Bd T) {q : Int32} (e : Int32) {fo le a : Nat} {Q : am_Q} (ha : a < 4) : ∀ (r k : Nat), k + r = 8 → ∀ (mo : Nat) (l8 l9 : Option Value), mo ≤ 16 → (∀ (l8 l9 : Option Value), am_P xs 3 m_look 107 [some (.ref 153), some (.int q), some (.int e), some (.int (nI fo)), some (.int (nI le)), some (.int (nI a)), some (.int (nI (lkm T e a r k mo))), some (.int (nI 8)), l8, l9] [] m Q) → am_P xs 3 m_look 36 [some (.ref 153), some (.int q), some (.int e), some (.int (nI fo)), some (.int (nI le)), some (.int (nI a)), some (.int (nI mo)), some (.int (nI k)), l8, l9] [] m (Q) := by
  intro r
  induction r with
  | zero =>
    intro k hk mo l8 l9 hmo hK
    refine w_iload (pc' := 38) rfl rfl rfl ?_
    refine w_bipush (pc' := 40) 8 rfl rfl bp_8 ?_
    refine w_ic_ge (t := 107) (pc' := 43) rfl (by decide) rfl (fun h40 => ?_) (fun h40 => ?_)
    · have g1 : 8 ≤ k := (nI_leI (a := 8) (b := k) (by omega) (by omega)).mp h40
      obtain rfl : k = 8 := by omega
      exact hK _ _
    · have g2 : ¬ 8 ≤ k := fun q => h40 ((nI_leI (a := 8) (b := k) (by omega) (by omega)).mpr q)
      omega
  | succ r ih =>
    intro k hk mo l8 l9 hmo hK
    refine w_iload (pc' := 38) rfl rfl rfl ?_
    refine w_bipush (pc' := 40) 8 rfl rfl bp_8 ?_
    refine w_ic_ge (t := 107) (pc' := 43) rfl (by decide) rfl (fun h40 => ?_) (fun h40 => ?_)
    · have g1 : 8 ≤ k := (nI_leI (a := 8) (b := k) (by omega) (by omega)).mp h40
      omega
    · have g2 : ¬ 8 ≤ k := fun q => h40 ((nI_leI (a := 8) (b := k) (by omega) (by omega)).mpr q)
      refine w_iconst (pc' := 44) 0 rfl rfl ic_0 ?_
      refine w_ist8 (pc' := 46) rfl rfl rfl ?_
      refine w_iconst (pc' := 47) 0 rfl rfl ic_0 ?_
      refine w_ist9 (pc' := 49) rfl rfl rfl ?_
      refine lp_lk1 xs h hB e (a := a) (mk := k) ha (by omega) 16 0 (by omega) 0 (by omega) ?_
      have hl16 := lkc_le T e a k 16 0 0
      refine w_iload (pc' := 94) rfl rfl rfl ?_
      refine w_iload (pc' := 96) rfl rfl rfl ?_
      refine w_cS2i (pc' := 99) (v_jm_max0 xs m (a := mo) (b := (lkc T e a k 16 0 0)) (by omega) (by omega)) (by decide) rfl rfl rfl (Or.inl rfl) (Nat.le_of_ble_eq_true rfl) (fun m' hm' => ?_)
      rw [show m' = m from hm']
      clear hm' m'
      refine w_ist6 (pc' := 101) rfl rfl rfl ?_
      refine w_iinc7 (pc' := 104) 1 rfl rfl ic_1 rfl ?_
      rw [nI_inc]
      refine w_goto (pc' := 36) rfl (by decide) ?_
      exact ih (k + 1) (by omega) _ _ _ (by omega) hK
set_option maxRecDepth 100000 in
set_option maxHeartbeats 4000000 in
theorem lp_lk3 (xs : List Int32) {T : q_T} {m : am_Mm} (h : q_Rm T m) (hB : q_Bd T) {q : Int32} (e : Int32) : ∀ (r k : Nat), k + r = 4 → ∀ (le f : Nat), le < 10000 → f < 4 → ∀ (l6 l7 l8 l9 : Option Value), am_P xs 3 m_look 24 [some (.ref 153), some (.int q), some (.int e), some (.int (nI f)), some (.int (nI le)), some (.int (nI k)), l6, l7, l8, l9] [] m (am_qi (nI (lkw T e r k le f)) (· = m)) := by
  intro r
  induction r with
  | zero =>
    intro k hk le f hle hf l6 l7 l8 l9
    refine w_iload (pc' := 26) rfl rfl rfl ?_
    refine w_iconst (pc' := 27) 4 rfl rfl ic_4 ?_
    refine w_ic_ge (t := 130) (pc' := 30) rfl (by decide) rfl (fun h27 => ?_) (fun h27 => ?_)
    · have g1 : 4 ≤ k := (nI_leI (a := 4) (b := k) (by omega) (by omega)).mp h27
      refine w_iload_n (pc' := 131) rfl rfl rfl ?_
      refine w_iret rfl rfl rfl ?_
      exact ⟨rfl, rfl⟩
    · have g2 : ¬ 4 ≤ k := fun q => h27 ((nI_leI (a := 4) (b := k) (by omega) (by omega)).mpr q)
      omega
  | succ r ih =>
    intro k hk le f hle hf l6 l7 l8 l9
    refine w_iload (pc' := 26) rfl rfl rfl ?_
    refine w_iconst (pc' := 27) 4 rfl rfl ic_4 ?_
    refine w_ic_ge (t := 130) (pc' := 30) rfl (by decide) rfl (fun h27 => ?_) (fun h27 => ?_)
    · have g1 : 4 ≤ k := (nI_leI (a := 4) (b := k) (by omega) (by omega)).mp h27
      omega
    · have g2 : ¬ 4 ≤ k := fun q => h27 ((nI_leI (a := 4) (b := k) (by omega) (by omega)).mpr q)
      refine w_iconst (pc' := 31) 0 rfl rfl ic_0 ?_
      refine w_ist6 (pc' := 33) rfl rfl rfl ?_
      refine w_iconst (pc' := 34) 0 rfl rfl ic_0 ?_
      refine w_ist7 (pc' := 36) rfl rfl rfl ?_
      refine lp_lk2 xs h hB e (a := k) (by omega) 8 0 (by omega) 0 _ _ (by omega) ?_
      intro l8 l9
      have hm16 := lkm_le T e k 8 0 0 (by omega)
      refine w_iload (pc' := 109) rfl rfl rfl ?_
      refine w_iload (pc' := 111) rfl rfl rfl ?_
      refine w_ic_lt (t := 117) (pc' := 114) rfl (by decide) rfl (fun h111 => ?_) (fun h111 => ?_)
      · have g3 : (lkm T e k 8 0 0) < le := (nI_ltI (a := (lkm T e k 8 0 0)) (b := le) (by omega) (by omega)).mp h111
        refine w_iload (pc' := 119) rfl rfl rfl ?_
        refine w_ist4 (pc' := 121) rfl rfl rfl ?_
        refine w_iload (pc' := 123) rfl rfl rfl ?_
        refine w_ist3 (pc' := 124) rfl rfl rfl ?_
        refine w_iinc5 (pc' := 127) 1 rfl rfl ic_1 rfl ?_
        rw [nI_inc]
        refine w_goto (pc' := 24) rfl (by decide) ?_
        rw [show lkw T e (r + 1) k le f = lkw T e r (k + 1) (lkm T e k 8 0 0) k from if_pos (by omega)]
        exact ih (k + 1) (by omega) _ _ (by omega) (by omega) _ _ _ _
      · have g4 : ¬ (lkm T e k 8 0 0) < le := fun q => h111 ((nI_ltI (a := (lkm T e k 8 0 0)) (b := le) (by omega) (by omega)).mpr q)
        refine w_goto (pc' := 124) rfl (by decide) ?_
        refine w_iinc5 (pc' := 127) 1 rfl rfl ic_1 rfl ?_
        rw [nI_inc]
        refine w_goto (pc' := 24) rfl (by decide) ?_
        rw [show lkw T e (r + 1) k le f = lkw T e r (k + 1) le f from if_neg (by omega)]
        exact ih (k + 1) (by omega) _ _ (by omega) (by omega) _ _ _ _
set_option maxRecDepth 100000 in
set_option maxHeartbeats 4000000 in
theorem v_m_look (xs : List Int32) {T : q_T} {m : am_Mm} (h : q_Rm T m) (hB : q_Bd T) {p : Nat} (hp : p < 6) : am_V xs 4 153 [.ref 153, .int (nI p)] m (am_qi (f_look T p) (· = m)) := by
  refine am_V_of ky_153 (Nat.le_of_ble_eq_true rfl) ?_
  show am_P xs 3 m_look 0 [some (.ref 153), some (.int (nI p)), none, none, none, none, none, none, none, none] [] m _
  refine w_aload_n (pc' := 1) rfl rfl rfl rfl ?_
  refine w_iload_n (pc' := 2) rfl rfl rfl ?_
  refine w_iconst (pc' := 3) 1 rfl rfl ic_1 ?_
  refine w_cV2i (pc' := 6) (v_m_came xs h hB hp true) (by decide) rfl rfl rfl (Nat.le_of_ble_eq_true rfl) sh_153 rfl (fun m' hm' => ?_)
  rw [show m' = m from hm']
  clear hm' m'
  refine w_ist2 (pc' := 7) rfl rfl rfl ?_
  refine w_iload_n (pc' := 8) rfl rfl rfl ?_
  refine w_if_ne (t := 14) (pc' := 11) rfl (by decide) rfl (fun h8 => ?_) (fun h8 => ?_)
  · have h0 : ¬ f_came T p true = 0 := h8
    refine w_iconst (pc' := 15) 0 rfl rfl ic_0 ?_
    refine w_ist3 (pc' := 16) rfl rfl rfl ?_
    refine w_sipush (pc' := 19) 9999 rfl rfl sp_9999 ?_
    refine w_ist4 (pc' := 21) rfl rfl rfl ?_
    refine w_iconst (pc' := 22) 0 rfl rfl ic_0 ?_
    refine w_ist5 (pc' := 24) rfl rfl rfl ?_
    rw [show f_look T p = nI (lkw T (f_came T p true) 4 0 9999 0) from if_neg h0]
    exact lp_lk3 xs h hB (f_came T p true) 4 0 (by omega) 9999 0 (by omega) (by omega) none none none none
  · have h0 : f_came T p true = 0 := h8
    refine w_bipush (pc' := 13) (-5) rfl rfl bp_m5 ?_
    refine w_iret rfl rfl rfl ?_
    rw [show f_look T p = -5 from if_pos h0]
    exact ⟨rfl, rfl⟩
def wsn (n : Nat) (T : q_T) : q_T := if n = 0 then T else f_gh T
def who : Nat → Nat → q_T → Int32
  | 0, _, _ => -5
  | r + 1, n, T => if (wsn n T).1 153 10 = 65535 then nI n else who r (n + 1) (wsn n T)
def f_who (T : q_T) : Int32 := who 61 0 T
set_option maxRecDepth 100000 in
set_option maxHeartbeats 4000000 in
theorem lp_whole (xs : List Int32) {T0 : q_T} {m0 : am_Mm} {Q : am_Q} : ∀ (r k : Nat), k + r = 61 → ∀ (T : q_T) (m : am_Mm) (h0 : Nat), q_Rm T m → q_FB m0 m → q_Y h0 T → q_As T0 T → h0 + r ≤ 1000 → (∀ (Te : q_T) (m : am_Mm) (b1 : Int32) (l2 : Option Value), q_Rm Te m → q_FB m0 m → q_As T0 Te → b1 = who r k T → am_P xs 6 m_whole 51 [some (.ref 153), some (.int b1), l2] [] m Q) → am_P xs 6 m_whole 13 [some (.ref 153), some (.int (-5)), some (.int (nI k))] [] m (Q) := by
  intro r
  induction r with
  | zero =>
    intro k hk T m h0 h hF hY hA hr hK
    have hB := hY.1
    refine w_iload_n (pc' := 14) rfl rfl rfl ?_
    refine w_bipush (pc' := 16) 60 rfl rfl bp_60 ?_
    refine w_ic_gt (t := 51) (pc' := 19) rfl (by decide) rfl (fun h16 => ?_) (fun h16 => ?_)
    · have g1 : 60 < k := (nI_ltI (a := 60) (b := k) (by omega) (by omega)).mp h16
      exact hK T m (-5) _ h hF hA rfl
    · have g2 : ¬ 60 < k := fun q => h16 ((nI_ltI (a := 60) (b := k) (by omega) (by omega)).mpr q)
      omega
  | succ r ih =>
    intro k hk T m h0 h hF hY hA hr hK
    have hB := hY.1
    refine w_iload_n (pc' := 14) rfl rfl rfl ?_
    refine w_bipush (pc' := 16) 60 rfl rfl bp_60 ?_
    refine w_ic_gt (t := 51) (pc' := 19) rfl (by decide) rfl (fun h16 => ?_) (fun h16 => ?_)
    · have g1 : 60 < k := (nI_ltI (a := 60) (b := k) (by omega) (by omega)).mp h16
      omega
    · have g2 : ¬ 60 < k := fun q => h16 ((nI_ltI (a := 60) (b := k) (by omega) (by omega)).mpr q)
      refine w_iload_n (pc' := 20) rfl rfl rfl ?_
      refine w_bipush (pc' := 22) (-5) rfl rfl bp_m5 ?_
      refine w_ic_ne (t := 51) (pc' := 25) rfl (by decide) rfl (fun h22 => ?_) (fun h22 => ?_)
      · exact absurd h22 (by decide)
      · refine w_iload_n (pc' := 26) rfl rfl rfl ?_
        refine w_if_le (t := 33) (pc' := 29) rfl (by decide) rfl (fun h26 => ?_) (fun h26 => ?_)
        · have g3 : k ≤ 0 := (nI_leI (a := k) (b := 0) (by omega) (by omega)).mp h26
          have es : wsn k T = T := if_pos (show k = 0 by omega)
          refine id ?_
          · refine w_aload_n (pc' := 34) rfl rfl rfl rfl ?_
            refine w_getI (pc' := 37) rfl rfl rfl sh_153 rfl ?_
            rw [show m.1 153 10 = nI (T.1 153 (10)) from (rf_10 h :)]
            have b4 : (T.1 153 (10)) < 65536 := hB 153 (10)
            refine w_ldc_w (pc' := 40) rfl rfl rfl rfl ?_
            refine w_ic_ne (t := 45) (pc' := 43) rfl (by decide) rfl (fun h40 => ?_) (fun h40 => ?_)
            · have g5 : ¬ (T.1 153 (10)) = 65535 := fun q => h40 ((nI_eq (a := (T.1 153 (10))) (b := 65535) (by omega) (by omega)).mpr q)
              refine w_iinc2 (pc' := 48) 1 rfl rfl ic_1 rfl ?_
              rw [nI_inc]
              refine w_goto (pc' := 13) rfl (by decide) ?_
              refine ih (k + 1) (by omega) T m (h0 + 1) h hF (q_Y.mono hY) hA (by omega) ?_
              intro Te me b1 l2
              have e0 := hK Te me b1 l2
              rw [show who (r + 1) k T = who r (k + 1) T from (if_neg (by rw [es]; omega)).trans (by rw [es])] at e0
              exact e0
            · have g6 : (T.1 153 (10)) = 65535 := (nI_eq (a := (T.1 153 (10))) (b := 65535) (by omega) (by omega)).mp h40
              refine w_iload_n (pc' := 44) rfl rfl rfl ?_
              refine w_ist1 (pc' := 45) rfl rfl rfl ?_
              refine w_iinc2 (pc' := 48) 1 rfl rfl ic_1 rfl ?_
              rw [nI_inc]
              refine w_goto (pc' := 13) rfl (by decide) ?_
              refine w_iload_n (pc' := 14) rfl rfl rfl ?_
              refine w_bipush (pc' := 16) 60 rfl rfl bp_60 ?_
              refine w_ic_gt (t := 51) (pc' := 19) rfl (by decide) rfl (fun h16 => ?_) (fun h16 => ?_)
              · have g7 : 60 < (k + 1) := (nI_ltI (a := 60) (b := (k + 1)) (by omega) (by omega)).mp h16
                exact hK T m (nI k) _ h hF hA ((if_pos (by rw [es]; omega)).symm)
              · have g8 : ¬ 60 < (k + 1) := fun q => h16 ((nI_ltI (a := 60) (b := (k + 1)) (by omega) (by omega)).mpr q)
                refine w_iload_n (pc' := 20) rfl rfl rfl ?_
                refine w_bipush (pc' := 22) (-5) rfl rfl bp_m5 ?_
                refine w_ic_ne (t := 51) (pc' := 25) rfl (by decide) rfl (fun h22 => ?_) (fun h22 => ?_)
                · exact hK T m (nI k) _ h hF hA ((if_pos (by rw [es]; omega)).symm)
                · exact absurd h22 (fun q => nI_pos (n := k) (by omega) (by rw [q]; decide))
        · have g9 : ¬ k ≤ 0 := fun q => h26 ((nI_leI (a := k) (b := 0) (by omega) (by omega)).mpr q)
          refine w_aload_n (pc' := 30) rfl rfl rfl rfl ?_
          refine w_cV0n (pc' := 33) (v_m_goesHour xs h hY.1 hY.2.1 hY.2.2.1 (by have := hY.2.2.2.1; omega) (fun i => by have := hY.2.2.2.2 i; omega)) (by decide) rfl rfl rfl (Nat.le_of_ble_eq_true rfl) sh_153 rfl (fun m1 hm' => ?_)
          obtain ⟨h_1, hG_1⟩ := hm'
          have hF_1 := hF.tr hG_1
          have hY_1 := f_gh_Y hY (by omega)
          have es : wsn k T = (f_gh T) := if_neg (show ¬ k = 0 by omega)
          refine id ?_
          · refine w_aload_n (pc' := 34) rfl rfl rfl rfl ?_
            refine w_getI (pc' := 37) rfl rfl rfl sh_153 rfl ?_
            rw [show m1.1 153 10 = nI ((f_gh T).1 153 (10)) from (rf_10 h_1 :)]
            have b10 : ((f_gh T).1 153 (10)) < 65536 := hY_1.1 153 (10)
            refine w_ldc_w (pc' := 40) rfl rfl rfl rfl ?_
            refine w_ic_ne (t := 45) (pc' := 43) rfl (by decide) rfl (fun h40 => ?_) (fun h40 => ?_)
            · have g11 : ¬ ((f_gh T).1 153 (10)) = 65535 := fun q => h40 ((nI_eq (a := ((f_gh T).1 153 (10))) (b := 65535) (by omega) (by omega)).mpr q)
              refine w_iinc2 (pc' := 48) 1 rfl rfl ic_1 rfl ?_
              rw [nI_inc]
              refine w_goto (pc' := 13) rfl (by decide) ?_
              refine ih (k + 1) (by omega) (f_gh T) m1 (h0 + 1) h_1 hF_1 (f_gh_Y hY (by omega)) (hA.tr (f_gh_As hY (by omega))) (by omega) ?_
              intro Te me b1 l2
              have e0 := hK Te me b1 l2
              rw [show who (r + 1) k T = who r (k + 1) (f_gh T) from (if_neg (by rw [es]; omega)).trans (by rw [es])] at e0
              exact e0
            · have g12 : ((f_gh T).1 153 (10)) = 65535 := (nI_eq (a := ((f_gh T).1 153 (10))) (b := 65535) (by omega) (by omega)).mp h40
              refine w_iload_n (pc' := 44) rfl rfl rfl ?_
              refine w_ist1 (pc' := 45) rfl rfl rfl ?_
              refine w_iinc2 (pc' := 48) 1 rfl rfl ic_1 rfl ?_
              rw [nI_inc]
              refine w_goto (pc' := 13) rfl (by decide) ?_
              refine w_iload_n (pc' := 14) rfl rfl rfl ?_
              refine w_bipush (pc' := 16) 60 rfl rfl bp_60 ?_
              refine w_ic_gt (t := 51) (pc' := 19) rfl (by decide) rfl (fun h16 => ?_) (fun h16 => ?_)
              · have g13 : 60 < (k + 1) := (nI_ltI (a := 60) (b := (k + 1)) (by omega) (by omega)).mp h16
                exact hK (f_gh T) m1 (nI k) _ h_1 hF_1 (hA.tr (f_gh_As hY (by omega))) ((if_pos (by rw [es]; omega)).symm)
              · have g14 : ¬ 60 < (k + 1) := fun q => h16 ((nI_ltI (a := 60) (b := (k + 1)) (by omega) (by omega)).mpr q)
                refine w_iload_n (pc' := 20) rfl rfl rfl ?_
                refine w_bipush (pc' := 22) (-5) rfl rfl bp_m5 ?_
                refine w_ic_ne (t := 51) (pc' := 25) rfl (by decide) rfl (fun h22 => ?_) (fun h22 => ?_)
                · exact hK (f_gh T) m1 (nI k) _ h_1 hF_1 (hA.tr (f_gh_As hY (by omega))) ((if_pos (by rw [es]; omega)).symm)
                · exact absurd h22 (fun q => nI_pos (n := k) (by omega) (by rw [q]; decide))
set_option maxRecDepth 100000 in
set_option maxHeartbeats 4000000 in
theorem v_m_whole (xs : List Int32) {T : q_T} {m : am_Mm} (h : q_Rm T m) (hY : q_Y 0 T) : am_V xs 7 189 [.ref 153] m (am_qi (f_who T) (q_G T m)) := by
  have hB := hY.1
  have hF : q_FC m m := q_FC.rf
  refine am_V_of ky_189 (Nat.le_of_ble_eq_true rfl) ?_
  show am_P xs 6 m_whole 0 [some (.ref 153), none, none] [] m _
  refine w_aload_n (pc' := 1) rfl rfl rfl rfl ?_
  refine w_aload_n (pc' := 2) rfl rfl rfl rfl ?_
  refine w_getC (pc' := 5) rfl rfl rfl sh_153 rfl ?_
  refine w_cV1n (pc' := 8) (v_m_keep xs (c := 180) (by decide) sh_180) (by decide) rfl rfl rfl (Nat.le_of_ble_eq_true rfl) sh_153 rfl (fun m1 hm' => ?_)
  have K_1 : m1 = am_kp m 180 q_D := hm'
  have h_1 : q_Rm T m1 := by rw [K_1]; exact q_Rm_kp h
  have hF_1 : q_FB m1 m1 := q_FB.rf
  refine w_bipush (pc' := 10) (-5) rfl rfl bp_m5 ?_
  refine w_ist1 (pc' := 11) rfl rfl rfl ?_
  refine w_iconst (pc' := 12) 0 rfl rfl ic_0 ?_
  refine w_ist2 (pc' := 13) rfl rfl rfl ?_
  refine lp_whole xs 61 0 (by omega) T m1 0 h_1 hF_1 hY q_As.rf (by omega) ?_
  intro Te me be l2 h_e hF_e hA_e hbe
  refine w_aload_n (pc' := 52) rfl rfl rfl rfl ?_
  refine w_aload_n (pc' := 53) rfl rfl rfl rfl ?_
  refine w_getC (pc' := 56) rfl rfl rfl sh_153 rfl ?_
  refine w_cV1n (pc' := 59) (v_m_again xs (c := 180) (Or.inr rfl) sh_180) (by decide) rfl rfl rfl (Nat.le_of_ble_eq_true rfl) sh_153 rfl (fun m2 hm' => ?_)
  have R_2 : q_Rm T m2 ∧ q_FC m m2 := by rw [show m2 = am_ag me 180 q_D from hm']; exact q_again h K_1 h_e hF_e (hA_e.Ag)
  have h_2 := R_2.1
  have hF_2 := hF.tr R_2.2
  refine w_iload_n (pc' := 60) rfl rfl rfl ?_
  refine w_iret rfl rfl rfl ?_
  rw [hbe]
  exact ⟨rfl, h_2, hF_2⟩
