def sni (T : q_T) (n : Nat) : Nat → Nat → Bool → Bool
  | 0, _, b => b
  | r + 1, k, b => sni T n r (k + 1) (if T.1 172 k = n ∧ ¬ T.1 162 (T.1 156 (T.1 171 k)) = T.1 173 k then false else b)
def sns (n : Nat) (T : q_T) : q_T := if n = 0 then T else f_gh T
def sno : Nat → Nat → q_T → Bool → Bool
  | 0, _, _, b => b
  | r + 1, n, T, b => if b = true then sno r (n + 1) (sns n T) (sni (sns n T) n ((sns n T).1 153 28) 0 true) else b
/-- whether all of SEEN is so -/
def f_sn (T : q_T) : Bool := sno 13 0 T true
theorem q_Y.mono {h : Nat} {T : q_T} (hY : q_Y h T) : q_Y (h + 1) T := ⟨hY.1, hY.2.1, hY.2.2.1, by have := hY.2.2.2.1; omega, fun i => by have := hY.2.2.2.2 i; omega⟩
/-- the numbers below by which, were they at that place, all of SEEN is so, as bits -/
def bto (T : q_T) (c x : Nat) : Nat → Nat → Int32 → Int32
  | 0, _, b => b
  | r + 1, k, b => bto T c x r (k + 1) (if f_sn (q_Tu T c x k) = true then b ||| ((1 : Int32) <<< (nI k &&& 31)) else b)
def cno (T : q_T) (p : Nat) : Nat → Nat → Int32 → Nat × Int32
  | 0, many, low => (many, low)
  | r + 1, many, low => if f_sn (q_Tu T 155 p r) = true then cno T p r (many + 1) (nI r) else cno T p r many low
def f_can (T : q_T) (d u : Int32) : Int32 × q_T := if q_is d (T.1 153 0) = true ∧ q_is u 2 = true then ((if u.toNatClampNeg = 0 then nI (cno T d.toNatClampNeg 10 0 (-5)).1 else (cno T d.toNatClampNeg 10 0 (-5)).2), T) else (-1, T)
theorem sno_f (r n : Nat) (T : q_T) : sno r n T false = false := by
  cases r with
  | zero => rfl
  | succ r => exact if_neg (by decide)
set_option maxRecDepth 100000 in
set_option maxHeartbeats 4000000 in
theorem lp_sni (xs : List Int32) {T : q_T} {m : am_Mm} (h : q_Rm T m) (hB : q_Bd T) {n : Nat} (hn : n < 13) {Q : am_Q} : ∀ (r k : Nat), k + r = T.1 153 28 → ∀ (b : Bool), am_P xs 7 m_isSeen 83 [some (.ref 153), some (.int (bB (sni T n r k b))), some (.int (nI n)), some (.int (nI (T.1 153 28)))] [] m Q → am_P xs 7 m_isSeen 32 [some (.ref 153), some (.int (bB b)), some (.int (nI n)), some (.int (nI k))] [] m (Q) := by
  intro r
  induction r with
  | zero =>
    intro k hk b hK
    refine w_iload_n (pc' := 33) rfl rfl rfl ?_
    refine w_aload_n (pc' := 34) rfl rfl rfl rfl ?_
    refine w_getI (pc' := 37) rfl rfl rfl sh_153 rfl ?_
    rw [show m.1 153 28 = nI (T.1 153 (28)) from (rf_28 h :)]
    have b1 : (T.1 153 (28)) < 6 := hB 153 (28)
    refine w_ic_ge (t := 83) (pc' := 40) rfl (by decide) rfl (fun h37 => ?_) (fun h37 => ?_)
    · have g2 : (T.1 153 (28)) ≤ k := (nI_leI (a := (T.1 153 (28))) (b := k) (by omega) (by omega)).mp h37
      obtain rfl : k = T.1 153 28 := by omega
      exact hK
    · have g3 : ¬ (T.1 153 (28)) ≤ k := fun q => h37 ((nI_leI (a := (T.1 153 (28))) (b := k) (by omega) (by omega)).mpr q)
      omega
  | succ r ih =>
    intro k hk b hK
    refine w_iload_n (pc' := 33) rfl rfl rfl ?_
    refine w_aload_n (pc' := 34) rfl rfl rfl rfl ?_
    refine w_getI (pc' := 37) rfl rfl rfl sh_153 rfl ?_
    rw [show m.1 153 28 = nI (T.1 153 (28)) from (rf_28 h :)]
    have b1 : (T.1 153 (28)) < 6 := hB 153 (28)
    refine w_ic_ge (t := 83) (pc' := 40) rfl (by decide) rfl (fun h37 => ?_) (fun h37 => ?_)
    · have g2 : (T.1 153 (28)) ≤ k := (nI_leI (a := (T.1 153 (28))) (b := k) (by omega) (by omega)).mp h37
      omega
    · have g3 : ¬ (T.1 153 (28)) ≤ k := fun q => h37 ((nI_leI (a := (T.1 153 (28))) (b := k) (by omega) (by omega)).mpr q)
      refine w_aload_n (pc' := 41) rfl rfl rfl rfl ?_
      refine w_getC (pc' := 44) rfl rfl rfl sh_153 rfl ?_
      refine w_iload_n (pc' := 45) rfl rfl rfl ?_
      refine w_iald (j := (k)) (pc' := 46) rfl rfl sh_172 rfl (by omega) (by decide) ?_
      rw [show m.1 172 k = nI (T.1 172 (k)) from (rd_172 h _ :)]
      have b4 : (T.1 172 (k)) < 13 := hB 172 (k)
      refine w_iload_n (pc' := 47) rfl rfl rfl ?_
      refine w_ic_ne (t := 77) (pc' := 50) rfl (by decide) rfl (fun h47 => ?_) (fun h47 => ?_)
      · have g5 : ¬ (T.1 172 (k)) = n := fun q => h47 ((nI_eq (a := (T.1 172 (k))) (b := n) (by omega) (by omega)).mpr q)
        refine w_iinc3 (pc' := 80) 1 rfl rfl ic_1 rfl ?_
        rw [nI_inc]
        refine w_goto (pc' := 32) rfl (by decide) ?_
        rw [show sni T n (r + 1) k b = sni T n r (k + 1) b from congrArg (sni T n r (k + 1)) (if_neg (fun q => by omega))] at hK
        exact ih (k + 1) (by omega) b hK
      · have g6 : (T.1 172 (k)) = n := (nI_eq (a := (T.1 172 (k))) (b := n) (by omega) (by omega)).mp h47
        refine w_aload_n (pc' := 51) rfl rfl rfl rfl ?_
        refine w_getC (pc' := 54) rfl rfl rfl sh_153 rfl ?_
        refine w_aload_n (pc' := 55) rfl rfl rfl rfl ?_
        refine w_getC (pc' := 58) rfl rfl rfl sh_153 rfl ?_
        refine w_aload_n (pc' := 59) rfl rfl rfl rfl ?_
        refine w_getC (pc' := 62) rfl rfl rfl sh_153 rfl ?_
        refine w_iload_n (pc' := 63) rfl rfl rfl ?_
        refine w_iald (j := (k)) (pc' := 64) rfl rfl sh_171 rfl (by omega) (by decide) ?_
        rw [show m.1 171 k = nI (T.1 171 (k)) from (rd_171 h _ :)]
        have b7 : (T.1 171 (k)) < 6 := hB 171 (k)
        refine w_iald (j := ((T.1 171 (k)))) (pc' := 65) rfl rfl sh_156 rfl (by omega) (by decide) ?_
        rw [show m.1 156 (T.1 171 (k)) = nI (T.1 156 ((T.1 171 (k)))) from (rd_156 h _ :)]
        have b8 : (T.1 156 ((T.1 171 (k)))) < 16 := hB 156 ((T.1 171 (k)))
        refine w_iald (j := ((T.1 156 ((T.1 171 (k)))))) (pc' := 66) rfl rfl sh_162 rfl (by omega) (by decide) ?_
        rw [show m.1 162 (T.1 156 ((T.1 171 (k)))) = nI (T.1 162 ((T.1 156 ((T.1 171 (k)))))) from (rd_162 h _ :)]
        have b9 : (T.1 162 ((T.1 156 ((T.1 171 (k)))))) < 8 := hB 162 ((T.1 156 ((T.1 171 (k)))))
        refine w_aload_n (pc' := 67) rfl rfl rfl rfl ?_
        refine w_getC (pc' := 70) rfl rfl rfl sh_153 rfl ?_
        refine w_iload_n (pc' := 71) rfl rfl rfl ?_
        refine w_iald (j := (k)) (pc' := 72) rfl rfl sh_173 rfl (by omega) (by decide) ?_
        rw [show m.1 173 k = nI (T.1 173 (k)) from (rd_173 h _ :)]
        have b10 : (T.1 173 (k)) < 8 := hB 173 (k)
        refine w_ic_eq (t := 77) (pc' := 75) rfl (by decide) rfl (fun h72 => ?_) (fun h72 => ?_)
        · have g11 : (T.1 162 ((T.1 156 ((T.1 171 (k)))))) = (T.1 173 (k)) := (nI_eq (a := (T.1 162 ((T.1 156 ((T.1 171 (k))))))) (b := (T.1 173 (k))) (by omega) (by omega)).mp h72
          refine w_iinc3 (pc' := 80) 1 rfl rfl ic_1 rfl ?_
          rw [nI_inc]
          refine w_goto (pc' := 32) rfl (by decide) ?_
          rw [show sni T n (r + 1) k b = sni T n r (k + 1) b from congrArg (sni T n r (k + 1)) (if_neg (fun q => by omega))] at hK
          exact ih (k + 1) (by omega) b hK
        · have g12 : ¬ (T.1 162 ((T.1 156 ((T.1 171 (k)))))) = (T.1 173 (k)) := fun q => h72 ((nI_eq (a := (T.1 162 ((T.1 156 ((T.1 171 (k))))))) (b := (T.1 173 (k))) (by omega) (by omega)).mpr q)
          refine w_iconst (pc' := 76) 0 rfl rfl ic_0 ?_
          refine w_ist1 (pc' := 77) rfl rfl rfl ?_
          refine w_iinc3 (pc' := 80) 1 rfl rfl ic_1 rfl ?_
          rw [nI_inc]
          refine w_goto (pc' := 32) rfl (by decide) ?_
          rw [show sni T n (r + 1) k b = sni T n r (k + 1) false from congrArg (sni T n r (k + 1)) (if_pos ⟨by omega, by omega⟩)] at hK
          exact ih (k + 1) (by omega) false hK
set_option maxRecDepth 100000 in
set_option maxHeartbeats 4000000 in
theorem lp_sno (xs : List Int32) {T0 : q_T} {m0 : am_Mm} {Q : am_Q} : ∀ (r k : Nat), k + r = 13 → ∀ (T : q_T) (m : am_Mm) (b : Bool) (h0 : Nat), q_Rm T m → q_FB m0 m → q_Y h0 T → q_As T0 T → h0 + r ≤ 1000 → (∀ (Te : q_T) (m : am_Mm) (b1 : Bool) (l2 l3 : Option Value), q_Rm Te m → q_FB m0 m → q_As T0 Te → b1 = sno r k T b → am_P xs 7 m_isSeen 89 [some (.ref 153), some (.int (bB b1)), l2, l3] [] m Q) → ∀ (l3 : Option Value), am_P xs 7 m_isSeen 12 [some (.ref 153), some (.int (bB b)), some (.int (nI k)), l3] [] m (Q) := by
  intro r
  induction r with
  | zero =>
    intro k hk T m b h0 h hF hY hA hr hK l3
    refine w_iload_n (pc' := 13) rfl rfl rfl ?_
    refine w_bipush (pc' := 15) 13 rfl rfl bp_13 ?_
    refine w_ic_ge (t := 89) (pc' := 18) rfl (by decide) rfl (fun h15 => ?_) (fun h15 => ?_)
    · have g1 : 13 ≤ k := (nI_leI (a := 13) (b := k) (by omega) (by omega)).mp h15
      exact hK T m b _ _ h hF hA rfl
    · have g2 : ¬ 13 ≤ k := fun q => h15 ((nI_leI (a := 13) (b := k) (by omega) (by omega)).mpr q)
      omega
  | succ r ih =>
    intro k hk T m b h0 h hF hY hA hr hK l3
    refine w_iload_n (pc' := 13) rfl rfl rfl ?_
    refine w_bipush (pc' := 15) 13 rfl rfl bp_13 ?_
    refine w_ic_ge (t := 89) (pc' := 18) rfl (by decide) rfl (fun h15 => ?_) (fun h15 => ?_)
    · have g1 : 13 ≤ k := (nI_leI (a := 13) (b := k) (by omega) (by omega)).mp h15
      omega
    · have g2 : ¬ 13 ≤ k := fun q => h15 ((nI_leI (a := 13) (b := k) (by omega) (by omega)).mpr q)
      refine w_iload_n (pc' := 19) rfl rfl rfl ?_
      refine w_if_eq (t := 89) (pc' := 22) rfl (by decide) rfl (fun h19 => ?_) (fun h19 => ?_)
      · have hbf := bB_0.mp h19
        subst hbf
        exact hK T m false _ _ h hF hA (sno_f _ _ _).symm
      · have hbt := bB_n0.mp h19
        subst hbt
        refine id ?_
        · refine w_iload_n (pc' := 23) rfl rfl rfl ?_
          refine w_if_le (t := 30) (pc' := 26) rfl (by decide) rfl (fun h23 => ?_) (fun h23 => ?_)
          · have g3 : k ≤ 0 := (nI_leI (a := k) (b := 0) (by omega) (by omega)).mp h23
            refine w_iconst (pc' := 31) 0 rfl rfl ic_0 ?_
            refine w_ist3 (pc' := 32) rfl rfl rfl ?_
            have es : sns k T = T := if_pos (show k = 0 by omega)
            refine lp_sni xs h ((q_Y.mono hY)).1 (n := k) (by omega) (T.1 153 28) 0 (by omega) true ?_
            refine w_iinc2 (pc' := 86) 1 rfl rfl ic_1 rfl ?_
            rw [nI_inc]
            refine w_goto (pc' := 12) rfl (by decide) ?_
            refine ih (k + 1) (by omega) T m (sni T k (T.1 153 28) 0 true) (h0 + 1) h hF (q_Y.mono hY) hA (by omega) ?_ _
            intro Te me b1 l2 l3
            have e0 := hK Te me b1 l2 l3
            rw [show sno (r + 1) k T true = sno r (k + 1) T (sni T k (T.1 153 28) 0 true) from (if_pos rfl).trans (by rw [es])] at e0
            exact e0
          · have g4 : ¬ k ≤ 0 := fun q => h23 ((nI_leI (a := k) (b := 0) (by omega) (by omega)).mpr q)
            refine w_aload_n (pc' := 27) rfl rfl rfl rfl ?_
            refine w_cV0n (pc' := 30) (v_m_goesHour xs h hY.1 hY.2.1 hY.2.2.1 (by have := hY.2.2.2.1; omega) (fun i => by have := hY.2.2.2.2 i; omega)) (by decide) rfl rfl rfl (Nat.le_of_ble_eq_true rfl) sh_153 rfl (fun m1 hm' => ?_)
            obtain ⟨h_1, hG_1⟩ := hm'
            have hF_1 := hF.tr hG_1
            refine w_iconst (pc' := 31) 0 rfl rfl ic_0 ?_
            refine w_ist3 (pc' := 32) rfl rfl rfl ?_
            have es : sns k T = (f_gh T) := if_neg (show ¬ k = 0 by omega)
            refine lp_sni xs h_1 ((f_gh_Y hY (by omega))).1 (n := k) (by omega) ((f_gh T).1 153 28) 0 (by omega) true ?_
            refine w_iinc2 (pc' := 86) 1 rfl rfl ic_1 rfl ?_
            rw [nI_inc]
            refine w_goto (pc' := 12) rfl (by decide) ?_
            refine ih (k + 1) (by omega) (f_gh T) m1 (sni (f_gh T) k ((f_gh T).1 153 28) 0 true) (h0 + 1) h_1 hF_1 (f_gh_Y hY (by omega)) (hA.tr (f_gh_As hY (by omega))) (by omega) ?_ _
            intro Te me b1 l2 l3
            have e0 := hK Te me b1 l2 l3
            rw [show sno (r + 1) k T true = sno r (k + 1) (f_gh T) (sni (f_gh T) k ((f_gh T).1 153 28) 0 true) from (if_pos rfl).trans (by rw [es])] at e0
            exact e0
set_option maxRecDepth 100000 in
set_option maxHeartbeats 4000000 in
theorem v_m_isSeen (xs : List Int32) {T : q_T} {m : am_Mm} (h : q_Rm T m) (hY : q_Y 0 T) : am_V xs 8 155 [.ref 153] m (am_qi (bB (f_sn T)) (q_G T m)) := by
  have hB := hY.1
  have hF : q_FC m m := q_FC.rf
  refine am_V_of ky_155 (Nat.le_of_ble_eq_true rfl) ?_
  show am_P xs 7 m_isSeen 0 [some (.ref 153), none, none, none] [] m _
  refine w_aload_n (pc' := 1) rfl rfl rfl rfl ?_
  refine w_aload_n (pc' := 2) rfl rfl rfl rfl ?_
  refine w_getC (pc' := 5) rfl rfl rfl sh_153 rfl ?_
  refine w_cV1n (pc' := 8) (v_m_keep xs (c := 180) (by decide) sh_180) (by decide) rfl rfl rfl (Nat.le_of_ble_eq_true rfl) sh_153 rfl (fun m1 hm' => ?_)
  have K_1 : m1 = am_kp m 180 q_D := hm'
  have h_1 : q_Rm T m1 := by rw [K_1]; exact q_Rm_kp h
  have hF_1 : q_FB m1 m1 := q_FB.rf
  refine w_iconst (pc' := 9) 1 rfl rfl ic_1 ?_
  refine w_ist1 (pc' := 10) rfl rfl rfl ?_
  refine w_iconst (pc' := 11) 0 rfl rfl ic_0 ?_
  refine w_ist2 (pc' := 12) rfl rfl rfl ?_
  refine lp_sno xs 13 0 (by omega) T m1 true 0 h_1 hF_1 hY q_As.rf (by omega) ?_ _
  intro Te me be l2 l3 h_e hF_e hA_e hbe
  refine w_aload_n (pc' := 90) rfl rfl rfl rfl ?_
  refine w_aload_n (pc' := 91) rfl rfl rfl rfl ?_
  refine w_getC (pc' := 94) rfl rfl rfl sh_153 rfl ?_
  refine w_cV1n (pc' := 97) (v_m_again xs (c := 180) (Or.inr rfl) sh_180) (by decide) rfl rfl rfl (Nat.le_of_ble_eq_true rfl) sh_153 rfl (fun m2 hm' => ?_)
  have R_2 : q_Rm T m2 ∧ q_FC m m2 := by rw [show m2 = am_ag me 180 q_D from hm']; exact q_again h K_1 h_e hF_e (hA_e.Ag)
  have h_2 := R_2.1
  have hF_2 := hF.tr R_2.2
  refine w_iload_n (pc' := 98) rfl rfl rfl ?_
  refine w_iret rfl rfl (by first | rfl | exact am_nbB _) ?_
  rw [hbe]
  exact ⟨rfl, h_2, hF_2⟩
set_option maxRecDepth 100000 in
set_option maxHeartbeats 4000000 in
theorem lp_marksOf (xs : List Int32) {T : q_T} {m0 : am_Mm} (hY : q_Y 0 T) {c : Nat} (hx : c < 16) : ∀ (r k : Nat), k + r = 8 → ∀ (y : Nat), y < 8 → ∀ (b : Int32) (m : am_Mm), q_Rm (q_Tu T 162 c y) m → q_FC m0 m → am_P xs 9 m_marksOf 12 [some (.ref 153), some (.int (nI c)), some (.int (nI (T.1 162 c))), some (.int b), some (.int (nI k))] [] m (am_qi (bto T 162 c r k b) (q_G T m0)) := by
  intro r
  induction r with
  | zero =>
    intro k hk y hy b m h hF
    refine w_iload (pc' := 14) rfl rfl rfl ?_
    refine w_bipush (pc' := 16) 8 rfl rfl bp_8 ?_
    refine w_ic_ge (t := 47) (pc' := 19) rfl (by decide) rfl (fun h16 => ?_) (fun h16 => ?_)
    · have g1 : 8 ≤ k := (nI_leI (a := 8) (b := k) (by omega) (by omega)).mp h16
      refine w_aload_n (pc' := 48) rfl rfl rfl rfl ?_
      refine w_getC (pc' := 51) rfl rfl rfl sh_153 rfl ?_
      refine w_iload_n (pc' := 52) rfl rfl rfl ?_
      refine w_iload_n (pc' := 53) rfl rfl rfl ?_
      refine w_iast (j := (c)) (pc' := 54) rfl rfl sh_162 rfl (by omega) (by decide) ?_
      refine w_gen (h.u (c := 162) (k := c) (x := (T.1 162 c)) rfl (y := _) (show _ = q_enc _ _ _ from rfl)) (hF.u (by decide)) (fun m1 h_1 hF_1 => ?_)
      refine w_iload_n (pc' := 55) rfl rfl rfl ?_
      refine w_iret rfl rfl rfl ?_
      refine ⟨rfl, ?_, hF_1⟩
      have e0 := h_1
      rw [q_TT, q_T1 rfl] at e0
      exact e0
    · have g2 : ¬ 8 ≤ k := fun q => h16 ((nI_leI (a := 8) (b := k) (by omega) (by omega)).mpr q)
      omega
  | succ r ih =>
    intro k hk y hy b m h hF
    refine w_iload (pc' := 14) rfl rfl rfl ?_
    refine w_bipush (pc' := 16) 8 rfl rfl bp_8 ?_
    refine w_ic_ge (t := 47) (pc' := 19) rfl (by decide) rfl (fun h16 => ?_) (fun h16 => ?_)
    · have g1 : 8 ≤ k := (nI_leI (a := 8) (b := k) (by omega) (by omega)).mp h16
      omega
    · have g2 : ¬ 8 ≤ k := fun q => h16 ((nI_leI (a := 8) (b := k) (by omega) (by omega)).mpr q)
      refine w_aload_n (pc' := 20) rfl rfl rfl rfl ?_
      refine w_getC (pc' := 23) rfl rfl rfl sh_153 rfl ?_
      refine w_iload_n (pc' := 24) rfl rfl rfl ?_
      refine w_iload (pc' := 26) rfl rfl rfl ?_
      refine w_iast (j := (c)) (pc' := 27) rfl rfl sh_162 rfl (by omega) (by decide) ?_
      refine w_gen (h.u (c := 162) (k := c) (x := k) rfl (y := _) (show _ = q_enc _ _ _ from rfl)) (hF.u (by decide)) (fun m1 h_1 hF_1 => ?_)
      refine w_aload_n (pc' := 28) rfl rfl rfl rfl ?_
      refine w_cV0i (pc' := 31) (v_m_isSeen xs (T := q_Tu T 162 c k) (by rw [← q_TT (x := y)]; exact h_1) (hY.u (show _ < 8 by omega) (by decide) (by decide))) (by decide) rfl rfl rfl (Nat.le_of_ble_eq_true rfl) sh_153 rfl (fun m2 hm' => ?_)
      obtain ⟨h_2, hG_2⟩ := hm'
      have hF_2 := hF_1.tr hG_2
      refine w_if_eq (t := 41) (pc' := 34) rfl (by decide) rfl (fun h31 => ?_) (fun h31 => ?_)
      · have hb3 : f_sn (q_Tu T 162 c k) = false := bB_0.mp h31
        refine w_iinc4 (pc' := 44) 1 rfl rfl ic_1 rfl ?_
        rw [nI_inc]
        refine w_goto (pc' := 12) rfl (by decide) ?_
        rw [show bto T 162 c (r + 1) k b = bto T 162 c r (k + 1) _ from congrArg (bto T 162 c r (k + 1)) (if_neg (by rw [hb3]; decide))]
        exact ih (k + 1) (by omega) k (by omega) _ _ h_2 hF_2
      · have hb4 : f_sn (q_Tu T 162 c k) = true := bB_n0.mp h31
        refine w_iload_n (pc' := 35) rfl rfl rfl ?_
        refine w_iconst (pc' := 36) 1 rfl rfl ic_1 ?_
        refine w_iload (pc' := 38) rfl rfl rfl ?_
        refine w_ishl (pc' := 39) rfl rfl ?_
        refine w_ior (pc' := 40) rfl rfl ?_
        refine w_ist3 (pc' := 41) rfl rfl rfl ?_
        refine w_iinc4 (pc' := 44) 1 rfl rfl ic_1 rfl ?_
        rw [nI_inc]
        refine w_goto (pc' := 12) rfl (by decide) ?_
        rw [show bto T 162 c (r + 1) k b = bto T 162 c r (k + 1) _ from congrArg (bto T 162 c r (k + 1)) (if_pos hb4)]
        exact ih (k + 1) (by omega) k (by omega) _ _ h_2 hF_2
set_option maxRecDepth 100000 in
set_option maxHeartbeats 4000000 in
theorem v_m_marksOf (xs : List Int32) {T : q_T} {m : am_Mm} (h : q_Rm T m) (hY : q_Y 0 T) {c : Nat} (hx : c < 16) : am_V xs 10 187 [.ref 153, .int (nI c)] m (am_qi (bto T 162 c 8 0 0) (q_G T m)) := by
  have hB := hY.1
  refine am_V_of ky_187 (Nat.le_of_ble_eq_true rfl) ?_
  show am_P xs 9 m_marksOf 0 [some (.ref 153), some (.int (nI c)), none, none, none] [] m _
  refine w_aload_n (pc' := 1) rfl rfl rfl rfl ?_
  refine w_getC (pc' := 4) rfl rfl rfl sh_153 rfl ?_
  refine w_iload_n (pc' := 5) rfl rfl rfl ?_
  refine w_iald (j := (c)) (pc' := 6) rfl rfl sh_162 rfl (by omega) (by decide) ?_
  rw [show m.1 162 c = nI (T.1 162 (c)) from (rd_162 h _ :)]
  have b1 : (T.1 162 (c)) < 8 := hB 162 (c)
  refine w_ist2 (pc' := 7) rfl rfl rfl ?_
  refine w_iconst (pc' := 8) 0 rfl rfl ic_0 ?_
  refine w_ist3 (pc' := 9) rfl rfl rfl ?_
  refine w_iconst (pc' := 10) 0 rfl rfl ic_0 ?_
  refine w_ist4 (pc' := 12) rfl rfl rfl ?_
  exact lp_marksOf xs hY hx 8 0 (by omega) (T.1 162 c) (hB 162 c) 0 m (by rw [q_T1 rfl]; exact h) q_FC.rf
set_option maxRecDepth 100000 in
set_option maxHeartbeats 4000000 in
theorem lp_places (xs : List Int32) {T : q_T} {m0 : am_Mm} (hY : q_Y 0 T) {p : Nat} (hx : p < 6) : ∀ (r k : Nat), k + r = 16 → ∀ (y : Nat), y < 16 → ∀ (b : Int32) (m : am_Mm), q_Rm (q_Tu T 156 p y) m → q_FC m0 m → am_P xs 9 m_places 12 [some (.ref 153), some (.int (nI p)), some (.int (nI (T.1 156 p))), some (.int b), some (.int (nI k))] [] m (am_qi (bto T 156 p r k b) (q_G T m0)) := by
  intro r
  induction r with
  | zero =>
    intro k hk y hy b m h hF
    refine w_iload (pc' := 14) rfl rfl rfl ?_
    refine w_bipush (pc' := 16) 16 rfl rfl bp_16 ?_
    refine w_ic_ge (t := 47) (pc' := 19) rfl (by decide) rfl (fun h16 => ?_) (fun h16 => ?_)
    · have g1 : 16 ≤ k := (nI_leI (a := 16) (b := k) (by omega) (by omega)).mp h16
      refine w_aload_n (pc' := 48) rfl rfl rfl rfl ?_
      refine w_getC (pc' := 51) rfl rfl rfl sh_153 rfl ?_
      refine w_iload_n (pc' := 52) rfl rfl rfl ?_
      refine w_iload_n (pc' := 53) rfl rfl rfl ?_
      refine w_iast (j := (p)) (pc' := 54) rfl rfl sh_156 rfl (by omega) (by decide) ?_
      refine w_gen (h.u (c := 156) (k := p) (x := (T.1 156 p)) rfl (y := _) (show _ = q_enc _ _ _ from rfl)) (hF.u (by decide)) (fun m1 h_1 hF_1 => ?_)
      refine w_iload_n (pc' := 55) rfl rfl rfl ?_
      refine w_iret rfl rfl rfl ?_
      refine ⟨rfl, ?_, hF_1⟩
      have e0 := h_1
      rw [q_TT, q_T1 rfl] at e0
      exact e0
    · have g2 : ¬ 16 ≤ k := fun q => h16 ((nI_leI (a := 16) (b := k) (by omega) (by omega)).mpr q)
      omega
  | succ r ih =>
    intro k hk y hy b m h hF
    refine w_iload (pc' := 14) rfl rfl rfl ?_
    refine w_bipush (pc' := 16) 16 rfl rfl bp_16 ?_
    refine w_ic_ge (t := 47) (pc' := 19) rfl (by decide) rfl (fun h16 => ?_) (fun h16 => ?_)
    · have g1 : 16 ≤ k := (nI_leI (a := 16) (b := k) (by omega) (by omega)).mp h16
      omega
    · have g2 : ¬ 16 ≤ k := fun q => h16 ((nI_leI (a := 16) (b := k) (by omega) (by omega)).mpr q)
      refine w_aload_n (pc' := 20) rfl rfl rfl rfl ?_
      refine w_getC (pc' := 23) rfl rfl rfl sh_153 rfl ?_
      refine w_iload_n (pc' := 24) rfl rfl rfl ?_
      refine w_iload (pc' := 26) rfl rfl rfl ?_
      refine w_iast (j := (p)) (pc' := 27) rfl rfl sh_156 rfl (by omega) (by decide) ?_
      refine w_gen (h.u (c := 156) (k := p) (x := k) rfl (y := _) (show _ = q_enc _ _ _ from rfl)) (hF.u (by decide)) (fun m1 h_1 hF_1 => ?_)
      refine w_aload_n (pc' := 28) rfl rfl rfl rfl ?_
      refine w_cV0i (pc' := 31) (v_m_isSeen xs (T := q_Tu T 156 p k) (by rw [← q_TT (x := y)]; exact h_1) (hY.u (show _ < 16 by omega) (by decide) (by decide))) (by decide) rfl rfl rfl (Nat.le_of_ble_eq_true rfl) sh_153 rfl (fun m2 hm' => ?_)
      obtain ⟨h_2, hG_2⟩ := hm'
      have hF_2 := hF_1.tr hG_2
      refine w_if_eq (t := 41) (pc' := 34) rfl (by decide) rfl (fun h31 => ?_) (fun h31 => ?_)
      · have hb3 : f_sn (q_Tu T 156 p k) = false := bB_0.mp h31
        refine w_iinc4 (pc' := 44) 1 rfl rfl ic_1 rfl ?_
        rw [nI_inc]
        refine w_goto (pc' := 12) rfl (by decide) ?_
        rw [show bto T 156 p (r + 1) k b = bto T 156 p r (k + 1) _ from congrArg (bto T 156 p r (k + 1)) (if_neg (by rw [hb3]; decide))]
        exact ih (k + 1) (by omega) k (by omega) _ _ h_2 hF_2
      · have hb4 : f_sn (q_Tu T 156 p k) = true := bB_n0.mp h31
        refine w_iload_n (pc' := 35) rfl rfl rfl ?_
        refine w_iconst (pc' := 36) 1 rfl rfl ic_1 ?_
        refine w_iload (pc' := 38) rfl rfl rfl ?_
        refine w_ishl (pc' := 39) rfl rfl ?_
        refine w_ior (pc' := 40) rfl rfl ?_
        refine w_ist3 (pc' := 41) rfl rfl rfl ?_
        refine w_iinc4 (pc' := 44) 1 rfl rfl ic_1 rfl ?_
        rw [nI_inc]
        refine w_goto (pc' := 12) rfl (by decide) ?_
        rw [show bto T 156 p (r + 1) k b = bto T 156 p r (k + 1) _ from congrArg (bto T 156 p r (k + 1)) (if_pos hb4)]
        exact ih (k + 1) (by omega) k (by omega) _ _ h_2 hF_2
set_option maxRecDepth 100000 in
set_option maxHeartbeats 4000000 in
theorem v_m_places (xs : List Int32) {T : q_T} {m : am_Mm} (h : q_Rm T m) (hY : q_Y 0 T) {p : Nat} (hx : p < 6) : am_V xs 10 154 [.ref 153, .int (nI p)] m (am_qi (bto T 156 p 16 0 0) (q_G T m)) := by
  have hB := hY.1
  refine am_V_of ky_154 (Nat.le_of_ble_eq_true rfl) ?_
  show am_P xs 9 m_places 0 [some (.ref 153), some (.int (nI p)), none, none, none] [] m _
  refine w_aload_n (pc' := 1) rfl rfl rfl rfl ?_
  refine w_getC (pc' := 4) rfl rfl rfl sh_153 rfl ?_
  refine w_iload_n (pc' := 5) rfl rfl rfl ?_
  refine w_iald (j := (p)) (pc' := 6) rfl rfl sh_156 rfl (by omega) (by decide) ?_
  rw [show m.1 156 p = nI (T.1 156 (p)) from (rd_156 h _ :)]
  have b1 : (T.1 156 (p)) < 16 := hB 156 (p)
  refine w_ist2 (pc' := 7) rfl rfl rfl ?_
  refine w_iconst (pc' := 8) 0 rfl rfl ic_0 ?_
  refine w_ist3 (pc' := 9) rfl rfl rfl ?_
  refine w_iconst (pc' := 10) 0 rfl rfl ic_0 ?_
  refine w_ist4 (pc' := 12) rfl rfl rfl ?_
  exact lp_places xs hY hx 16 0 (by omega) (T.1 156 p) (hB 156 p) 0 m (by rw [q_T1 rfl]; exact h) q_FC.rf
set_option maxRecDepth 100000 in
set_option maxHeartbeats 4000000 in
theorem lp_can (xs : List Int32) {T : q_T} {m0 : am_Mm} (hY : q_Y 0 T) {p : Nat} (hp : p < 6) {u : Int32} {Q : am_Q} : ∀ (r k : Nat), k + r = 10 → ∀ (y : Nat), y < 10 → ∀ (many : Nat) (low : Int32) (m : am_Mm), q_Rm (q_Tu T 155 p y) m → q_FC m0 m → (∀ (y : Nat) (m : am_Mm), y < 10 → q_Rm (q_Tu T 155 p y) m → q_FC m0 m → am_P xs 9 m_can 73 [some (.ref 153), some (.int (nI p)), some (.int u), some (.int (nI (T.1 155 p))), some (.int (nI (cno T p r many low).1)), some (.int (cno T p r many low).2), some (.int (-1))] [] m Q) → am_P xs 9 m_can 37 [some (.ref 153), some (.int (nI p)), some (.int u), some (.int (nI (T.1 155 p))), some (.int (nI many)), some (.int low), some (.int (nI r - 1))] [] m (Q) := by
  intro r
  induction r with
  | zero =>
    intro k hk y hy many low m h hF hK
    refine w_iload (pc' := 39) rfl rfl rfl ?_
    refine w_if_lt (t := 73) (pc' := 42) rfl (by decide) rfl (fun h39 => ?_) (fun h39 => ?_)
    · have g1 : ¬ 0 < 0 := fun q => Int32.not_lt.mpr ((nI_p1 (x := 0) (by omega)).mpr q) h39
      exact hK y m hy h hF
    · have g2 : 0 < 0 := (nI_p1 (x := 0) (by omega)).mp (Int32.not_lt.mp h39)
      omega
  | succ r ih =>
    intro k hk y hy many low m h hF hK
    rw [nI_pred]
    refine w_iload (pc' := 39) rfl rfl rfl ?_
    refine w_if_lt (t := 73) (pc' := 42) rfl (by decide) rfl (fun h39 => ?_) (fun h39 => ?_)
    · have g1 : r < 0 := (nI_ltI (a := r) (b := 0) (by omega) (by omega)).mp h39
      omega
    · have g2 : ¬ r < 0 := fun q => h39 ((nI_ltI (a := r) (b := 0) (by omega) (by omega)).mpr q)
      refine w_aload_n (pc' := 43) rfl rfl rfl rfl ?_
      refine w_getC (pc' := 46) rfl rfl rfl sh_153 rfl ?_
      refine w_iload_n (pc' := 47) rfl rfl rfl ?_
      refine w_iload (pc' := 49) rfl rfl rfl ?_
      refine w_iast (j := (p)) (pc' := 50) rfl rfl sh_155 rfl (by omega) (by decide) ?_
      refine w_gen (h.u (c := 155) (k := p) (x := r) rfl (y := _) (show _ = q_enc _ _ _ from rfl)) (hF.u (by decide)) (fun m1 h_1 hF_1 => ?_)
      refine w_aload_n (pc' := 51) rfl rfl rfl rfl ?_
      refine w_cV0i (pc' := 54) (v_m_isSeen xs (T := q_Tu T 155 p r) (by rw [← q_TT (x := y)]; exact h_1) (hY.u (show _ < 10 by omega) (by decide) (by decide))) (by decide) rfl rfl rfl (Nat.le_of_ble_eq_true rfl) sh_153 rfl (fun m2 hm' => ?_)
      obtain ⟨h_2, hG_2⟩ := hm'
      have hF_2 := hF_1.tr hG_2
      refine w_if_ne (t := 60) (pc' := 57) rfl (by decide) rfl (fun h54 => ?_) (fun h54 => ?_)
      · have hb3 : f_sn (q_Tu T 155 p r) = true := bB_n0.mp h54
        refine w_iinc4 (pc' := 63) 1 rfl rfl ic_1 rfl ?_
        rw [nI_inc]
        refine w_iload (pc' := 65) rfl rfl rfl ?_
        refine w_ist5 (pc' := 67) rfl rfl rfl ?_
        refine w_iinc6 (pc' := 70) (-1) rfl rfl ic_m1 rfl ?_
        rw [nI_dec]
        refine w_goto (pc' := 37) rfl (by decide) ?_
        rw [show cno T p (r + 1) many low = cno T p r (many + 1) (nI r) from if_pos hb3] at hK
        exact ih (k + 1) (by omega) r (by omega) _ _ _ h_2 hF_2 hK
      · have hb4 : f_sn (q_Tu T 155 p r) = false := bB_0.mp h54
        refine w_goto (pc' := 67) rfl (by decide) ?_
        refine w_iinc6 (pc' := 70) (-1) rfl rfl ic_m1 rfl ?_
        rw [nI_dec]
        refine w_goto (pc' := 37) rfl (by decide) ?_
        rw [show cno T p (r + 1) many low = cno T p r many low from if_neg (by rw [hb4]; decide)] at hK
        exact ih (k + 1) (by omega) r (by omega) _ _ _ h_2 hF_2 hK
set_option maxRecDepth 100000 in
set_option maxHeartbeats 4000000 in
theorem v_m_can (xs : List Int32) {T : q_T} {m : am_Mm} (h : q_Rm T m) (hY : q_Y 0 T) (d u : Int32) : am_V xs 10 198 [.ref 153, .int d, .int u] m (am_qi (f_can T d u).1 (q_G (f_can T d u).2 m)) := by
  have hB := hY.1
  have hF : q_FC m m := q_FC.rf
  have hn : T.1 153 0 < 7 := hB 153 0
  refine am_V_of ky_198 (Nat.le_of_ble_eq_true rfl) ?_
  show am_P xs 9 m_can 0 [some (.ref 153), some (.int d), some (.int u), none, none, none, none] [] m _
  refine w_aload_n (pc' := 1) rfl rfl rfl rfl ?_
  refine w_iload_n (pc' := 2) rfl rfl rfl ?_
  refine w_cV1i (pc' := 5) (v_m_one xs h (by omega) _) (by decide) rfl rfl rfl (Nat.le_of_ble_eq_true rfl) sh_153 rfl (fun m' hm' => ?_)
  rw [show m' = m from hm']
  clear hm' m'
  refine w_if_eq (t := 17) (pc' := 8) rfl (by decide) rfl (fun h5 => ?_) (fun h5 => ?_)
  · have hN1 := bB_0.mp h5
    refine w_iconst (pc' := 18) (-1) rfl rfl ic_m1 ?_
    refine w_iret rfl rfl rfl ?_
    have hf : f_can T d u = (-1, T) := by simp [f_can, hN1]
    rw [hf]
    exact ⟨rfl, h, hF⟩
  · obtain ⟨j2, hj2, rfl⟩ := q_is_of (bB_n0.mp h5) (by omega)
    refine w_iload_n (pc' := 9) rfl rfl rfl ?_
    refine w_iconst (pc' := 10) 0 rfl rfl ic_0 ?_
    refine w_iconst (pc' := 11) 1 rfl rfl ic_1 ?_
    refine w_cS3i (pc' := 14) (v_m_win xs _ _ _ (2) (by omega) (by first | decide | rfl)) (by decide) rfl rfl rfl (Or.inl rfl) (Nat.le_of_ble_eq_true rfl) (fun m' hm' => ?_)
    rw [show m' = m from hm']
    clear hm' m'
    refine w_if_ne (t := 19) (pc' := 17) rfl (by decide) rfl (fun h14 => ?_) (fun h14 => ?_)
    · obtain ⟨j3, hj3, rfl⟩ := q_is_of (bB_n0.mp h14) (by omega)
      refine w_aload_n (pc' := 20) rfl rfl rfl rfl ?_
      refine w_getC (pc' := 23) rfl rfl rfl sh_153 rfl ?_
      refine w_iload_n (pc' := 24) rfl rfl rfl ?_
      refine w_iald (j := (j2)) (pc' := 25) rfl rfl sh_155 rfl (by omega) (by decide) ?_
      rw [show m.1 155 j2 = nI (T.1 155 (j2)) from (rd_155 h _ :)]
      have b4 : (T.1 155 (j2)) < 10 := hB 155 (j2)
      refine w_ist3 (pc' := 26) rfl rfl rfl ?_
      refine w_iconst (pc' := 27) 0 rfl rfl ic_0 ?_
      refine w_ist4 (pc' := 29) rfl rfl rfl ?_
      refine w_bipush (pc' := 31) (-5) rfl rfl bp_m5 ?_
      refine w_ist5 (pc' := 33) rfl rfl rfl ?_
      refine w_bipush (pc' := 35) 9 rfl rfl bp_9 ?_
      refine w_ist6 (pc' := 37) rfl rfl rfl ?_
      refine lp_can xs hY (p := j2) (by omega) (u := nI j3) 10 0 (by omega) (T.1 155 j2) (hB 155 j2) 0 (-5) m (by rw [q_T1 rfl]; exact h) q_FC.rf ?_
      intro y m1 hy h_1 hF_1
      refine w_aload_n (pc' := 74) rfl rfl rfl rfl ?_
      refine w_getC (pc' := 77) rfl rfl rfl sh_153 rfl ?_
      refine w_iload_n (pc' := 78) rfl rfl rfl ?_
      refine w_iload_n (pc' := 79) rfl rfl rfl ?_
      refine w_iast (j := (j2)) (pc' := 80) rfl rfl sh_155 rfl (by omega) (by decide) ?_
      refine w_gen (h_1.u (c := 155) (k := j2) (x := (T.1 155 (j2))) rfl (y := _) (show _ = q_enc _ _ _ from rfl)) (hF_1.u (by decide)) (fun m2 h_2 hF_2 => ?_)
      refine w_iload_n (pc' := 81) rfl rfl rfl ?_
      refine w_if_ne (t := 89) (pc' := 84) rfl (by decide) rfl (fun h81 => ?_) (fun h81 => ?_)
      · have g5 : ¬ j3 = 0 := fun q => h81 ((nI_eq (a := j3) (b := 0) (by omega) (by omega)).mpr q)
        refine w_iload (pc' := 91) rfl rfl rfl ?_
        refine w_iret rfl rfl rfl ?_
        have e0 := h_2
        rw [q_TT, q_T1 rfl] at e0
        have hf : f_can T (nI j2) (nI j3) = ((cno T j2 10 0 (-5)).2, T) := by simp [f_can, q_is_nI (n := T.1 153 0) hj2 (by omega), nI_clamp (show j2 < 2 ^ 31 by omega), q_is_nI (n := 2) hj3 (by omega), nI_clamp (show j3 < 2 ^ 31 by omega), g5]
        rw [hf]
        exact ⟨rfl, e0, hF_2⟩
      · have g6 : j3 = 0 := (nI_eq (a := j3) (b := 0) (by omega) (by omega)).mp h81
        refine w_iload (pc' := 86) rfl rfl rfl ?_
        refine w_goto (pc' := 91) rfl (by decide) ?_
        refine w_iret rfl rfl rfl ?_
        have e0 := h_2
        rw [q_TT, q_T1 rfl] at e0
        have hf : f_can T (nI j2) (nI j3) = ((nI (cno T j2 10 0 (-5)).1), T) := by simp [f_can, q_is_nI (n := T.1 153 0) hj2 (by omega), nI_clamp (show j2 < 2 ^ 31 by omega), q_is_nI (n := 2) hj3 (by omega), nI_clamp (show j3 < 2 ^ 31 by omega), eq_true g6]
        rw [hf]
        exact ⟨rfl, e0, hF_2⟩
    · have hN7 := bB_0.mp h14
      refine w_iconst (pc' := 18) (-1) rfl rfl ic_m1 ?_
      refine w_iret rfl rfl rfl ?_
      have hf : f_can T (nI j2) u = (-1, T) := by simp [f_can, q_is_nI (n := T.1 153 0) hj2 (by omega), nI_clamp (show j2 < 2 ^ 31 by omega), hN7]
      rw [hf]
      exact ⟨rfl, h, hF⟩
