theorem nx_or (a b : Nat) : nI a ||| nI b = nI (a ||| b) := by
  apply Int32.toBitVec_inj.1
  show BitVec.ofNat 32 a ||| BitVec.ofNat 32 b = BitVec.ofNat 32 (a ||| b)
  apply BitVec.eq_of_getLsbD_eq
  intro i hi
  simp [hi]
theorem nI_bit : ∀ j, j < 31 → (1 : Int32) <<< (nI j &&& 31) = nI (2 ^ j) := by decide +kernel
/-- the class's cells and the two rows of the model's own stay -/
def q_FA (m m' : am_Mm) : Prop := ∀ c, (c < 153 ∨ c = 180 ∨ c = 181) → m'.1 c = m.1 c ∧ m'.2 c = m.2 c
theorem q_FA.rf {m : am_Mm} : q_FA m m := fun _ _ => ⟨rfl, rfl⟩
theorem q_FA.tr {m m' m'' : am_Mm} (h : q_FA m m') (h' : q_FA m' m'') : q_FA m m'' := fun c hc => ⟨((h' c hc).1).trans (h c hc).1, ((h' c hc).2).trans (h c hc).2⟩
theorem q_FA.u {m m' : am_Mm} {c k : Nat} {x : Int32} (h : q_FA m m') (hc : 153 ≤ c ∧ ¬ c = 180 ∧ ¬ c = 181) : q_FA m (am_u m' c k x) := fun c' hc' => ⟨(am_u_nc (by omega)).trans (h c' hc').1, (h c' hc').2⟩
theorem q_FA.FC {m m' : am_Mm} (h : q_FA m m') : q_FC m m' := fun c hc => h c (Or.inl hc)
theorem q_St.FA {m m' : am_Mm} (h : q_St m m') : q_FA m m' := fun c hc => ⟨h.1 c (by omega), by rw [h.2]⟩
def q_GA (T : q_T) (m : am_Mm) : am_Mm → Prop := fun m' => q_Rm T m' ∧ q_FA m m'
theorem w_genA {xs : List Int32} {d : Nat} {M : am_M} {pc : Nat} {L : am_L} {st : List Value} {m m0 : am_Mm} {Q : am_Q} {T : q_T} (h : q_Rm T m) (hF : q_FA m0 m) (k : ∀ m', q_Rm T m' → q_FA m0 m' → am_P xs d M pc L st m' Q) : am_P xs d M pc L st m Q := k m h hF
theorem q_Bd.u {T : q_T} {c k x : Nat} (h : q_Bd T) (hx : x < q_B c k) : q_Bd (q_Tu T c k x) := by
  intro c' k'
  show (if c' = c ∧ k' = k then x else T.1 c' k') < _
  split
  · rename_i e
    rw [e.1, e.2]
    exact hx
  · exact h c' k'
def q_al (T : q_T) (p mk : Nat) : Nat → Nat → Nat
  | 0, _ => 0
  | r + 1, k => (if T.1 160 (8 * p + k) % 10 = mk then 1 else 0) + q_al T p mk r (k + 1)
def q_gb (T : q_T) (p a : Nat) : q_T := q_Tu (q_Tu (q_Tu (q_Tu (q_Tu T 156 p (f_stp (T.1 156 p) a)) 160 (8 * p + T.1 157 p) (10 * a + T.1 162 (f_stp (T.1 156 p) a))) 157 p (T.1 157 p + 1)) 153 10 (T.1 153 10 ||| 2 ^ f_stp (T.1 156 p) a)) 159 p (T.1 159 p + 1)
def f_gb (T : q_T) (p a kn : Nat) : q_T := if kn ≤ q_al (q_gb T p a) p (T.1 162 (f_stp (T.1 156 p) a)) (T.1 157 p + 1) 0 then q_Tu (q_gb T p a) 158 p 1 else q_gb T p a
theorem q_gb_o {T : q_T} {p a c k : Nat} (h1 : ¬ (c = 156 ∧ k = p)) (h2 : ¬ (c = 160 ∧ k = 8 * p + T.1 157 p)) (h3 : ¬ (c = 157 ∧ k = p)) (h4 : ¬ (c = 153 ∧ k = 10)) (h5 : ¬ (c = 159 ∧ k = p)) : (q_gb T p a).1 c k = T.1 c k := (q_Tu_ne h5).trans ((q_Tu_ne h4).trans ((q_Tu_ne h3).trans ((q_Tu_ne h2).trans (q_Tu_ne h1))))
theorem f_gb_o {T : q_T} {p a kn c k : Nat} (h1 : ¬ (c = 156 ∧ k = p)) (h2 : ¬ (c = 160 ∧ k = 8 * p + T.1 157 p)) (h3 : ¬ (c = 157 ∧ k = p)) (h4 : ¬ (c = 153 ∧ k = 10)) (h5 : ¬ (c = 159 ∧ k = p)) (h6 : ¬ (c = 158 ∧ k = p)) : (f_gb T p a kn).1 c k = T.1 c k := by
  unfold f_gb
  split
  · exact (q_Tu_ne h6).trans (q_gb_o h1 h2 h3 h4 h5)
  · exact q_gb_o h1 h2 h3 h4 h5
theorem f_gb_2 {T : q_T} {p a kn : Nat} : (f_gb T p a kn).2 = T.2 := by
  unfold f_gb
  split <;> rfl
theorem f_gb_57 {T : q_T} {p a kn : Nat} : (f_gb T p a kn).1 157 p = T.1 157 p + 1 := by
  have e : (q_gb T p a).1 157 p = T.1 157 p + 1 := (q_Tu_ne (by omega)).trans ((q_Tu_ne (by omega)).trans q_Tu_eq)
  unfold f_gb
  split
  · exact (q_Tu_ne (by omega)).trans e
  · exact e
theorem f_gb_59 {T : q_T} {p a kn : Nat} : (f_gb T p a kn).1 159 p = T.1 159 p + 1 := by
  have e : (q_gb T p a).1 159 p = T.1 159 p + 1 := q_Tu_eq
  unfold f_gb
  split
  · exact (q_Tu_ne (by omega)).trans e
  · exact e
theorem q_gb_Bd {T : q_T} {p a : Nat} (hB : q_Bd T) (hs : T.1 157 p < 8) (ha : a < 4) (hd : T.1 159 p < 100000) : q_Bd (q_gb T p a) := by
  have b1 : T.1 156 p < 16 := hB 156 p
  have b2 : T.1 162 (f_stp (T.1 156 p) a) < 8 := hB 162 _
  have b3 : T.1 153 10 < 65536 := hB 153 10
  have b4 : f_stp (T.1 156 p) a < 16 := f_stp_lt b1
  refine ((((hB.u ?_).u ?_).u ?_).u ?_).u ?_
  · show _ < 16
    exact b4
  · show _ < 40
    omega
  · show _ < 9
    omega
  · show _ < 65536
    exact Nat.or_lt_two_pow (n := 16) b3 (Nat.pow_lt_pow_right (by decide) b4)
  · show _ < 2 ^ 40
    omega
theorem f_gb_Bd {T : q_T} {p a kn : Nat} (hB : q_Bd T) (hs : T.1 157 p < 8) (ha : a < 4) (hd : T.1 159 p < 100000) : q_Bd (f_gb T p a kn) := by
  unfold f_gb
  split
  · exact (q_gb_Bd hB hs ha hd).u (show 1 < 2 by omega)
  · exact q_gb_Bd hB hs ha hd
set_option maxRecDepth 100000 in
set_option maxHeartbeats 4000000 in
theorem lp_gb (xs : List Int32) {T : q_T} {m m0 : am_Mm} (h : q_Rm T m) (hB : q_Bd T) (hF : q_FA m0 m) {p a kn mk : Nat} (hp : p < 6) (hkn : kn < 1000) (hmk : mk < 8) : ∀ (r k : Nat), k + r = T.1 157 p → ∀ (c : Nat), c ≤ k → am_P xs 1 m_goesBy 95 [some (.ref 153), some (.int (nI p)), some (.int (nI a)), some (.int (nI kn)), some (.int (nI mk)), some (.int (nI c)), some (.int (nI k))] [] m (am_qn (q_GA (if kn ≤ c + q_al T p mk r k then q_Tu T 158 p 1 else T) m0)) := by
  intro r
  induction r with
  | zero =>
    intro k hk c hck
    refine w_iload (pc' := 97) rfl rfl rfl ?_
    refine w_aload_n (pc' := 98) rfl rfl rfl rfl ?_
    refine w_getC (pc' := 101) rfl rfl rfl sh_153 rfl ?_
    refine w_iload_n (pc' := 102) rfl rfl rfl ?_
    refine w_iald (j := (p)) (pc' := 103) rfl rfl sh_157 rfl (by omega) (by decide) ?_
    rw [show m.1 157 p = nI (T.1 157 (p)) from (rd_157 h _ :)]
    have b1 : (T.1 157 (p)) < 9 := hB 157 (p)
    refine w_ic_ge (t := 135) (pc' := 106) rfl (by decide) rfl (fun h103 => ?_) (fun h103 => ?_)
    · have g2 : (T.1 157 (p)) ≤ k := (nI_leI (a := (T.1 157 (p))) (b := k) (by omega) (by omega)).mp h103
      refine w_iload (pc' := 137) rfl rfl rfl ?_
      refine w_iload_n (pc' := 138) rfl rfl rfl ?_
      refine w_ic_lt (t := 148) (pc' := 141) rfl (by decide) rfl (fun h138 => ?_) (fun h138 => ?_)
      · have g3 : c < kn := (nI_ltI (a := c) (b := kn) (by omega) (by omega)).mp h138
        refine w_vret rfl rfl ?_
        rw [show (if kn ≤ c + q_al T p mk 0 k then q_Tu T 158 p 1 else T) = T from if_neg (show ¬ kn ≤ c + 0 by omega)]
        exact ⟨rfl, h, hF⟩
      · have g4 : ¬ c < kn := fun q => h138 ((nI_ltI (a := c) (b := kn) (by omega) (by omega)).mpr q)
        refine w_aload_n (pc' := 142) rfl rfl rfl rfl ?_
        refine w_getC (pc' := 145) rfl rfl rfl sh_153 rfl ?_
        refine w_iload_n (pc' := 146) rfl rfl rfl ?_
        refine w_iconst (pc' := 147) 1 rfl rfl ic_1 ?_
        refine w_iast (j := (p)) (pc' := 148) rfl rfl sh_158 rfl (by omega) (by decide) ?_
        refine w_genA (h.u (c := 158) (k := p) (x := 1) rfl (y := _) (show _ = q_enc _ _ _ from rfl)) (hF.u (by decide)) (fun m1 h_1 hF_1 => ?_)
        refine w_vret rfl rfl ?_
        rw [show (if kn ≤ c + q_al T p mk 0 k then q_Tu T 158 p 1 else T) = (q_Tu T 158 (p) (1)) from if_pos (show kn ≤ c + 0 by omega)]
        exact ⟨rfl, h_1, hF_1⟩
    · have g5 : ¬ (T.1 157 (p)) ≤ k := fun q => h103 ((nI_leI (a := (T.1 157 (p))) (b := k) (by omega) (by omega)).mpr q)
      omega
  | succ r ih =>
    intro k hk c hck
    refine w_iload (pc' := 97) rfl rfl rfl ?_
    refine w_aload_n (pc' := 98) rfl rfl rfl rfl ?_
    refine w_getC (pc' := 101) rfl rfl rfl sh_153 rfl ?_
    refine w_iload_n (pc' := 102) rfl rfl rfl ?_
    refine w_iald (j := (p)) (pc' := 103) rfl rfl sh_157 rfl (by omega) (by decide) ?_
    rw [show m.1 157 p = nI (T.1 157 (p)) from (rd_157 h _ :)]
    have b1 : (T.1 157 (p)) < 9 := hB 157 (p)
    refine w_ic_ge (t := 135) (pc' := 106) rfl (by decide) rfl (fun h103 => ?_) (fun h103 => ?_)
    · have g2 : (T.1 157 (p)) ≤ k := (nI_leI (a := (T.1 157 (p))) (b := k) (by omega) (by omega)).mp h103
      omega
    · have g3 : ¬ (T.1 157 (p)) ≤ k := fun q => h103 ((nI_leI (a := (T.1 157 (p))) (b := k) (by omega) (by omega)).mpr q)
      refine w_aload_n (pc' := 107) rfl rfl rfl rfl ?_
      refine w_getC (pc' := 110) rfl rfl rfl sh_153 rfl ?_
      refine w_bipush (pc' := 112) 8 rfl rfl bp_8 ?_
      refine w_iload_n (pc' := 113) rfl rfl rfl ?_
      refine w_imul (pc' := 114) rfl rfl ?_
      rw [show (8 : Int32) * nI (p) = nI (8 * p) from nI_mul _ _]
      refine w_iload (pc' := 116) rfl rfl rfl ?_
      refine w_iadd (pc' := 117) rfl rfl ?_
      rw [show nI (8 * p) + nI (k) = nI ((8 * p) + k) from nI_add _ _]
      refine w_iald (j := ((8 * p) + k)) (pc' := 118) rfl rfl sh_160 rfl (by omega) (by decide) ?_
      rw [show m.1 160 ((8 * p) + k) = nI (T.1 160 ((8 * p) + k)) from (rd_160 h _ :)]
      have b4 : (T.1 160 ((8 * p) + k)) < 40 := hB 160 ((8 * p) + k)
      refine w_bipush (pc' := 120) 10 rfl rfl bp_10 ?_
      refine w_irem (pc' := 121) rfl rfl (by decide) ?_
      rw [show nI ((T.1 160 ((8 * p) + k))) - nI ((T.1 160 ((8 * p) + k))) / (10 : Int32) * (10 : Int32) = nI ((T.1 160 ((8 * p) + k)) % 10) from nI_remI (a := (T.1 160 ((8 * p) + k))) (c := 10) (by omega) (by omega) (by omega)]
      refine w_iload (pc' := 123) rfl rfl rfl ?_
      refine w_ic_ne (t := 129) (pc' := 126) rfl (by decide) rfl (fun h123 => ?_) (fun h123 => ?_)
      · have g5 : ¬ ((T.1 160 ((8 * p) + k)) % 10) = mk := fun q => h123 ((nI_eq (a := ((T.1 160 ((8 * p) + k)) % 10)) (b := mk) (by omega) (by omega)).mpr q)
        refine w_iinc6 (pc' := 132) 1 rfl rfl ic_1 rfl ?_
        rw [nI_inc]
        refine w_goto (pc' := 95) rfl (by decide) ?_
        rw [show c + q_al T p mk (r + 1) k = c + q_al T p mk r (k + 1) by rw [q_al, if_neg g5]; omega]
        exact ih (k + 1) (by omega) (c) (by omega)
      · have g6 : ((T.1 160 ((8 * p) + k)) % 10) = mk := (nI_eq (a := ((T.1 160 ((8 * p) + k)) % 10)) (b := mk) (by omega) (by omega)).mp h123
        refine w_iinc5 (pc' := 129) 1 rfl rfl ic_1 rfl ?_
        rw [nI_inc]
        refine w_iinc6 (pc' := 132) 1 rfl rfl ic_1 rfl ?_
        rw [nI_inc]
        refine w_goto (pc' := 95) rfl (by decide) ?_
        rw [show c + q_al T p mk (r + 1) k = c + 1 + q_al T p mk r (k + 1) by rw [q_al, if_pos g6]; omega]
        exact ih (k + 1) (by omega) (c + 1) (by omega)
set_option maxRecDepth 100000 in
set_option maxHeartbeats 4000000 in
theorem v_m_goesBy (xs : List Int32) {T : q_T} {m : am_Mm} (h : q_Rm T m) (hB : q_Bd T) {p a kn : Nat} (hp : p < 6) (hs : T.1 157 p < 8) (ha : a < 4) (hd : T.1 159 p < 100000) (hkn : kn < 1000) : am_V xs 2 159 [.ref 153, .int (nI p), .int (nI a), .int (nI kn)] m (am_qn (q_GA (f_gb T p a kn) m)) := by
  have hF : q_FA m m := q_FA.rf
  have b1 : T.1 156 p < 16 := hB 156 p
  have b2 : f_stp (T.1 156 p) a < 16 := f_stp_lt b1
  have bm : T.1 162 (f_stp (T.1 156 p) a) < 8 := hB 162 _
  refine am_V_of ky_159 (Nat.le_of_ble_eq_true rfl) ?_
  show am_P xs 1 m_goesBy 0 [some (.ref 153), some (.int (nI p)), some (.int (nI a)), some (.int (nI kn)), none, none, none] [] m _
  refine w_aload_n (pc' := 1) rfl rfl rfl rfl ?_
  refine w_getC (pc' := 4) rfl rfl rfl sh_153 rfl ?_
  refine w_iload_n (pc' := 5) rfl rfl rfl ?_
  refine w_aload_n (pc' := 6) rfl rfl rfl rfl ?_
  refine w_getC (pc' := 9) rfl rfl rfl sh_153 rfl ?_
  refine w_iload_n (pc' := 10) rfl rfl rfl ?_
  refine w_iald (j := (p)) (pc' := 11) rfl rfl sh_156 rfl (by omega) (by decide) ?_
  rw [show m.1 156 p = nI (T.1 156 (p)) from (rd_156 h _ :)]
  have b1 : (T.1 156 (p)) < 16 := hB 156 (p)
  refine w_iload_n (pc' := 12) rfl rfl rfl ?_
  refine w_cS2i (pc' := 15) (v_m_step xs _ (a := T.1 156 p) (b := a) (by omega) (by omega)) (by decide) rfl rfl rfl (Or.inl rfl) (Nat.le_of_ble_eq_true rfl) (fun m' hm' => ?_)
  rw [show m' = m from hm']
  clear hm' m'
  refine w_iast (j := (p)) (pc' := 16) rfl rfl sh_156 rfl (by omega) (by decide) ?_
  refine w_genA (h.u (c := 156) (k := p) (x := (f_stp (T.1 156 p) a)) rfl (y := _) (show _ = q_enc _ _ _ from rfl)) (hF.u (by decide)) (fun m1 h_1 hF_1 => ?_)
  refine w_aload_n (pc' := 17) rfl rfl rfl rfl ?_
  refine w_getC (pc' := 20) rfl rfl rfl sh_153 rfl ?_
  refine w_aload_n (pc' := 21) rfl rfl rfl rfl ?_
  refine w_getC (pc' := 24) rfl rfl rfl sh_153 rfl ?_
  refine w_iload_n (pc' := 25) rfl rfl rfl ?_
  refine w_iald (j := (p)) (pc' := 26) rfl rfl sh_156 rfl (by omega) (by decide) ?_
  rw [show m1.1 156 p = nI (f_stp (T.1 156 p) a) from (rd_156 h_1 _).trans (congrArg nI (q_Tu_eq))]
  refine w_iald (j := ((f_stp (T.1 156 p) a))) (pc' := 27) rfl rfl sh_162 rfl (by omega) (by decide) ?_
  rw [show m1.1 162 (f_stp (T.1 156 p) a) = nI (T.1 162 ((f_stp (T.1 156 p) a))) from (rd_162 h_1 _ :)]
  have b2 : (T.1 162 ((f_stp (T.1 156 p) a))) < 8 := hB 162 ((f_stp (T.1 156 p) a))
  refine w_ist4 (pc' := 29) rfl rfl rfl ?_
  refine w_aload_n (pc' := 30) rfl rfl rfl rfl ?_
  refine w_getC (pc' := 33) rfl rfl rfl sh_153 rfl ?_
  refine w_bipush (pc' := 35) 8 rfl rfl bp_8 ?_
  refine w_iload_n (pc' := 36) rfl rfl rfl ?_
  refine w_imul (pc' := 37) rfl rfl ?_
  rw [show (8 : Int32) * nI (p) = nI (8 * p) from nI_mul _ _]
  refine w_aload_n (pc' := 38) rfl rfl rfl rfl ?_
  refine w_getC (pc' := 41) rfl rfl rfl sh_153 rfl ?_
  refine w_iload_n (pc' := 42) rfl rfl rfl ?_
  refine w_iald (j := (p)) (pc' := 43) rfl rfl sh_157 rfl (by omega) (by decide) ?_
  rw [show m1.1 157 p = nI (T.1 157 (p)) from (rd_157 h_1 _ :)]
  have b3 : (T.1 157 (p)) < 9 := hB 157 (p)
  refine w_iadd (pc' := 44) rfl rfl ?_
  rw [show nI (8 * p) + nI ((T.1 157 (p))) = nI ((8 * p) + (T.1 157 (p))) from nI_add _ _]
  refine w_bipush (pc' := 46) 10 rfl rfl bp_10 ?_
  refine w_iload_n (pc' := 47) rfl rfl rfl ?_
  refine w_imul (pc' := 48) rfl rfl ?_
  rw [show (10 : Int32) * nI (a) = nI (10 * a) from nI_mul _ _]
  refine w_iload (pc' := 50) rfl rfl rfl ?_
  refine w_iadd (pc' := 51) rfl rfl ?_
  rw [show nI (10 * a) + nI ((T.1 162 ((f_stp (T.1 156 p) a)))) = nI ((10 * a) + (T.1 162 ((f_stp (T.1 156 p) a)))) from nI_add _ _]
  refine w_iast (j := ((8 * p) + (T.1 157 (p)))) (pc' := 52) rfl rfl sh_160 rfl (by omega) (by decide) ?_
  refine w_genA (h_1.u (c := 160) (k := (8 * p) + (T.1 157 (p))) (x := (10 * a) + (T.1 162 ((f_stp (T.1 156 p) a)))) rfl (y := _) (show _ = q_enc _ _ _ from rfl)) (hF_1.u (by decide)) (fun m2 h_2 hF_2 => ?_)
  refine w_aload_n (pc' := 53) rfl rfl rfl rfl ?_
  refine w_getC (pc' := 56) rfl rfl rfl sh_153 rfl ?_
  refine w_iload_n (pc' := 57) rfl rfl rfl ?_
  refine w_dup2 (pc' := 58) rfl rfl rfl rfl ?_
  refine w_iald (j := (p)) (pc' := 59) rfl rfl sh_157 rfl (by omega) (by decide) ?_
  rw [show m2.1 157 p = nI (T.1 157 (p)) from (rd_157 h_2 _ :)]
  have b4 : (T.1 157 (p)) < 9 := hB 157 (p)
  refine w_iconst (pc' := 60) 1 rfl rfl ic_1 ?_
  refine w_iadd (pc' := 61) rfl rfl ?_
  rw [show nI ((T.1 157 (p))) + (1 : Int32) = nI ((T.1 157 (p)) + 1) from nI_add _ _]
  refine w_iast (j := (p)) (pc' := 62) rfl rfl sh_157 rfl (by omega) (by decide) ?_
  refine w_genA (h_2.u (c := 157) (k := p) (x := (T.1 157 (p)) + 1) rfl (y := _) (show _ = q_enc _ _ _ from rfl)) (hF_2.u (by decide)) (fun m3 h_3 hF_3 => ?_)
  refine w_aload_n (pc' := 63) rfl rfl rfl rfl ?_
  refine w_dup (pc' := 64) rfl rfl rfl ?_
  refine w_getI (pc' := 67) rfl rfl rfl sh_153 rfl ?_
  rw [show m3.1 153 10 = nI (T.1 153 (10)) from (rf_10 h_3 :)]
  have b5 : (T.1 153 (10)) < 65536 := hB 153 (10)
  refine w_iconst (pc' := 68) 1 rfl rfl ic_1 ?_
  refine w_aload_n (pc' := 69) rfl rfl rfl rfl ?_
  refine w_getC (pc' := 72) rfl rfl rfl sh_153 rfl ?_
  refine w_iload_n (pc' := 73) rfl rfl rfl ?_
  refine w_iald (j := (p)) (pc' := 74) rfl rfl sh_156 rfl (by omega) (by decide) ?_
  rw [show m3.1 156 p = nI (f_stp (T.1 156 p) a) from (rd_156 h_3 _).trans (congrArg nI ((q_Tu_ne (by omega)).trans ((q_Tu_ne (by omega)).trans (q_Tu_eq))))]
  refine w_ishl (pc' := 75) rfl rfl ?_
  rw [show (1 : Int32) <<< (nI (f_stp (T.1 156 p) a) &&& 31) = nI (2 ^ f_stp (T.1 156 p) a) from nI_bit _ (by omega)]
  refine w_ior (pc' := 76) rfl rfl ?_
  rw [show nI (T.1 153 10) ||| nI (2 ^ f_stp (T.1 156 p) a) = nI (T.1 153 10 ||| 2 ^ f_stp (T.1 156 p) a) from nx_or _ _]
  refine w_putI (pc' := 79) rfl rfl rfl sh_153 rfl rfl rfl ?_
  refine w_genA (h_3.u (c := 153) (k := 10) (x := (T.1 153 10 ||| 2 ^ f_stp (T.1 156 p) a)) rfl (y := _) (show _ = q_enc _ _ _ from rfl)) (hF_3.u (by decide)) (fun m4 h_4 hF_4 => ?_)
  refine w_aload_n (pc' := 80) rfl rfl rfl rfl ?_
  refine w_getC (pc' := 83) rfl rfl rfl sh_153 rfl ?_
  refine w_iload_n (pc' := 84) rfl rfl rfl ?_
  refine w_dup2 (pc' := 85) rfl rfl rfl rfl ?_
  refine w_iald (j := (p)) (pc' := 86) rfl rfl sh_159 rfl (by omega) (by decide) ?_
  rw [show m4.1 159 p = nI (T.1 159 (p)) from (rd_159 h_4 _ :)]
  refine w_iconst (pc' := 87) 1 rfl rfl ic_1 ?_
  refine w_iadd (pc' := 88) rfl rfl ?_
  rw [show nI ((T.1 159 (p))) + (1 : Int32) = nI ((T.1 159 (p)) + 1) from nI_add _ _]
  refine w_iast (j := (p)) (pc' := 89) rfl rfl sh_159 rfl (by omega) (by decide) ?_
  refine w_genA (h_4.u (c := 159) (k := p) (x := (T.1 159 (p)) + 1) rfl (y := _) (show _ = q_enc _ _ _ from rfl)) (hF_4.u (by decide)) (fun m5 h_5 hF_5 => ?_)
  refine w_iconst (pc' := 90) 0 rfl rfl ic_0 ?_
  refine w_ist5 (pc' := 92) rfl rfl rfl ?_
  refine w_iconst (pc' := 93) 0 rfl rfl ic_0 ?_
  refine w_ist6 (pc' := 95) rfl rfl rfl ?_
  have e0 := lp_gb xs h_5 (q_gb_Bd hB hs ha hd) hF_5 (a := a) hp hkn (mk := T.1 162 (f_stp (T.1 156 p) a)) bm (T.1 157 p + 1) 0 ((Nat.zero_add _).trans ((q_Tu_ne (by omega)).trans ((q_Tu_ne (by omega)).trans q_Tu_eq)).symm) 0 (by omega)
  rw [Nat.zero_add] at e0
  exact e0
