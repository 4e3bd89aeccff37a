def q_Bv (T : q_T) : Prop := ∀ o, o ∈ T.2.1 → ∀ cl, cl ∈ o → cl.1 < 2 → vld cl.2.2 0 = true
def q_s0 : Nat → Bool := fun _ => false
def sumo (T : q_T) (p : Nat) : List q_Cl → Int32 → Int32
  | [], a => a
  | cl :: l, a => sumo T p l (if cl.1 < 2 ∧ evl T p cl.2.2 0 (fun _ => false) = true then a + (if cl.1 = 0 then nI cl.2.1 else -nI cl.2.1) else a)
def f_sum (T : q_T) (p : Nat) : Int32 := sumo T p (q_of T) (nI (T.1 155 p + T.1 153 11 % 10))
def f_feel (T : q_T) (p : Nat) : Int32 := if T.1 154 p = 1 then f_sum T p + nI (T.1 155 p) else if T.1 154 p = 2 then f_sum T p / 2 else if T.1 154 p = 3 then f_sum T p + (nI (f_oc T p) - 1) else if T.1 154 p = 4 then (if T.1 157 p = 0 then 2 * (f_sum T p + nI (T.1 155 p)) + 1 else f_sum T p + nI (T.1 155 p)) else if T.1 154 p = 5 then f_sum T p / 2 + nI (T.1 162 (T.1 156 p)) else if T.1 154 p = 6 then f_sum T p + (nI (f_oc T p) - 1) + nI (T.1 161 (4 * p + T.1 153 11 % 4)) else f_sum T p
def f_way (T : q_T) (p : Nat) : Nat := (f_feel T p &&& 3).toNatClampNeg
theorem nI_and3 (x : Int32) : x &&& 3 = nI (x &&& 3).toNatClampNeg ∧ (x &&& 3).toNatClampNeg < 4 := by
  obtain ⟨n, rfl⟩ : ∃ n, x = nI n := ⟨x.toBitVec.toNat, by
    apply Int32.toBitVec_inj.1
    show x.toBitVec = BitVec.ofNat 32 x.toBitVec.toNat
    simp⟩
  have e2 : nI n &&& 3 = nI (n % 4) := by
    show nI n &&& nI 3 = _
    rw [nx_and, show (3 : Nat) = 2 ^ 2 - 1 from rfl, Nat.and_two_pow_sub_one_eq_mod]
  rw [e2, nI_clamp (by omega)]
  exact ⟨rfl, by omega⟩
theorem f_way_lt (T : q_T) (p : Nat) : f_way T p < 4 := (nI_and3 _).2
set_option maxRecDepth 100000 in
set_option maxHeartbeats 4000000 in
theorem lp_sum (xs : List Int32) {T : q_T} {m0 : am_Mm} (h0 : q_Rm T m0) (hB : q_Bd T) (hh : T.1 153 11 < 20000) {p j cd : Nat} {o : List q_Cl} (hp : p < 6) (hj : j < 6) (h19 : T.1 153 19 = j + 1) (hl : o.length ≤ 10) (hcd : cd ≤ 800) (hw : m0.1 164 j = nI o.length) (hc : ∀ i cl, o[i]? = some cl → m0.1 165 (10 * j + i) = nI cl.1 ∧ m0.1 166 (10 * j + i) = nI cl.2.1 ∧ ∃ b : Nat, m0.1 167 (10 * j + i) = nI b ∧ m0.1 168 (10 * j + i) = nI cl.2.2.length ∧ b + cl.2.2.length ≤ cd ∧ ∀ t x, cl.2.2[t]? = some x → m0.1 169 (b + t) = nI x) (hb3 : ∀ cl, cl ∈ o → cl.1 < 3) (hv : ∀ cl, cl ∈ o → cl.1 < 2 → vld cl.2.2 0 = true) : ∀ (r k : Nat), k + r = o.length → ∀ (m : am_Mm), q_St m0 m → ∀ (a : Int32) (l4 : Option Value), am_P xs 2 m_sum 17 [some (.ref 153), some (.int (nI p)), some (.int a), some (.int (nI k)), l4] [] m (am_qi (sumo T p (o.drop k) a) (q_St m0)) := by
  intro r
  induction r with
  | zero =>
    intro k hk m hS a l4
    have h := hS.Rm h0
    refine w_aload_n (pc' := 18) rfl rfl rfl rfl ?_
    refine w_getI (pc' := 21) rfl rfl rfl sh_153 rfl ?_
    rw [show m.1 153 19 = nI j from (rf_19 h).trans (by rw [h19]; exact nI_pred j)]
    refine w_iconst (pc' := 22) (-1) rfl rfl ic_m1 ?_
    refine w_ic_eq (t := 107) (pc' := 25) rfl (by decide) rfl (fun h22 => ?_) (fun h22 => ?_)
    · exact absurd h22 (fun q => nI_pos (n := j) (by omega) (by rw [q]; decide))
    · refine w_iload_n (pc' := 26) rfl rfl rfl ?_
      refine w_aload_n (pc' := 27) rfl rfl rfl rfl ?_
      refine w_getC (pc' := 30) rfl rfl rfl sh_153 rfl ?_
      refine w_aload_n (pc' := 31) rfl rfl rfl rfl ?_
      refine w_getI (pc' := 34) rfl rfl rfl sh_153 rfl ?_
      rw [show m.1 153 19 = nI j from (rf_19 h).trans (by rw [h19]; exact nI_pred j)]
      refine w_iald (j := (j)) (pc' := 35) rfl rfl sh_164 rfl (by omega) (by decide) ?_
      rw [show m.1 164 j = nI o.length by rw [hS.1 164 (by decide)]; exact hw]
      refine w_ic_ge (t := 107) (pc' := 38) rfl (by decide) rfl (fun h35 => ?_) (fun h35 => ?_)
      · have g1 : o.length ≤ k := (nI_leI (a := o.length) (b := k) (by omega) (by omega)).mp h35
        refine w_iload_n (pc' := 108) rfl rfl rfl ?_
        refine w_iret rfl rfl rfl ?_
        rw [show o.drop k = [] from List.drop_eq_nil_of_le (by omega)]
        exact ⟨rfl, hS⟩
      · have g2 : ¬ o.length ≤ k := fun q => h35 ((nI_leI (a := o.length) (b := k) (by omega) (by omega)).mpr q)
        omega
  | succ r ih =>
    intro k hk m hS a l4
    have h := hS.Rm h0
    refine w_aload_n (pc' := 18) rfl rfl rfl rfl ?_
    refine w_getI (pc' := 21) rfl rfl rfl sh_153 rfl ?_
    rw [show m.1 153 19 = nI j from (rf_19 h).trans (by rw [h19]; exact nI_pred j)]
    refine w_iconst (pc' := 22) (-1) rfl rfl ic_m1 ?_
    refine w_ic_eq (t := 107) (pc' := 25) rfl (by decide) rfl (fun h22 => ?_) (fun h22 => ?_)
    · exact absurd h22 (fun q => nI_pos (n := j) (by omega) (by rw [q]; decide))
    · refine w_iload_n (pc' := 26) rfl rfl rfl ?_
      refine w_aload_n (pc' := 27) rfl rfl rfl rfl ?_
      refine w_getC (pc' := 30) rfl rfl rfl sh_153 rfl ?_
      refine w_aload_n (pc' := 31) rfl rfl rfl rfl ?_
      refine w_getI (pc' := 34) rfl rfl rfl sh_153 rfl ?_
      rw [show m.1 153 19 = nI j from (rf_19 h).trans (by rw [h19]; exact nI_pred j)]
      refine w_iald (j := (j)) (pc' := 35) rfl rfl sh_164 rfl (by omega) (by decide) ?_
      rw [show m.1 164 j = nI o.length by rw [hS.1 164 (by decide)]; exact hw]
      refine w_ic_ge (t := 107) (pc' := 38) rfl (by decide) rfl (fun h35 => ?_) (fun h35 => ?_)
      · have g1 : o.length ≤ k := (nI_leI (a := o.length) (b := k) (by omega) (by omega)).mp h35
        omega
      · have g2 : ¬ o.length ≤ k := fun q => h35 ((nI_leI (a := o.length) (b := k) (by omega) (by omega)).mpr q)
        have hk2 : k < o.length := by omega
        obtain ⟨cl, hcl⟩ : ∃ cl, o[k]? = some cl := ⟨o[k], List.getElem?_eq_getElem hk2⟩
        have hcm := List.mem_of_getElem? hcl
        have hb4 := hb3 cl hcm
        have ed : o.drop k = cl :: o.drop (k + 1) := by
          rw [List.getElem?_eq_getElem hk2] at hcl
          rw [← Option.some.inj hcl]
          exact List.drop_eq_getElem_cons hk2
        obtain ⟨hc1, hc2, b, hb, hln, hbl, hco⟩ := hc k cl hcl
        refine id ?_
        · refine w_bipush (pc' := 40) 10 rfl rfl bp_10 ?_
          refine w_aload_n (pc' := 41) rfl rfl rfl rfl ?_
          refine w_getI (pc' := 44) rfl rfl rfl sh_153 rfl ?_
          rw [show m.1 153 19 = nI j from (rf_19 h).trans (by rw [h19]; exact nI_pred j)]
          refine w_imul (pc' := 45) rfl rfl ?_
          rw [show (10 : Int32) * nI (j) = nI (10 * j) from nI_mul _ _]
          refine w_iload_n (pc' := 46) rfl rfl rfl ?_
          refine w_iadd (pc' := 47) rfl rfl ?_
          rw [show nI (10 * j) + nI (k) = nI ((10 * j) + k) from nI_add _ _]
          refine w_ist4 (pc' := 49) rfl rfl rfl ?_
          refine w_aload_n (pc' := 50) rfl rfl rfl rfl ?_
          refine w_getC (pc' := 53) rfl rfl rfl sh_153 rfl ?_
          refine w_iload (pc' := 55) rfl rfl rfl ?_
          refine w_iald (j := ((10 * j) + k)) (pc' := 56) rfl rfl sh_165 rfl (by omega) (by decide) ?_
          rw [show m.1 165 (10 * j + k) = nI cl.1 by rw [hS.1 165 (by decide)]; exact hc1]
          refine w_iconst (pc' := 57) 2 rfl rfl ic_2 ?_
          refine w_ic_ge (t := 101) (pc' := 60) rfl (by decide) rfl (fun h57 => ?_) (fun h57 => ?_)
          · have g3 : 2 ≤ cl.1 := (nI_leI (a := 2) (b := cl.1) (by omega) (by omega)).mp h57
            refine w_iinc3 (pc' := 104) 1 rfl rfl ic_1 rfl ?_
            rw [nI_inc]
            refine w_goto (pc' := 17) rfl (by decide) ?_
            rw [ed, show sumo T p (cl :: o.drop (k + 1)) a = sumo T p (o.drop (k + 1)) a from (congrArg _ (if_neg (fun q => by omega)))]
            exact ih (k + 1) (by omega) m hS _ _
          · have g4 : ¬ 2 ≤ cl.1 := fun q => h57 ((nI_leI (a := 2) (b := cl.1) (by omega) (by omega)).mpr q)
            refine w_aload_n (pc' := 61) rfl rfl rfl rfl ?_
            refine w_iload_n (pc' := 62) rfl rfl rfl ?_
            refine w_iload (pc' := 64) rfl rfl rfl ?_
            refine w_cV2i (pc' := 67) (v_m_isTrue xs h hB hh (p := p) (c := 10 * j + k) (b := b) (code := cl.2.2) hp (by omega) (by rw [hS.1 167 (by decide)]; exact hb) (by rw [hS.1 168 (by decide)]; exact hln) (fun t x q => by rw [hS.1 169 (by decide)]; exact hco t x q) (by omega) (hv cl hcm (by omega))) (by decide) rfl rfl rfl (Nat.le_of_ble_eq_true rfl) sh_153 rfl (fun m' hm' => ?_)
            have hS2 := hS.tr hm'
            refine w_if_eq (t := 101) (pc' := 70) rfl (by decide) rfl (fun h67 => ?_) (fun h67 => ?_)
            · have hev : evl T p cl.2.2 0 (fun _ => false) = false := bB_0.mp h67
              refine w_iinc3 (pc' := 104) 1 rfl rfl ic_1 rfl ?_
              rw [nI_inc]
              refine w_goto (pc' := 17) rfl (by decide) ?_
              rw [ed, show sumo T p (cl :: o.drop (k + 1)) a = sumo T p (o.drop (k + 1)) a from (congrArg _ (if_neg (fun q => by rw [hev] at q; exact absurd q.2 (by decide))))]
              exact ih (k + 1) (by omega) m' hS2 _ _
            · have hev : evl T p cl.2.2 0 (fun _ => false) = true := bB_n0.mp h67
              refine w_iload_n (pc' := 71) rfl rfl rfl ?_
              refine w_aload_n (pc' := 72) rfl rfl rfl rfl ?_
              refine w_getC (pc' := 75) rfl rfl rfl sh_153 rfl ?_
              refine w_iload (pc' := 77) rfl rfl rfl ?_
              refine w_iald (j := ((10 * j) + k)) (pc' := 78) rfl rfl sh_165 rfl (by omega) (by decide) ?_
              rw [show m'.1 165 (10 * j + k) = nI cl.1 by rw [hS2.1 165 (by decide)]; exact hc1]
              refine w_if_ne (t := 91) (pc' := 81) rfl (by decide) rfl (fun h78 => ?_) (fun h78 => ?_)
              · have g5 : ¬ cl.1 = 0 := fun q => h78 ((nI_eq (a := cl.1) (b := 0) (by omega) (by omega)).mpr q)
                refine w_aload_n (pc' := 92) rfl rfl rfl rfl ?_
                refine w_getC (pc' := 95) rfl rfl rfl sh_153 rfl ?_
                refine w_iload (pc' := 97) rfl rfl rfl ?_
                refine w_iald (j := ((10 * j) + k)) (pc' := 98) rfl rfl sh_166 rfl (by omega) (by decide) ?_
                rw [show m'.1 166 (10 * j + k) = nI cl.2.1 by rw [hS2.1 166 (by decide)]; exact hc2]
                refine w_ineg (pc' := 99) rfl rfl ?_
                refine w_iadd (pc' := 100) rfl rfl ?_
                refine w_ist2 (pc' := 101) rfl rfl rfl ?_
                refine w_iinc3 (pc' := 104) 1 rfl rfl ic_1 rfl ?_
                rw [nI_inc]
                refine w_goto (pc' := 17) rfl (by decide) ?_
                rw [ed, show sumo T p (cl :: o.drop (k + 1)) a = sumo T p (o.drop (k + 1)) (a + -nI cl.2.1) from (congrArg _ ((if_pos ⟨by omega, hev⟩).trans (congrArg (a + ·) (if_neg (by omega)))))]
                exact ih (k + 1) (by omega) m' hS2 _ _
              · have g6 : cl.1 = 0 := (nI_eq (a := cl.1) (b := 0) (by omega) (by omega)).mp h78
                refine w_aload_n (pc' := 82) rfl rfl rfl rfl ?_
                refine w_getC (pc' := 85) rfl rfl rfl sh_153 rfl ?_
                refine w_iload (pc' := 87) rfl rfl rfl ?_
                refine w_iald (j := ((10 * j) + k)) (pc' := 88) rfl rfl sh_166 rfl (by omega) (by decide) ?_
                rw [show m'.1 166 (10 * j + k) = nI cl.2.1 by rw [hS2.1 166 (by decide)]; exact hc2]
                refine w_goto (pc' := 99) rfl (by decide) ?_
                refine w_iadd (pc' := 100) rfl rfl ?_
                refine w_ist2 (pc' := 101) rfl rfl rfl ?_
                refine w_iinc3 (pc' := 104) 1 rfl rfl ic_1 rfl ?_
                rw [nI_inc]
                refine w_goto (pc' := 17) rfl (by decide) ?_
                rw [ed, show sumo T p (cl :: o.drop (k + 1)) a = sumo T p (o.drop (k + 1)) (a + nI cl.2.1) from (congrArg _ ((if_pos ⟨by omega, hev⟩).trans (congrArg (a + ·) (if_pos (by omega)))))]
                exact ih (k + 1) (by omega) m' hS2 _ _
set_option maxRecDepth 100000 in
set_option maxHeartbeats 4000000 in
theorem v_sum0 (xs : List Int32) {T : q_T} {m : am_Mm} (h : q_Rm T m) (hB : q_Bd T) (hh : T.1 153 11 < 20000) {p : Nat} (hp : p < 6) (h0 : T.1 153 19 = 0) : am_V xs 1 146 [.ref 153, .int (nI p)] m (am_qi (f_sum T p) (q_St m)) := by
  refine am_V_of ky_146 (Nat.le_of_ble_eq_true rfl) ?_
  show am_P xs 0 m_sum 0 [some (.ref 153), some (.int (nI p)), none, none, none] [] m _
  refine w_aload_n (pc' := 1) rfl rfl rfl rfl ?_
  refine w_getC (pc' := 4) rfl rfl rfl sh_153 rfl ?_
  refine w_iload_n (pc' := 5) rfl rfl rfl ?_
  refine w_iald (j := (p)) (pc' := 6) rfl rfl sh_155 rfl (by omega) (by decide) ?_
  rw [show m.1 155 p = nI (T.1 155 (p)) from (rd_155 h _ :)]
  have b1 : (T.1 155 (p)) < 10 := hB 155 (p)
  refine w_aload_n (pc' := 7) rfl rfl rfl rfl ?_
  refine w_getI (pc' := 10) rfl rfl rfl sh_153 rfl ?_
  rw [show m.1 153 11 = nI (T.1 153 (11)) from (rf_11 h :)]
  refine w_bipush (pc' := 12) 10 rfl rfl bp_10 ?_
  refine w_irem (pc' := 13) rfl rfl (by decide) ?_
  rw [show nI ((T.1 153 (11))) - nI ((T.1 153 (11))) / (10 : Int32) * (10 : Int32) = nI ((T.1 153 (11)) % 10) from nI_remI (a := (T.1 153 (11))) (c := 10) (by omega) (by omega) (by omega)]
  refine w_iadd (pc' := 14) rfl rfl ?_
  rw [show nI ((T.1 155 (p))) + nI (((T.1 153 (11)) % 10)) = nI ((T.1 155 (p)) + ((T.1 153 (11)) % 10)) from nI_add _ _]
  refine w_ist2 (pc' := 15) rfl rfl rfl ?_
  refine w_iconst (pc' := 16) 0 rfl rfl ic_0 ?_
  refine w_ist3 (pc' := 17) rfl rfl rfl ?_
  refine w_aload_n (pc' := 18) rfl rfl rfl rfl ?_
  refine w_getI (pc' := 21) rfl rfl rfl sh_153 rfl ?_
  rw [show m.1 153 19 = nI 0 - 1 from (rf_19 h).trans (by rw [h0])]
  refine w_iconst (pc' := 22) (-1) rfl rfl ic_m1 ?_
  refine w_ic_eq (t := 107) (pc' := 25) rfl (by decide) rfl (fun h22 => ?_) (fun h22 => ?_)
  · have g2 : 0 = 0 := (nI_pp (a := 0) (b := 0) (by omega) (by omega)).mp h22
    refine w_iload_n (pc' := 108) rfl rfl rfl ?_
    refine w_iret rfl rfl rfl ?_
    rw [show f_sum T p = nI (T.1 155 p + T.1 153 11 % 10) by simp [f_sum, q_of, h0, sumo]]
    exact ⟨rfl, q_St.rf⟩
  · have g3 : ¬ 0 = 0 := fun q => h22 ((nI_pp (a := 0) (b := 0) (by omega) (by omega)).mpr q)
    omega
set_option maxRecDepth 100000 in
set_option maxHeartbeats 4000000 in
theorem v_sum1 (xs : List Int32) {T : q_T} {m : am_Mm} (h : q_Rm T m) (hB : q_Bd T) (hh : T.1 153 11 < 20000) {p j cd : Nat} {o : List q_Cl} (hp : p < 6) (hj : j < 6) (h19 : T.1 153 19 = j + 1) (hl : o.length ≤ 10) (hcd : cd ≤ 800) (hw : m.1 164 j = nI o.length) (hc : ∀ i cl, o[i]? = some cl → m.1 165 (10 * j + i) = nI cl.1 ∧ m.1 166 (10 * j + i) = nI cl.2.1 ∧ ∃ b : Nat, m.1 167 (10 * j + i) = nI b ∧ m.1 168 (10 * j + i) = nI cl.2.2.length ∧ b + cl.2.2.length ≤ cd ∧ ∀ t x, cl.2.2[t]? = some x → m.1 169 (b + t) = nI x) (hb3 : ∀ cl, cl ∈ o → cl.1 < 3) (hv : ∀ cl, cl ∈ o → cl.1 < 2 → vld cl.2.2 0 = true) : am_V xs 3 146 [.ref 153, .int (nI p)] m (am_qi (sumo T p o (nI (T.1 155 p + T.1 153 11 % 10))) (q_St m)) := by
  refine am_V_of ky_146 (Nat.le_of_ble_eq_true rfl) ?_
  show am_P xs 2 m_sum 0 [some (.ref 153), some (.int (nI p)), none, none, none] [] m _
  refine w_aload_n (pc' := 1) rfl rfl rfl rfl ?_
  refine w_getC (pc' := 4) rfl rfl rfl sh_153 rfl ?_
  refine w_iload_n (pc' := 5) rfl rfl rfl ?_
  refine w_iald (j := (p)) (pc' := 6) rfl rfl sh_155 rfl (by omega) (by decide) ?_
  rw [show m.1 155 p = nI (T.1 155 (p)) from (rd_155 h _ :)]
  have b1 : (T.1 155 (p)) < 10 := hB 155 (p)
  refine w_aload_n (pc' := 7) rfl rfl rfl rfl ?_
  refine w_getI (pc' := 10) rfl rfl rfl sh_153 rfl ?_
  rw [show m.1 153 11 = nI (T.1 153 (11)) from (rf_11 h :)]
  refine w_bipush (pc' := 12) 10 rfl rfl bp_10 ?_
  refine w_irem (pc' := 13) rfl rfl (by decide) ?_
  rw [show nI ((T.1 153 (11))) - nI ((T.1 153 (11))) / (10 : Int32) * (10 : Int32) = nI ((T.1 153 (11)) % 10) from nI_remI (a := (T.1 153 (11))) (c := 10) (by omega) (by omega) (by omega)]
  refine w_iadd (pc' := 14) rfl rfl ?_
  rw [show nI ((T.1 155 (p))) + nI (((T.1 153 (11)) % 10)) = nI ((T.1 155 (p)) + ((T.1 153 (11)) % 10)) from nI_add _ _]
  refine w_ist2 (pc' := 15) rfl rfl rfl ?_
  refine w_iconst (pc' := 16) 0 rfl rfl ic_0 ?_
  refine w_ist3 (pc' := 17) rfl rfl rfl ?_
  have e0 := lp_sum xs h hB hh hp hj h19 hl hcd hw hc hb3 hv o.length 0 (by omega) m q_St.rf (nI (T.1 155 p + T.1 153 11 % 10)) none
  rw [List.drop_zero] at e0
  exact e0
theorem v_m_sum (xs : List Int32) {T : q_T} {m : am_Mm} (h : q_Rm T m) (hB : q_Bd T) (hO : q_Bo T) (hV : q_Bv T) (hh : T.1 153 11 < 20000) {p : Nat} (hp : p < 6) : am_V xs 3 146 [.ref 153, .int (nI p)] m (am_qi (f_sum T p) (q_St m)) := by
  by_cases h0 : T.1 153 19 = 0
  · exact (v_sum0 xs h hB hh hp h0).up (by decide)
  · obtain ⟨j, h19⟩ : ∃ j, T.1 153 19 = j + 1 := ⟨T.1 153 19 - 1, by omega⟩
    have b19 : T.1 153 19 < 7 := hB 153 19
    have hjl : j < T.2.1.length := by
      have := hO.1
      omega
    have ho : T.2.1[j]? = some T.2.1[j] := List.getElem?_eq_getElem hjl
    have hm := List.mem_of_getElem? ho
    obtain ⟨hlen, -, cd, hcd, -, hall⟩ := h.2.1
    obtain ⟨hl, hw, hc⟩ := hall j _ ho
    have := v_sum1 xs h hB hh hp (by omega) h19 hl (by omega) hw hc (fun cl q => (hO.2 _ hm cl q).1) (hV _ hm)
    rwa [show sumo T p T.2.1[j] (nI (T.1 155 p + T.1 153 11 % 10)) = f_sum T p by
      unfold f_sum q_of
      rw [if_neg h0, h19, Nat.add_sub_cancel, ho]
      rfl] at this
set_option maxRecDepth 100000 in
set_option maxHeartbeats 4000000 in
theorem v_m_feel (xs : List Int32) {T : q_T} {m : am_Mm} (h : q_Rm T m) (hB : q_Bd T) (hO : q_Bo T) (hV : q_Bv T) (hh : T.1 153 11 < 20000) {p : Nat} (hp : p < 6) : am_V xs 4 145 [.ref 153, .int (nI p)] m (am_qi (f_feel T p) (q_St m)) := by
  have S_0 : q_St m m := q_St.rf
  refine am_V_of ky_145 (Nat.le_of_ble_eq_true rfl) ?_
  show am_P xs 3 m_feel 0 [some (.ref 153), some (.int (nI p)), none] [] m _
  refine w_aload_n (pc' := 1) rfl rfl rfl rfl ?_
  refine w_iload_n (pc' := 2) rfl rfl rfl ?_
  refine w_cV1i (pc' := 5) (v_m_sum xs h hB hO hV hh (p := p) hp) (by decide) rfl rfl rfl (Nat.le_of_ble_eq_true rfl) sh_153 rfl (fun m1 hm' => ?_)
  have h_1 := hm'.Rm h
  have S_1 := S_0.tr hm'
  refine w_ist2 (pc' := 6) rfl rfl rfl ?_
  refine w_aload_n (pc' := 7) rfl rfl rfl rfl ?_
  refine w_getC (pc' := 10) rfl rfl rfl sh_153 rfl ?_
  refine w_iload_n (pc' := 11) rfl rfl rfl ?_
  refine w_iald (j := (p)) (pc' := 12) rfl rfl sh_154 rfl (by omega) (by decide) ?_
  rw [show m1.1 154 p = nI (T.1 154 (p)) from (rd_154 h_1 _ :)]
  have b1 : (T.1 154 (p)) < 7 := hB 154 (p)
  refine w_tsw (t := 146) rfl rfl (fun hD2 => ?_) (fun z2 hl2 hh2 hz2 => ?_)
  · have eD2_1 : ¬ (T.1 154 (p)) = 1 := fun q => by rw [nI_toInt (by omega)] at hD2; omega
    have eD2_2 : ¬ (T.1 154 (p)) = 2 := fun q => by rw [nI_toInt (by omega)] at hD2; omega
    have eD2_3 : ¬ (T.1 154 (p)) = 3 := fun q => by rw [nI_toInt (by omega)] at hD2; omega
    have eD2_4 : ¬ (T.1 154 (p)) = 4 := fun q => by rw [nI_toInt (by omega)] at hD2; omega
    have eD2_5 : ¬ (T.1 154 (p)) = 5 := fun q => by rw [nI_toInt (by omega)] at hD2; omega
    have eD2_6 : ¬ (T.1 154 (p)) = 6 := fun q => by rw [nI_toInt (by omega)] at hD2; omega
    refine w_iload_n (pc' := 147) rfl rfl rfl ?_
    refine w_iret rfl rfl rfl ?_
    exact ⟨by simp [f_feel, eD2_1, eD2_2, eD2_3, eD2_4, eD2_5, eD2_6], S_1⟩
  · rcases (show z2 = 1 ∨ z2 = 2 ∨ z2 = 3 ∨ z2 = 4 ∨ z2 = 5 ∨ z2 = 6 by omega) with rfl | rfl | rfl | rfl | rfl | rfl
    · refine ⟨40, 52, rfl, rfl, ?_⟩
      have e2 : (T.1 154 (p)) = 1 := by rw [nI_toInt (by omega)] at hz2; omega
      refine w_iload_n (pc' := 53) rfl rfl rfl ?_
      refine w_aload_n (pc' := 54) rfl rfl rfl rfl ?_
      refine w_getC (pc' := 57) rfl rfl rfl sh_153 rfl ?_
      refine w_iload_n (pc' := 58) rfl rfl rfl ?_
      refine w_iald (j := (p)) (pc' := 59) rfl rfl sh_155 rfl (by omega) (by decide) ?_
      rw [show m1.1 155 p = nI (T.1 155 (p)) from (rd_155 h_1 _ :)]
      have b3 : (T.1 155 (p)) < 10 := hB 155 (p)
      refine w_iadd (pc' := 60) rfl rfl ?_
      refine w_iret rfl rfl rfl ?_
      exact ⟨by simp [f_feel, e2], S_1⟩
    · refine ⟨49, 61, rfl, rfl, ?_⟩
      have e2 : (T.1 154 (p)) = 2 := by rw [nI_toInt (by omega)] at hz2; omega
      refine w_iload_n (pc' := 62) rfl rfl rfl ?_
      refine w_iconst (pc' := 63) 2 rfl rfl ic_2 ?_
      refine w_idiv (pc' := 64) rfl rfl (by decide) ?_
      refine w_iret rfl rfl rfl ?_
      exact ⟨by simp [f_feel, e2], S_1⟩
    · refine ⟨53, 65, rfl, rfl, ?_⟩
      have e2 : (T.1 154 (p)) = 3 := by rw [nI_toInt (by omega)] at hz2; omega
      refine w_iload_n (pc' := 66) rfl rfl rfl ?_
      refine w_aload_n (pc' := 67) rfl rfl rfl rfl ?_
      refine w_iload_n (pc' := 68) rfl rfl rfl ?_
      refine w_cV1i (pc' := 71) (v_m_others xs h_1 hB (p := p) hp) (by decide) rfl rfl rfl (Nat.le_of_ble_eq_true rfl) sh_153 rfl (fun m' hm' => ?_)
      rw [show m' = m1 from hm']
      clear hm' m'
      refine w_iadd (pc' := 72) rfl rfl ?_
      refine w_iret rfl rfl rfl ?_
      exact ⟨by simp [f_feel, e2], S_1⟩
    · refine ⟨61, 73, rfl, rfl, ?_⟩
      have e2 : (T.1 154 (p)) = 4 := by rw [nI_toInt (by omega)] at hz2; omega
      refine w_aload_n (pc' := 74) rfl rfl rfl rfl ?_
      refine w_getC (pc' := 77) rfl rfl rfl sh_153 rfl ?_
      refine w_iload_n (pc' := 78) rfl rfl rfl ?_
      refine w_iald (j := (p)) (pc' := 79) rfl rfl sh_157 rfl (by omega) (by decide) ?_
      rw [show m1.1 157 p = nI (T.1 157 (p)) from (rd_157 h_1 _ :)]
      have b4 : (T.1 157 (p)) < 9 := hB 157 (p)
      refine w_if_ne (t := 97) (pc' := 82) rfl (by decide) rfl (fun h79 => ?_) (fun h79 => ?_)
      · have g5 : ¬ (T.1 157 (p)) = 0 := fun q => h79 ((nI_eq (a := (T.1 157 (p))) (b := 0) (by omega) (by omega)).mpr q)
        refine w_iload_n (pc' := 98) rfl rfl rfl ?_
        refine w_aload_n (pc' := 99) rfl rfl rfl rfl ?_
        refine w_getC (pc' := 102) rfl rfl rfl sh_153 rfl ?_
        refine w_iload_n (pc' := 103) rfl rfl rfl ?_
        refine w_iald (j := (p)) (pc' := 104) rfl rfl sh_155 rfl (by omega) (by decide) ?_
        rw [show m1.1 155 p = nI (T.1 155 (p)) from (rd_155 h_1 _ :)]
        have b6 : (T.1 155 (p)) < 10 := hB 155 (p)
        refine w_iadd (pc' := 105) rfl rfl ?_
        refine w_iret rfl rfl rfl ?_
        exact ⟨by simp [f_feel, e2, g5], S_1⟩
      · have g7 : (T.1 157 (p)) = 0 := (nI_eq (a := (T.1 157 (p))) (b := 0) (by omega) (by omega)).mp h79
        refine w_iconst (pc' := 83) 2 rfl rfl ic_2 ?_
        refine w_iload_n (pc' := 84) rfl rfl rfl ?_
        refine w_aload_n (pc' := 85) rfl rfl rfl rfl ?_
        refine w_getC (pc' := 88) rfl rfl rfl sh_153 rfl ?_
        refine w_iload_n (pc' := 89) rfl rfl rfl ?_
        refine w_iald (j := (p)) (pc' := 90) rfl rfl sh_155 rfl (by omega) (by decide) ?_
        rw [show m1.1 155 p = nI (T.1 155 (p)) from (rd_155 h_1 _ :)]
        have b8 : (T.1 155 (p)) < 10 := hB 155 (p)
        refine w_iadd (pc' := 91) rfl rfl ?_
        refine w_imul (pc' := 92) rfl rfl ?_
        refine w_iconst (pc' := 93) 1 rfl rfl ic_1 ?_
        refine w_iadd (pc' := 94) rfl rfl ?_
        refine w_goto (pc' := 105) rfl (by decide) ?_
        refine w_iret rfl rfl rfl ?_
        exact ⟨by simp [f_feel, e2, eq_true g7], S_1⟩
    · refine ⟨94, 106, rfl, rfl, ?_⟩
      have e2 : (T.1 154 (p)) = 5 := by rw [nI_toInt (by omega)] at hz2; omega
      refine w_iload_n (pc' := 107) rfl rfl rfl ?_
      refine w_iconst (pc' := 108) 2 rfl rfl ic_2 ?_
      refine w_idiv (pc' := 109) rfl rfl (by decide) ?_
      refine w_aload_n (pc' := 110) rfl rfl rfl rfl ?_
      refine w_getC (pc' := 113) rfl rfl rfl sh_153 rfl ?_
      refine w_aload_n (pc' := 114) rfl rfl rfl rfl ?_
      refine w_getC (pc' := 117) rfl rfl rfl sh_153 rfl ?_
      refine w_iload_n (pc' := 118) rfl rfl rfl ?_
      refine w_iald (j := (p)) (pc' := 119) rfl rfl sh_156 rfl (by omega) (by decide) ?_
      rw [show m1.1 156 p = nI (T.1 156 (p)) from (rd_156 h_1 _ :)]
      have b9 : (T.1 156 (p)) < 16 := hB 156 (p)
      refine w_iald (j := ((T.1 156 (p)))) (pc' := 120) rfl rfl sh_162 rfl (by omega) (by decide) ?_
      rw [show m1.1 162 (T.1 156 (p)) = nI (T.1 162 ((T.1 156 (p)))) from (rd_162 h_1 _ :)]
      have b10 : (T.1 162 ((T.1 156 (p)))) < 8 := hB 162 ((T.1 156 (p)))
      refine w_iadd (pc' := 121) rfl rfl ?_
      refine w_iret rfl rfl rfl ?_
      exact ⟨by simp [f_feel, e2], S_1⟩
    · refine ⟨110, 122, rfl, rfl, ?_⟩
      have e2 : (T.1 154 (p)) = 6 := by rw [nI_toInt (by omega)] at hz2; omega
      refine w_iload_n (pc' := 123) rfl rfl rfl ?_
      refine w_aload_n (pc' := 124) rfl rfl rfl rfl ?_
      refine w_iload_n (pc' := 125) rfl rfl rfl ?_
      refine w_cV1i (pc' := 128) (v_m_others xs h_1 hB (p := p) hp) (by decide) rfl rfl rfl (Nat.le_of_ble_eq_true rfl) sh_153 rfl (fun m' hm' => ?_)
      rw [show m' = m1 from hm']
      clear hm' m'
      refine w_iadd (pc' := 129) rfl rfl ?_
      refine w_aload_n (pc' := 130) rfl rfl rfl rfl ?_
      refine w_getC (pc' := 133) rfl rfl rfl sh_153 rfl ?_
      refine w_iconst (pc' := 134) 4 rfl rfl ic_4 ?_
      refine w_iload_n (pc' := 135) rfl rfl rfl ?_
      refine w_imul (pc' := 136) rfl rfl ?_
      rw [show (4 : Int32) * nI (p) = nI (4 * p) from nI_mul _ _]
      refine w_aload_n (pc' := 137) rfl rfl rfl rfl ?_
      refine w_getI (pc' := 140) rfl rfl rfl sh_153 rfl ?_
      rw [show m1.1 153 11 = nI (T.1 153 (11)) from (rf_11 h_1 :)]
      refine w_iconst (pc' := 141) 4 rfl rfl ic_4 ?_
      refine w_irem (pc' := 142) rfl rfl (by decide) ?_
      rw [show nI ((T.1 153 (11))) - nI ((T.1 153 (11))) / (4 : Int32) * (4 : Int32) = nI ((T.1 153 (11)) % 4) from nI_remI (a := (T.1 153 (11))) (c := 4) (by omega) (by omega) (by omega)]
      refine w_iadd (pc' := 143) rfl rfl ?_
      rw [show nI (4 * p) + nI (((T.1 153 (11)) % 4)) = nI ((4 * p) + ((T.1 153 (11)) % 4)) from nI_add _ _]
      refine w_iald (j := ((4 * p) + ((T.1 153 (11)) % 4))) (pc' := 144) rfl rfl sh_161 rfl (by omega) (by decide) ?_
      rw [show m1.1 161 ((4 * p) + ((T.1 153 (11)) % 4)) = nI (T.1 161 ((4 * p) + ((T.1 153 (11)) % 4))) from (rd_161 h_1 _ :)]
      have b11 : (T.1 161 ((4 * p) + ((T.1 153 (11)) % 4))) < 10 := hB 161 ((4 * p) + ((T.1 153 (11)) % 4))
      refine w_iadd (pc' := 145) rfl rfl ?_
      refine w_iret rfl rfl rfl ?_
      exact ⟨by simp [f_feel, e2], S_1⟩
set_option maxRecDepth 100000 in
set_option maxHeartbeats 4000000 in
theorem v_m_wayOf (xs : List Int32) {T : q_T} {m : am_Mm} (h : q_Rm T m) (hB : q_Bd T) (hO : q_Bo T) (hV : q_Bv T) (hh : T.1 153 11 < 20000) {p : Nat} (hp : p < 6) : am_V xs 5 150 [.ref 153, .int (nI p)] m (am_qi (nI (f_way T p)) (q_St m)) := by
  have S_0 : q_St m m := q_St.rf
  refine am_V_of ky_150 (Nat.le_of_ble_eq_true rfl) ?_
  show am_P xs 4 m_wayOf 0 [some (.ref 153), some (.int (nI p))] [] m _
  refine w_aload_n (pc' := 1) rfl rfl rfl rfl ?_
  refine w_iload_n (pc' := 2) rfl rfl rfl ?_
  refine w_cV1i (pc' := 5) (v_m_feel xs h hB hO hV hh (p := p) hp) (by decide) rfl rfl rfl (Nat.le_of_ble_eq_true rfl) sh_153 rfl (fun m1 hm' => ?_)
  have h_1 := hm'.Rm h
  have S_1 := S_0.tr hm'
  refine w_iconst (pc' := 6) 3 rfl rfl ic_3 ?_
  refine w_iand (pc' := 7) rfl rfl ?_
  rw [show f_feel T p &&& 3 = nI (f_way T p) from (nI_and3 _).1]
  refine w_iret rfl rfl rfl ?_
  exact ⟨rfl, S_1⟩
