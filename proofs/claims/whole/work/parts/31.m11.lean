def kno : List q_Cl → Nat → Nat
  | [], a => a
  | cl :: l, a => kno l (if cl.1 = 2 then cl.2.1 else a)
/-- the office that holds -/
def q_of (T : q_T) : List q_Cl := if T.1 153 19 = 0 then [] else T.2.1[T.1 153 19 - 1]?.getD []
def f_know (T : q_T) : Nat := kno (q_of T) 3
/-- the words and numbers of the offices are small, and the office that holds is there -/
def q_Bo (T : q_T) : Prop := T.1 153 19 ≤ T.2.1.length ∧ ∀ o, o ∈ T.2.1 → ∀ cl, cl ∈ o → cl.1 < 3 ∧ cl.2.1 < 100
set_option maxRecDepth 100000 in
set_option maxHeartbeats 4000000 in
theorem lp_know (xs : List Int32) {T : q_T} {m : am_Mm} (h : q_Rm T m) {j : Nat} {o : List q_Cl} (hj : j < 6) (h19 : T.1 153 19 = j + 1) (ho : T.2.1[j]? = some o) (hl : o.length ≤ 10) (hw : m.1 164 j = nI o.length) (hc : ∀ i cl, o[i]? = some cl → m.1 165 (10 * j + i) = nI cl.1 ∧ m.1 166 (10 * j + i) = nI cl.2.1) (hb : ∀ cl, cl ∈ o → cl.1 < 3) : ∀ (r k : Nat), k + r = o.length → ∀ (a : Nat), am_P xs 0 m_know 4 [some (.ref 153), some (.int (nI a)), some (.int (nI k))] [] m (am_qi (nI (kno (o.drop k) a)) (· = m)) := by
  intro r
  induction r with
  | zero =>
    intro k hk a
    refine w_aload_n (pc' := 5) rfl rfl rfl rfl ?_
    refine w_getI (pc' := 8) rfl rfl rfl sh_153 rfl ?_
    rw [show m.1 153 19 = nI j from (rf_19 h).trans (by rw [h19]; exact nI_pred j)]
    refine w_iconst (pc' := 9) (-1) rfl rfl ic_m1 ?_
    refine w_ic_eq (t := 64) (pc' := 12) rfl (by decide) rfl (fun h9 => ?_) (fun h9 => ?_)
    · exact absurd h9 (fun q => nI_pos (n := j) (by omega) (by rw [q]; decide))
    · refine w_iload_n (pc' := 13) rfl rfl rfl ?_
      refine w_aload_n (pc' := 14) rfl rfl rfl rfl ?_
      refine w_getC (pc' := 17) rfl rfl rfl sh_153 rfl ?_
      refine w_aload_n (pc' := 18) rfl rfl rfl rfl ?_
      refine w_getI (pc' := 21) rfl rfl rfl sh_153 rfl ?_
      rw [show m.1 153 19 = nI j from (rf_19 h).trans (by rw [h19]; exact nI_pred j)]
      refine w_iald (j := (j)) (pc' := 22) rfl rfl sh_164 rfl (by omega) (by decide) ?_
      rw [hw]
      refine w_ic_ge (t := 64) (pc' := 25) rfl (by decide) rfl (fun h22 => ?_) (fun h22 => ?_)
      · have g1 : o.length ≤ k := (nI_leI (a := o.length) (b := k) (by omega) (by omega)).mp h22
        refine w_iload_n (pc' := 65) rfl rfl rfl ?_
        refine w_iret rfl rfl rfl ?_
        rw [show o.drop k = [] from List.drop_eq_nil_of_le (by omega)]
        exact ⟨rfl, rfl⟩
      · have g2 : ¬ o.length ≤ k := fun q => h22 ((nI_leI (a := o.length) (b := k) (by omega) (by omega)).mpr q)
        omega
  | succ r ih =>
    intro k hk a
    refine w_aload_n (pc' := 5) rfl rfl rfl rfl ?_
    refine w_getI (pc' := 8) rfl rfl rfl sh_153 rfl ?_
    rw [show m.1 153 19 = nI j from (rf_19 h).trans (by rw [h19]; exact nI_pred j)]
    refine w_iconst (pc' := 9) (-1) rfl rfl ic_m1 ?_
    refine w_ic_eq (t := 64) (pc' := 12) rfl (by decide) rfl (fun h9 => ?_) (fun h9 => ?_)
    · exact absurd h9 (fun q => nI_pos (n := j) (by omega) (by rw [q]; decide))
    · refine w_iload_n (pc' := 13) rfl rfl rfl ?_
      refine w_aload_n (pc' := 14) rfl rfl rfl rfl ?_
      refine w_getC (pc' := 17) rfl rfl rfl sh_153 rfl ?_
      refine w_aload_n (pc' := 18) rfl rfl rfl rfl ?_
      refine w_getI (pc' := 21) rfl rfl rfl sh_153 rfl ?_
      rw [show m.1 153 19 = nI j from (rf_19 h).trans (by rw [h19]; exact nI_pred j)]
      refine w_iald (j := (j)) (pc' := 22) rfl rfl sh_164 rfl (by omega) (by decide) ?_
      rw [hw]
      refine w_ic_ge (t := 64) (pc' := 25) rfl (by decide) rfl (fun h22 => ?_) (fun h22 => ?_)
      · have g1 : o.length ≤ k := (nI_leI (a := o.length) (b := k) (by omega) (by omega)).mp h22
        omega
      · have g2 : ¬ o.length ≤ k := fun q => h22 ((nI_leI (a := o.length) (b := k) (by omega) (by omega)).mpr q)
        have hk2 : k < o.length := by omega
        obtain ⟨cl, hcl⟩ : ∃ cl, o[k]? = some cl := ⟨o[k], List.getElem?_eq_getElem hk2⟩
        have hb3 := hb cl (List.mem_of_getElem? hcl)
        have ed : o.drop k = cl :: o.drop (k + 1) := by
          rw [List.getElem?_eq_getElem hk2] at hcl
          rw [← Option.some.inj hcl]
          exact List.drop_eq_getElem_cons hk2
        refine id ?_
        · refine w_aload_n (pc' := 26) rfl rfl rfl rfl ?_
          refine w_getC (pc' := 29) rfl rfl rfl sh_153 rfl ?_
          refine w_bipush (pc' := 31) 10 rfl rfl bp_10 ?_
          refine w_aload_n (pc' := 32) rfl rfl rfl rfl ?_
          refine w_getI (pc' := 35) rfl rfl rfl sh_153 rfl ?_
          rw [show m.1 153 19 = nI j from (rf_19 h).trans (by rw [h19]; exact nI_pred j)]
          refine w_imul (pc' := 36) rfl rfl ?_
          rw [show (10 : Int32) * nI (j) = nI (10 * j) from nI_mul _ _]
          refine w_iload_n (pc' := 37) rfl rfl rfl ?_
          refine w_iadd (pc' := 38) rfl rfl ?_
          rw [show nI (10 * j) + nI (k) = nI ((10 * j) + k) from nI_add _ _]
          refine w_iald (j := ((10 * j) + k)) (pc' := 39) rfl rfl sh_165 rfl (by omega) (by decide) ?_
          rw [(hc k cl hcl).1]
          refine w_iconst (pc' := 40) 2 rfl rfl ic_2 ?_
          refine w_ic_ne (t := 58) (pc' := 43) rfl (by decide) rfl (fun h40 => ?_) (fun h40 => ?_)
          · have g2 : ¬ cl.1 = 2 := fun q => h40 ((nI_eq (a := cl.1) (b := 2) (by omega) (by omega)).mpr q)
            refine w_iinc2 (pc' := 61) 1 rfl rfl ic_1 rfl ?_
            rw [nI_inc]
            refine w_goto (pc' := 4) rfl (by decide) ?_
            rw [ed, show kno (cl :: o.drop (k + 1)) a = kno (o.drop (k + 1)) (if cl.1 = 2 then cl.2.1 else a) from rfl, if_neg g2]
            exact ih (k + 1) (by omega) _
          · have g2 : cl.1 = 2 := (nI_eq (a := cl.1) (b := 2) (by omega) (by omega)).mp h40
            refine w_aload_n (pc' := 44) rfl rfl rfl rfl ?_
            refine w_getC (pc' := 47) rfl rfl rfl sh_153 rfl ?_
            refine w_bipush (pc' := 49) 10 rfl rfl bp_10 ?_
            refine w_aload_n (pc' := 50) rfl rfl rfl rfl ?_
            refine w_getI (pc' := 53) rfl rfl rfl sh_153 rfl ?_
            rw [show m.1 153 19 = nI j from (rf_19 h).trans (by rw [h19]; exact nI_pred j)]
            refine w_imul (pc' := 54) rfl rfl ?_
            rw [show (10 : Int32) * nI (j) = nI (10 * j) from nI_mul _ _]
            refine w_iload_n (pc' := 55) rfl rfl rfl ?_
            refine w_iadd (pc' := 56) rfl rfl ?_
            rw [show nI (10 * j) + nI (k) = nI ((10 * j) + k) from nI_add _ _]
            refine w_iald (j := ((10 * j) + k)) (pc' := 57) rfl rfl sh_166 rfl (by omega) (by decide) ?_
            rw [(hc k cl hcl).2]
            refine w_ist1 (pc' := 58) rfl rfl rfl ?_
            refine w_iinc2 (pc' := 61) 1 rfl rfl ic_1 rfl ?_
            rw [nI_inc]
            refine w_goto (pc' := 4) rfl (by decide) ?_
            rw [ed, show kno (cl :: o.drop (k + 1)) a = kno (o.drop (k + 1)) (if cl.1 = 2 then cl.2.1 else a) from rfl, if_pos g2]
            exact ih (k + 1) (by omega) _
set_option maxRecDepth 100000 in
set_option maxHeartbeats 4000000 in
theorem v_know0 (xs : List Int32) {T : q_T} {m : am_Mm} (h : q_Rm T m) (h0 : T.1 153 19 = 0) : am_V xs 1 158 [.ref 153] m (am_qi (nI (f_know T)) (· = m)) := by
  refine am_V_of ky_158 (Nat.le_of_ble_eq_true rfl) ?_
  show am_P xs 0 m_know 0 [some (.ref 153), none, none] [] m _
  refine w_iconst (pc' := 1) 3 rfl rfl ic_3 ?_
  refine w_ist1 (pc' := 2) rfl rfl rfl ?_
  refine w_iconst (pc' := 3) 0 rfl rfl ic_0 ?_
  refine w_ist2 (pc' := 4) rfl rfl rfl ?_
  refine w_aload_n (pc' := 5) rfl rfl rfl rfl ?_
  refine w_getI (pc' := 8) rfl rfl rfl sh_153 rfl ?_
  rw [show m.1 153 19 = nI 0 - 1 from (rf_19 h).trans (by rw [h0])]
  refine w_iconst (pc' := 9) (-1) rfl rfl ic_m1 ?_
  refine w_ic_eq (t := 64) (pc' := 12) rfl (by decide) rfl (fun h9 => ?_) (fun h9 => ?_)
  · have g1 : 0 = 0 := (nI_pp (a := 0) (b := 0) (by omega) (by omega)).mp h9
    refine w_iload_n (pc' := 65) rfl rfl rfl ?_
    refine w_iret rfl rfl rfl ?_
    rw [show f_know T = 3 by simp [f_know, q_of, h0, kno]]
    exact ⟨rfl, rfl⟩
  · have g2 : ¬ 0 = 0 := fun q => h9 ((nI_pp (a := 0) (b := 0) (by omega) (by omega)).mpr q)
    omega
set_option maxRecDepth 100000 in
set_option maxHeartbeats 4000000 in
theorem v_know1 (xs : List Int32) {T : q_T} {m : am_Mm} (h : q_Rm T m) {j : Nat} {o : List q_Cl} (hj : j < 6) (h19 : T.1 153 19 = j + 1) (ho : T.2.1[j]? = some o) (hl : o.length ≤ 10) (hw : m.1 164 j = nI o.length) (hc : ∀ i cl, o[i]? = some cl → m.1 165 (10 * j + i) = nI cl.1 ∧ m.1 166 (10 * j + i) = nI cl.2.1) (hb : ∀ cl, cl ∈ o → cl.1 < 3) : am_V xs 1 158 [.ref 153] m (am_qi (nI (kno o 3)) (· = m)) := by
  refine am_V_of ky_158 (Nat.le_of_ble_eq_true rfl) ?_
  show am_P xs 0 m_know 0 [some (.ref 153), none, none] [] m _
  refine w_iconst (pc' := 1) 3 rfl rfl ic_3 ?_
  refine w_ist1 (pc' := 2) rfl rfl rfl ?_
  refine w_iconst (pc' := 3) 0 rfl rfl ic_0 ?_
  refine w_ist2 (pc' := 4) rfl rfl rfl ?_
  have e0 := lp_know xs h hj h19 ho hl hw hc hb o.length 0 (by omega) 3
  rw [List.drop_zero] at e0
  exact e0
theorem v_m_know (xs : List Int32) {T : q_T} {m : am_Mm} (h : q_Rm T m) (hB : q_Bd T) (hO : q_Bo T) : am_V xs 1 158 [.ref 153] m (am_qi (nI (f_know T)) (· = m)) := by
  by_cases h0 : T.1 153 19 = 0
  · exact v_know0 xs h h0
  · obtain ⟨j, h19⟩ : ∃ j, T.1 153 19 = j + 1 := ⟨T.1 153 19 - 1, by omega⟩
    have b19 : T.1 153 19 < 7 := hB 153 19
    have hjl : j < T.2.1.length := by
      have := hO.1
      omega
    have ho : T.2.1[j]? = some T.2.1[j] := List.getElem?_eq_getElem hjl
    obtain ⟨-, -, cd, -, -, hall⟩ := h.2.1
    obtain ⟨hl, hw, hc⟩ := hall j _ ho
    have := v_know1 xs h (by omega) h19 ho hl hw (fun i cl q => ⟨(hc i cl q).1, (hc i cl q).2.1⟩) (fun cl q => (hO.2 _ (List.mem_of_getElem? ho) cl q).1)
    rwa [show kno T.2.1[j] 3 = f_know T by
      unfold f_know q_of
      rw [if_neg h0, h19, Nat.add_sub_cancel, ho]
      rfl] at this
