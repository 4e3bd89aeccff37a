/-- nothing but a Land's row of answers changes -/
def q_F4 (b : Nat) (m m' : am_Mm) : Prop := (∀ c, c ≠ b + 4 → m'.1 c = m.1 c) ∧ m'.2 = m.2
theorem q_F4.rf {b : Nat} {m : am_Mm} : q_F4 b m m := ⟨fun _ _ => rfl, rfl⟩
theorem q_F4.u {b k : Nat} {m m' : am_Mm} {x : Int32} (h : q_F4 b m m') : q_F4 b m (am_u m' (b + 4) k x) := ⟨fun c hc => (am_u_nc hc).trans (h.1 c hc), h.2⟩
theorem q_F4.Fl {b : Nat} {m m' : am_Mm} (h : q_F4 b m m') : q_Fl b m m' := ⟨fun c hc => h.1 c (by omega), h.2⟩
theorem q_Rl.f4 {b : Nat} {T : q_T} {m m' : am_Mm} (h : q_Rl b T m) (hf : q_F4 b m m') (h0 : T.1 153 0 ≤ 6) : q_Rl b T m' := h.eq (fun c _ _ c3 => hf.1 c (fun q => c3 (by unfold q_jL; omega))) (fun _ _ _ => rfl) h0
set_option maxRecDepth 100000 in
set_option maxHeartbeats 4000000 in
theorem v_la_know (xs : List Int32) {b : Nat} (hb : q_isL b) {T : q_T} {m : am_Mm} (hR : q_Rl b T m) (hB : q_Bd T) (hO : q_Bo T) (hRo : q_Ro T m) (hl6 : T.2.1.length ≤ 6) : am_V xs 1 45 [.ref b] m (am_qi (nI (f_know T)) (· = m)) := by
  have hb1 := q_isL_lt hb
  have hn0 : T.1 153 0 < 7 := hB 153 0
  refine am_V_of ky_45 (Nat.le_of_ble_eq_true rfl) ?_
  show am_P xs 0 la_know 0 [some (.ref b)] [] m _
  rcases (show T.1 153 19 = 0 ∨ ∃ j, T.1 153 19 = j + 1 from by
    by_cases z : T.1 153 19 = 0
    · exact Or.inl z
    · exact Or.inr ⟨T.1 153 19 - 1, by omega⟩) with h0 | ⟨j, h19⟩
  · skip
    refine w_aload_n (pc' := 1) rfl rfl rfl rfl ?_
    refine w_getM (pc' := 4) rfl rfl rfl (shL hb) rfl ?_
    rw [show m.1 b 3 = -1 from hR.2.2.2.1.trans (if_pos h0), show am_dec (-1) = .null from rfl]
    refine w_ifnonnullN (pc' := 7) rfl rfl ?_
    refine w_iconst (pc' := 8) 3 rfl rfl ic_3 ?_
    refine w_goto (pc' := 18) rfl (by decide) ?_
    refine w_iret rfl rfl rfl ?_
    rw [show f_know T = 3 by unfold f_know q_of; rw [if_pos h0]; rfl]
    exact ⟨rfl, rfl⟩
  · have hj7 : j < T.2.1.length := by have := hO.1; omega
    obtain ⟨o, ho⟩ : ∃ o, T.2.1[j]? = some o := ⟨T.2.1[j], List.getElem?_eq_getElem hj7⟩
    have hqo : q_of T = o := by
      unfold q_of
      rw [if_neg (by omega), h19, Nat.add_sub_cancel, ho]
      rfl
    obtain ⟨o1, o2, o3, o4⟩ := hRo j o ho
    refine w_aload_n (pc' := 1) rfl rfl rfl rfl ?_
    refine w_getM (pc' := 4) rfl rfl rfl (shL hb) rfl ?_
    rw [show m.1 b 3 = nI (123 + 3 * j) from hR.2.2.2.1.trans ((if_neg (by omega)).trans (congrArg nI (by omega))), am_dec_n (by omega)]
    refine w_ifnonnullR (pc' := 11) rfl (by decide) (by omega) ?_
    refine w_aload_n (pc' := 12) rfl rfl rfl rfl ?_
    refine w_getM (pc' := 15) rfl rfl rfl (shL hb) rfl ?_
    rw [show m.1 b 3 = nI (123 + 3 * j) from hR.2.2.2.1.trans ((if_neg (by omega)).trans (congrArg nI (by omega))), am_dec_n (by omega)]
    refine w_getI (pc' := 18) rfl rfl rfl (shO (j := j) (by omega)) rfl ?_
    rw [o1]
    refine w_iret rfl rfl rfl ?_
    rw [show f_know T = kno o 3 by unfold f_know; rw [hqo]]
    exact ⟨rfl, rfl⟩
set_option maxRecDepth 100000 in
set_option maxHeartbeats 4000000 in
theorem v_la_answersOf (xs : List Int32) {b : Nat} (hb : q_isL b) {T : q_T} {m : am_Mm} (hR : q_Rl b T m) (hB : q_Bd T) (hh : T.1 153 11 < 20000) {p : Nat} (hp : p < T.1 153 0) : am_V xs 2 18 [.ref b, .ref (b + 6 + 4 * p)] m (am_qa (.ref (b + 4)) (fun m' => q_Rl b T m' ∧ (q_F4 b m m' ∧ ∀ i, i < 6 → m'.1 (b + 4) i = nI (f_let T p i)))) := by
  have hb1 := q_isL_lt hb
  have hn0 : T.1 153 0 < 7 := hB 153 0
  refine am_V_of ky_18 (Nat.le_of_ble_eq_true rfl) ?_
  show am_P xs 1 la_answersOf 0 [some (.ref b), some (.ref (b + 6 + 4 * p))] [] m _
  refine w_aload_n (pc' := 1) rfl rfl rfl rfl ?_
  refine w_getC (pc' := 4) rfl rfl rfl (shL hb) rfl ?_
  refine w_iconst (pc' := 5) 0 rfl rfl ic_0 ?_
  refine w_aload_n (pc' := 6) rfl rfl rfl rfl ?_
  refine w_getC (pc' := 9) rfl rfl rfl (shD hb (p := p) (by omega)) rfl ?_
  refine w_iast (j := (0)) (pc' := 10) rfl rfl (shLa hb) rfl (by omega) (by decide) ?_
  refine w_any (fun q => q_Rl b T q ∧ (q_F4 b m q ∧ ∀ i, i < 1 → q.1 (b + 4) i = nI (f_let T p i))) ⟨hR.jk (by omega) (by omega), q_F4.rf.u, q_an (F := f_let T p) (fun i hi => absurd hi (Nat.not_lt_zero i)) rfl⟩ (fun m1 hm1 => ?_)
  obtain ⟨hR_1, hF_1, hA_1⟩ := hm1
  refine w_aload_n (pc' := 11) rfl rfl rfl rfl ?_
  refine w_getC (pc' := 14) rfl rfl rfl (shL hb) rfl ?_
  refine w_iconst (pc' := 15) 1 rfl rfl ic_1 ?_
  refine w_aload_n (pc' := 16) rfl rfl rfl rfl ?_
  refine w_getI (pc' := 19) rfl rfl rfl (shD hb (p := p) (by omega)) rfl ?_
  have b1 : T.1 154 p < 7 := hB 154 (p)
  rw [show m1.1 (b + 6 + 4 * p) 1 = nI (T.1 154 p) from (hR_1.2.2.2.2.2 p (by omega)).1]
  refine w_iast (j := (1)) (pc' := 20) rfl rfl (shLa hb) rfl (by omega) (by decide) ?_
  refine w_any (fun q => q_Rl b T q ∧ (q_F4 b m q ∧ ∀ i, i < 2 → q.1 (b + 4) i = nI (f_let T p i))) ⟨hR_1.jk (by omega) (by omega), hF_1.u, q_an (F := f_let T p) hA_1 rfl⟩ (fun m2 hm2 => ?_)
  obtain ⟨hR_2, hF_2, hA_2⟩ := hm2
  refine w_aload_n (pc' := 21) rfl rfl rfl rfl ?_
  refine w_getC (pc' := 24) rfl rfl rfl (shL hb) rfl ?_
  refine w_iconst (pc' := 25) 2 rfl rfl ic_2 ?_
  refine w_aload_n (pc' := 26) rfl rfl rfl rfl ?_
  refine w_getI (pc' := 29) rfl rfl rfl (shD hb (p := p) (by omega)) rfl ?_
  have b2 : T.1 155 p < 10 := hB 155 (p)
  rw [show m2.1 (b + 6 + 4 * p) 2 = nI (T.1 155 p) from (hR_2.2.2.2.2.2 p (by omega)).2.1]
  refine w_iast (j := (2)) (pc' := 30) rfl rfl (shLa hb) rfl (by omega) (by decide) ?_
  refine w_any (fun q => q_Rl b T q ∧ (q_F4 b m q ∧ ∀ i, i < 3 → q.1 (b + 4) i = nI (f_let T p i))) ⟨hR_2.jk (by omega) (by omega), hF_2.u, q_an (F := f_let T p) hA_2 rfl⟩ (fun m3 hm3 => ?_)
  obtain ⟨hR_3, hF_3, hA_3⟩ := hm3
  refine w_aload_n (pc' := 31) rfl rfl rfl rfl ?_
  refine w_getC (pc' := 34) rfl rfl rfl (shL hb) rfl ?_
  refine w_iconst (pc' := 35) 3 rfl rfl ic_3 ?_
  refine w_aload_n (pc' := 36) rfl rfl rfl rfl ?_
  refine w_aload_n (pc' := 37) rfl rfl rfl rfl ?_
  refine w_getI (pc' := 40) rfl rfl rfl (shD hb (p := p) (by omega)) rfl ?_
  have b3 : T.1 156 p < 16 := hB 156 (p)
  rw [show m3.1 (b + 6 + 4 * p) 3 = nI (T.1 156 p) from (hR_3.2.2.2.2.2 p (by omega)).2.2.1]
  refine w_cV1i (pc' := 43) (v_la_markAt xs hb hR_3 (i := (T.1 156 p)) (by omega)) (by decide) rfl rfl rfl (Nat.le_of_ble_eq_true rfl) (shL hb) rfl (fun m' hm' => ?_)
  rw [show m' = m3 from hm']
  clear hm' m'
  have bm40 : T.1 162 (T.1 156 p) < 8 := hB 162 _
  refine w_iast (j := (3)) (pc' := 44) rfl rfl (shLa hb) rfl (by omega) (by decide) ?_
  refine w_any (fun q => q_Rl b T q ∧ (q_F4 b m q ∧ ∀ i, i < 4 → q.1 (b + 4) i = nI (f_let T p i))) ⟨hR_3.jk (by omega) (by omega), hF_3.u, q_an (F := f_let T p) hA_3 rfl⟩ (fun m4 hm4 => ?_)
  obtain ⟨hR_4, hF_4, hA_4⟩ := hm4
  refine w_aload_n (pc' := 45) rfl rfl rfl rfl ?_
  refine w_getC (pc' := 48) rfl rfl rfl (shL hb) rfl ?_
  refine w_iconst (pc' := 49) 4 rfl rfl ic_4 ?_
  refine w_aload_n (pc' := 50) rfl rfl rfl rfl ?_
  refine w_getI (pc' := 53) rfl rfl rfl (shD hb (p := p) (by omega)) rfl ?_
  have b4 : T.1 157 p < 9 := hB 157 (p)
  rw [show m4.1 (b + 6 + 4 * p) 4 = nI (T.1 157 p) from (hR_4.2.2.2.2.2 p (by omega)).2.2.2.1]
  refine w_iast (j := (4)) (pc' := 54) rfl rfl (shLa hb) rfl (by omega) (by decide) ?_
  refine w_any (fun q => q_Rl b T q ∧ (q_F4 b m q ∧ ∀ i, i < 5 → q.1 (b + 4) i = nI (f_let T p i))) ⟨hR_4.jk (by omega) (by omega), hF_4.u, q_an (F := f_let T p) hA_4 rfl⟩ (fun m5 hm5 => ?_)
  obtain ⟨hR_5, hF_5, hA_5⟩ := hm5
  refine w_aload_n (pc' := 55) rfl rfl rfl rfl ?_
  refine w_getC (pc' := 58) rfl rfl rfl (shL hb) rfl ?_
  refine w_iconst (pc' := 59) 5 rfl rfl ic_5 ?_
  refine w_aload_n (pc' := 60) rfl rfl rfl rfl ?_
  refine w_getI (pc' := 63) rfl rfl rfl (shL hb) rfl ?_
  rw [show m5.1 b 2 = nI (T.1 153 11) from hR_5.2.2.1]
  refine w_bipush (pc' := 65) 10 rfl rfl bp_10 ?_
  refine w_irem (pc' := 66) rfl rfl (by decide) ?_
  rw [show nI ((T.1 153 11)) - nI ((T.1 153 11)) / (10 : Int32) * (10 : Int32) = nI ((T.1 153 11) % 10) from nI_remI (a := (T.1 153 11)) (c := 10) (by omega) (by omega) (by omega)]
  refine w_iast (j := (5)) (pc' := 67) rfl rfl (shLa hb) rfl (by omega) (by decide) ?_
  refine w_any (fun q => q_Rl b T q ∧ (q_F4 b m q ∧ ∀ i, i < 6 → q.1 (b + 4) i = nI (f_let T p i))) ⟨hR_5.jk (by omega) (by omega), hF_5.u, q_an (F := f_let T p) hA_5 rfl⟩ (fun m6 hm6 => ?_)
  obtain ⟨hR_6, hF_6, hA_6⟩ := hm6
  refine w_aload_n (pc' := 68) rfl rfl rfl rfl ?_
  refine w_getC (pc' := 71) rfl rfl rfl (shL hb) rfl ?_
  refine w_aret rfl (by first | exact Or.inl ⟨_, rfl⟩ | exact Or.inr ⟨_, rfl⟩) rfl ?_
  exact ⟨rfl, hR_6, hF_6, hA_6⟩
set_option maxRecDepth 100000 in
set_option maxHeartbeats 4000000 in
theorem v_of_holds (xs : List Int32) {b : Nat} (hb : q_isL b) {m : am_Mm} {F : Nat → Nat} (hA : ∀ i, i < 6 → m.1 (b + 4) i = nI (F i)) (hF : ∀ i, F i < 20000) {s n : Nat} (hs : s < 18) (hn : n < 100) : am_V xs 1 21 [.ref (b + 4), .int (nI s), .int (nI n)] m (am_qi (bB (q_hd (F (s / 3)) (s % 3) n)) (· = m)) := by
  have hF3 := hF (s / 3)
  refine am_V_of ky_21 (Nat.le_of_ble_eq_true rfl) ?_
  show am_P xs 0 of_holds 0 [some (.ref (b + 4)), some (.int (nI s)), some (.int (nI n)), none, none, none] [] m _
  refine w_iload_n (pc' := 1) rfl rfl rfl ?_
  refine w_iconst (pc' := 2) 3 rfl rfl ic_3 ?_
  refine w_idiv (pc' := 3) rfl rfl (by decide) ?_
  rw [show nI (s) / (3 : Int32) = nI (s / 3) from nI_divI (a := s) (c := 3) (by omega) (by omega) (by omega)]
  refine w_ist3 (pc' := 4) rfl rfl rfl ?_
  refine w_iload_n (pc' := 5) rfl rfl rfl ?_
  refine w_if_lt (t := 20) (pc' := 8) rfl (by decide) rfl (fun h5 => ?_) (fun h5 => ?_)
  · have g1 : (s / 3) < 0 := (nI_ltI (a := (s / 3)) (b := 0) (by omega) (by omega)).mp h5
    omega
  · have g2 : ¬ (s / 3) < 0 := fun q => h5 ((nI_ltI (a := (s / 3)) (b := 0) (by omega) (by omega)).mpr q)
    refine w_iload_n (pc' := 9) rfl rfl rfl ?_
    refine w_bipush (pc' := 11) 6 rfl rfl bp_6 ?_
    refine w_ic_ge (t := 20) (pc' := 14) rfl (by decide) rfl (fun h11 => ?_) (fun h11 => ?_)
    · have g3 : 6 ≤ (s / 3) := (nI_leI (a := 6) (b := (s / 3)) (by omega) (by omega)).mp h11
      omega
    · have g4 : ¬ 6 ≤ (s / 3) := fun q => h11 ((nI_leI (a := 6) (b := (s / 3)) (by omega) (by omega)).mpr q)
      refine w_iload_n (pc' := 15) rfl rfl rfl ?_
      refine w_aload_n (pc' := 16) rfl rfl rfl rfl ?_
      refine w_alen (pc' := 17) rfl rfl (shLa hb) (by decide) rfl ?_
      rw [show (nI 6 : Int32) = 6 from rfl]
      refine w_ic_lt (t := 22) (pc' := 20) rfl (by decide) rfl (fun h17 => ?_) (fun h17 => ?_)
      · have g5 : (s / 3) < 6 := (nI_ltI (a := (s / 3)) (b := 6) (by omega) (by omega)).mp h17
        refine w_aload_n (pc' := 23) rfl rfl rfl rfl ?_
        refine w_iload_n (pc' := 24) rfl rfl rfl ?_
        refine w_iald (j := ((s / 3))) (pc' := 25) rfl rfl (shLa hb) rfl (by omega) (by decide) ?_
        rw [hA (s / 3) (by omega)]
        refine w_ist4 (pc' := 27) rfl rfl rfl ?_
        refine w_iload (pc' := 29) rfl rfl rfl ?_
        refine w_iload_n (pc' := 30) rfl rfl rfl ?_
        refine w_ic_ge (t := 37) (pc' := 33) rfl (by decide) rfl (fun h30 => ?_) (fun h30 => ?_)
        · have g6 : n ≤ (F (s / 3)) := (nI_leI (a := n) (b := (F (s / 3))) (by omega) (by omega)).mp h30
          refine w_iload (pc' := 39) rfl rfl rfl ?_
          refine w_iload_n (pc' := 40) rfl rfl rfl ?_
          refine w_ic_ne (t := 47) (pc' := 43) rfl (by decide) rfl (fun h40 => ?_) (fun h40 => ?_)
          · have g7 : ¬ (F (s / 3)) = n := fun q => h40 ((nI_eq (a := (F (s / 3))) (b := n) (by omega) (by omega)).mpr q)
            refine w_iconst (pc' := 48) 2 rfl rfl ic_2 ?_
            refine w_ist5 (pc' := 50) rfl rfl rfl ?_
            refine w_iload_n (pc' := 51) rfl rfl rfl ?_
            refine w_iconst (pc' := 52) 3 rfl rfl ic_3 ?_
            refine w_irem (pc' := 53) rfl rfl (by decide) ?_
            rw [show nI (s) - nI (s) / (3 : Int32) * (3 : Int32) = nI (s % 3) from nI_remI (a := s) (c := 3) (by omega) (by omega) (by omega)]
            refine w_iload (pc' := 55) rfl rfl rfl ?_
            refine w_ic_ne (t := 62) (pc' := 58) rfl (by decide) rfl (fun h55 => ?_) (fun h55 => ?_)
            · have g8 : ¬ (s % 3) = 2 := fun q => h55 ((nI_eq (a := (s % 3)) (b := 2) (by omega) (by omega)).mpr q)
              refine w_iconst (pc' := 63) 0 rfl rfl ic_0 ?_
              refine w_iret rfl rfl rfl ?_
              have e9 : q_hd (F (s / 3)) (s % 3) n = false := by
                unfold q_hd
                repeat' split
                all_goals first | (exact decide_eq_false (by omega)) | omega
              rw [e9]
              exact ⟨rfl, rfl⟩
            · have g9 : (s % 3) = 2 := (nI_eq (a := (s % 3)) (b := 2) (by omega) (by omega)).mp h55
              refine w_iconst (pc' := 59) 1 rfl rfl ic_1 ?_
              refine w_goto (pc' := 63) rfl (by decide) ?_
              refine w_iret rfl rfl rfl ?_
              have e9 : q_hd (F (s / 3)) (s % 3) n = true := by
                unfold q_hd
                repeat' split
                all_goals first | (exact decide_eq_true (by omega)) | omega
              rw [e9]
              exact ⟨rfl, rfl⟩
          · have g10 : (F (s / 3)) = n := (nI_eq (a := (F (s / 3))) (b := n) (by omega) (by omega)).mp h40
            refine w_iconst (pc' := 44) 1 rfl rfl ic_1 ?_
            refine w_goto (pc' := 48) rfl (by decide) ?_
            refine w_ist5 (pc' := 50) rfl rfl rfl ?_
            refine w_iload_n (pc' := 51) rfl rfl rfl ?_
            refine w_iconst (pc' := 52) 3 rfl rfl ic_3 ?_
            refine w_irem (pc' := 53) rfl rfl (by decide) ?_
            rw [show nI (s) - nI (s) / (3 : Int32) * (3 : Int32) = nI (s % 3) from nI_remI (a := s) (c := 3) (by omega) (by omega) (by omega)]
            refine w_iload (pc' := 55) rfl rfl rfl ?_
            refine w_ic_ne (t := 62) (pc' := 58) rfl (by decide) rfl (fun h55 => ?_) (fun h55 => ?_)
            · have g11 : ¬ (s % 3) = 1 := fun q => h55 ((nI_eq (a := (s % 3)) (b := 1) (by omega) (by omega)).mpr q)
              refine w_iconst (pc' := 63) 0 rfl rfl ic_0 ?_
              refine w_iret rfl rfl rfl ?_
              have e9 : q_hd (F (s / 3)) (s % 3) n = false := by
                unfold q_hd
                repeat' split
                all_goals first | (exact decide_eq_false (by omega)) | omega
              rw [e9]
              exact ⟨rfl, rfl⟩
            · have g12 : (s % 3) = 1 := (nI_eq (a := (s % 3)) (b := 1) (by omega) (by omega)).mp h55
              refine w_iconst (pc' := 59) 1 rfl rfl ic_1 ?_
              refine w_goto (pc' := 63) rfl (by decide) ?_
              refine w_iret rfl rfl rfl ?_
              have e9 : q_hd (F (s / 3)) (s % 3) n = true := by
                unfold q_hd
                repeat' split
                all_goals first | (exact decide_eq_true (by omega)) | omega
              rw [e9]
              exact ⟨rfl, rfl⟩
        · have g13 : ¬ n ≤ (F (s / 3)) := fun q => h30 ((nI_leI (a := n) (b := (F (s / 3))) (by omega) (by omega)).mpr q)
          refine w_iconst (pc' := 34) 0 rfl rfl ic_0 ?_
          refine w_goto (pc' := 48) rfl (by decide) ?_
          refine w_ist5 (pc' := 50) rfl rfl rfl ?_
          refine w_iload_n (pc' := 51) rfl rfl rfl ?_
          refine w_iconst (pc' := 52) 3 rfl rfl ic_3 ?_
          refine w_irem (pc' := 53) rfl rfl (by decide) ?_
          rw [show nI (s) - nI (s) / (3 : Int32) * (3 : Int32) = nI (s % 3) from nI_remI (a := s) (c := 3) (by omega) (by omega) (by omega)]
          refine w_iload (pc' := 55) rfl rfl rfl ?_
          refine w_ic_ne (t := 62) (pc' := 58) rfl (by decide) rfl (fun h55 => ?_) (fun h55 => ?_)
          · have g14 : ¬ (s % 3) = 0 := fun q => h55 ((nI_eq (a := (s % 3)) (b := 0) (by omega) (by omega)).mpr q)
            refine w_iconst (pc' := 63) 0 rfl rfl ic_0 ?_
            refine w_iret rfl rfl rfl ?_
            have e9 : q_hd (F (s / 3)) (s % 3) n = false := by
              unfold q_hd
              repeat' split
              all_goals first | (exact decide_eq_false (by omega)) | omega
            rw [e9]
            exact ⟨rfl, rfl⟩
          · have g15 : (s % 3) = 0 := (nI_eq (a := (s % 3)) (b := 0) (by omega) (by omega)).mp h55
            refine w_iconst (pc' := 59) 1 rfl rfl ic_1 ?_
            refine w_goto (pc' := 63) rfl (by decide) ?_
            refine w_iret rfl rfl rfl ?_
            have e9 : q_hd (F (s / 3)) (s % 3) n = true := by
              unfold q_hd
              repeat' split
              all_goals first | (exact decide_eq_true (by omega)) | omega
            rw [e9]
            exact ⟨rfl, rfl⟩
      · have g16 : ¬ (s / 3) < 6 := fun q => h17 ((nI_ltI (a := (s / 3)) (b := 6) (by omega) (by omega)).mpr q)
        omega
set_option maxRecDepth 100000 in
set_option maxHeartbeats 4000000 in
theorem lp_turnsBy (xs : List Int32) {b : Nat} (hb : q_isL b) {m : am_Mm} {j : Nat} (hj : j < 6) {ss : List (Nat × Nat)} {F : Nat → Nat} (hA : ∀ i, i < 6 → m.1 (b + 4) i = nI (F i)) (hF : ∀ i, F i < 20000) (o2 : m.1 (123 + 3 * j) 3 = nI ss.length) (o3 : ss.length ≤ 100) (o4 : ∀ i s, ss[i]? = some s → m.1 (123 + 3 * j + 1) i = nI s.1 ∧ m.1 (123 + 3 * j + 2) i = nI s.2) : ∀ (r k : Nat), k + r = ss.length → ∀ (a x : Int32) (t : Nat) (S : Nat → Bool), q_tr x t S → vls (ss.drop k) t = true → ∀ (l5 l6 : Option Value), am_P xs 2 of_turnsBy 7 [some (.ref (123 + 3 * j)), some (.ref (b + 4)), some (.int a), some (.int x), some (.int (nI k)), l5, l6] [] m (am_qi (tb F (ss.drop k) a t S) (· = m)) := by
  intro r
  induction r with
  | zero =>
    intro k hk a x t S hx hv l5 l6
    refine w_iload (pc' := 9) rfl rfl rfl ?_
    refine w_aload_n (pc' := 10) rfl rfl rfl rfl ?_
    refine w_getI (pc' := 13) rfl rfl rfl (shO (j := j) (by omega)) rfl ?_
    rw [o2]
    refine w_ic_ge (t := 165) (pc' := 16) rfl (by decide) rfl (fun h13 => ?_) (fun h13 => ?_)
    · have g1 : ss.length ≤ k := (nI_leI (a := ss.length) (b := k) (by omega) (by omega)).mp h13
      refine w_iload_n (pc' := 166) rfl rfl rfl ?_
      refine w_iret rfl rfl rfl ?_
      rw [show ss.drop k = [] from List.drop_eq_nil_of_le (by omega)]
      exact ⟨rfl, rfl⟩
    · have g2 : ¬ ss.length ≤ k := fun q => h13 ((nI_leI (a := ss.length) (b := k) (by omega) (by omega)).mpr q)
      omega
  | succ r ih =>
    intro k hk a x t S hx hv l5 l6
    refine w_iload (pc' := 9) rfl rfl rfl ?_
    refine w_aload_n (pc' := 10) rfl rfl rfl rfl ?_
    refine w_getI (pc' := 13) rfl rfl rfl (shO (j := j) (by omega)) rfl ?_
    rw [o2]
    refine w_ic_ge (t := 165) (pc' := 16) rfl (by decide) rfl (fun h13 => ?_) (fun h13 => ?_)
    · have g1 : ss.length ≤ k := (nI_leI (a := ss.length) (b := k) (by omega) (by omega)).mp h13
      omega
    · have g2 : ¬ ss.length ≤ k := fun q => h13 ((nI_leI (a := ss.length) (b := k) (by omega) (by omega)).mpr q)
      refine w_iload (pc' := 18) rfl rfl rfl ?_
      refine w_bipush (pc' := 20) 100 rfl rfl bp_100 ?_
      refine w_ic_ge (t := 165) (pc' := 23) rfl (by decide) rfl (fun h20 => ?_) (fun h20 => ?_)
      · have g3 : 100 ≤ k := (nI_leI (a := 100) (b := k) (by omega) (by omega)).mp h20
        omega
      · have g4 : ¬ 100 ≤ k := fun q => h20 ((nI_leI (a := 100) (b := k) (by omega) (by omega)).mpr q)
        have hk2 : k < ss.length := by omega
        obtain ⟨s, hs⟩ : ∃ s, ss[k]? = some s := ⟨ss[k], List.getElem?_eq_getElem hk2⟩
        have ed : ss.drop k = s :: ss.drop (k + 1) := by
          rw [List.getElem?_eq_getElem hk2] at hs
          rw [← Option.some.inj hs]
          exact List.drop_eq_getElem_cons hk2
        obtain ⟨s1, s2⟩ := o4 k s hs
        rw [ed, vls] at hv
        obtain ⟨hv0, hv⟩ := (Bool.and_eq_true _ _).mp hv
        have hv0 := of_decide_eq_true hv0
        refine id ?_
        · refine w_aload_n (pc' := 24) rfl rfl rfl rfl ?_
          refine w_getC (pc' := 27) rfl rfl rfl (shO (j := j) (by omega)) rfl ?_
          refine w_iload (pc' := 29) rfl rfl rfl ?_
          refine w_iald (j := (k)) (pc' := 30) rfl rfl (shOs (j := j) (by omega)) rfl (by omega) (by decide) ?_
          rw [s1]
          refine w_ist5 (pc' := 32) rfl rfl rfl ?_
          refine w_iload_n (pc' := 33) rfl rfl rfl ?_
          refine w_iconst (pc' := 34) 1 rfl rfl ic_1 ?_
          refine w_iand (pc' := 35) rfl rfl ?_
          refine w_ist6 (pc' := 37) rfl rfl rfl ?_
          refine w_iload (pc' := 39) rfl rfl rfl ?_
          refine w_tsw (t := 141) rfl rfl (fun hD => ?_) (fun z hl hh hz => ?_)
          · rw [nI_toInt (by omega)] at hD
            have es : s.1 < 18 := by omega
            rw [if_pos es] at hv
            obtain ⟨ht3, hv⟩ := (Bool.and_eq_true _ _).mp hv
            have ht3 := of_decide_eq_true ht3
            refine w_iload_n (pc' := 142) rfl rfl rfl ?_
            refine w_iconst (pc' := 143) 1 rfl rfl ic_1 ?_
            refine w_ishl (pc' := 144) rfl rfl ?_
            refine w_aload_n (pc' := 145) rfl rfl rfl rfl ?_
            refine w_iload (pc' := 147) rfl rfl rfl ?_
            refine w_aload_n (pc' := 148) rfl rfl rfl rfl ?_
            refine w_getC (pc' := 151) rfl rfl rfl (shO (j := j) (by omega)) rfl ?_
            refine w_iload (pc' := 153) rfl rfl rfl ?_
            refine w_iald (j := (k)) (pc' := 154) rfl rfl (shOn (j := j) (by omega)) rfl (by omega) (by decide) ?_
            rw [s2]
            refine w_cS3i (pc' := 157) (v_of_holds xs hb hA hF (s := s.1) (n := s.2) es hv0.2) (by decide) rfl rfl rfl (Or.inl rfl) (Nat.le_of_ble_eq_true rfl) (fun m' hm' => ?_)
            rw [show m' = m from hm']
            clear hm' m'
            refine w_ior (pc' := 158) rfl rfl ?_
            refine w_ist3 (pc' := 159) rfl rfl rfl ?_
            refine w_iinc4 (pc' := 162) 1 rfl rfl ic_1 rfl ?_
            rw [nI_inc]
            refine w_goto (pc' := 7) rfl (by decide) ?_
            rw [ed, show tb F (s :: ss.drop (k + 1)) a t S = tb F (ss.drop (k + 1)) a (t + 1) (q_bu S t (q_hd (F (s.1 / 3)) (s.1 % 3) s.2)) from if_pos es]
            exact ih (k + 1) (by omega) _ _ _ _ (hx.push (by omega) _) hv _ _
          · rw [nI_toInt (by omega)] at hz
            rcases (show z = 18 ∨ z = 19 ∨ z = 20 ∨ z = 21 ∨ z = 22 by omega) with rfl | rfl | rfl | rfl | rfl
            · refine ⟨33, 72, rfl, rfl, ?_⟩
              have es : s.1 = 18 := by omega
              rw [if_neg (show ¬ s.1 < 18 by omega), if_pos (show s.1 = 18 by omega)] at hv
              obtain ⟨ht3, hv⟩ := (Bool.and_eq_true _ _).mp hv
              have ht3 := of_decide_eq_true ht3
              refine w_iload_n (pc' := 73) rfl rfl rfl ?_
              refine w_iconst (pc' := 74) 1 rfl rfl ic_1 ?_
              refine w_ixor (pc' := 75) rfl rfl ?_
              refine w_ist3 (pc' := 76) rfl rfl rfl ?_
              refine w_goto (pc' := 159) rfl (by decide) ?_
              refine w_iinc4 (pc' := 162) 1 rfl rfl ic_1 rfl ?_
              rw [nI_inc]
              refine w_goto (pc' := 7) rfl (by decide) ?_
              rw [ed, show tb F (s :: ss.drop (k + 1)) a t S = tb F (ss.drop (k + 1)) a t (q_bu S (t - 1) (!S (t - 1))) from (if_neg (by omega)).trans (if_pos es)]
              exact ih (k + 1) (by omega) _ _ _ _ (hx.not (by omega)) hv _ _
            · refine ⟨40, 79, rfl, rfl, ?_⟩
              have es : s.1 = 19 := by omega
              rw [if_neg (show ¬ s.1 < 18 by omega), if_neg (show ¬ s.1 = 18 by omega), if_pos (show s.1 < 21 by omega)] at hv
              obtain ⟨ht3, hv⟩ := (Bool.and_eq_true _ _).mp hv
              have ht3 := of_decide_eq_true ht3
              refine w_iload_n (pc' := 80) rfl rfl rfl ?_
              refine w_iconst (pc' := 81) 1 rfl rfl ic_1 ?_
              refine w_ishr (pc' := 82) rfl rfl ?_
              refine w_iload (pc' := 84) rfl rfl rfl ?_
              refine w_iconst (pc' := 85) 2 rfl rfl ic_2 ?_
              refine w_isub (pc' := 86) rfl rfl ?_
              refine w_iand (pc' := 87) rfl rfl ?_
              refine w_ist3 (pc' := 88) rfl rfl rfl ?_
              refine w_goto (pc' := 159) rfl (by decide) ?_
              refine w_iinc4 (pc' := 162) 1 rfl rfl ic_1 rfl ?_
              rw [nI_inc]
              refine w_goto (pc' := 7) rfl (by decide) ?_
              rw [q_tr_top hx (by omega)]
              rw [ed, show tb F (s :: ss.drop (k + 1)) a t S = tb F (ss.drop (k + 1)) a (t - 1) (q_bu S (t - 2) (S (t - 2) && S (t - 1))) from (if_neg (by omega)).trans ((if_neg (by omega)).trans (if_pos es))]
              exact ih (k + 1) (by omega) _ _ _ _ (hx.and (by omega)) hv _ _
            · refine ⟨52, 91, rfl, rfl, ?_⟩
              have es : s.1 = 20 := by omega
              rw [if_neg (show ¬ s.1 < 18 by omega), if_neg (show ¬ s.1 = 18 by omega), if_pos (show s.1 < 21 by omega)] at hv
              obtain ⟨ht3, hv⟩ := (Bool.and_eq_true _ _).mp hv
              have ht3 := of_decide_eq_true ht3
              refine w_iload_n (pc' := 92) rfl rfl rfl ?_
              refine w_iconst (pc' := 93) 1 rfl rfl ic_1 ?_
              refine w_ishr (pc' := 94) rfl rfl ?_
              refine w_iload (pc' := 96) rfl rfl rfl ?_
              refine w_ior (pc' := 97) rfl rfl ?_
              refine w_ist3 (pc' := 98) rfl rfl rfl ?_
              refine w_goto (pc' := 159) rfl (by decide) ?_
              refine w_iinc4 (pc' := 162) 1 rfl rfl ic_1 rfl ?_
              rw [nI_inc]
              refine w_goto (pc' := 7) rfl (by decide) ?_
              rw [q_tr_top hx (by omega)]
              rw [ed, show tb F (s :: ss.drop (k + 1)) a t S = tb F (ss.drop (k + 1)) a (t - 1) (q_bu S (t - 2) (S (t - 2) || S (t - 1))) from (if_neg (by omega)).trans ((if_neg (by omega)).trans ((if_neg (by omega)).trans (if_pos es)))]
              exact ih (k + 1) (by omega) _ _ _ _ (hx.or (by omega)) hv _ _
            · refine ⟨62, 101, rfl, rfl, ?_⟩
              have es : s.1 = 21 := by omega
              rw [if_neg (show ¬ s.1 < 18 by omega), if_neg (show ¬ s.1 = 18 by omega), if_neg (show ¬ s.1 < 21 by omega)] at hv
              obtain ⟨ht3, hv⟩ := (Bool.and_eq_true _ _).mp hv
              have ht3 := of_decide_eq_true ht3
              refine w_iload_n (pc' := 102) rfl rfl rfl ?_
              refine w_iload (pc' := 104) rfl rfl rfl ?_
              refine w_aload_n (pc' := 105) rfl rfl rfl rfl ?_
              refine w_getC (pc' := 108) rfl rfl rfl (shO (j := j) (by omega)) rfl ?_
              refine w_iload (pc' := 110) rfl rfl rfl ?_
              refine w_iald (j := (k)) (pc' := 111) rfl rfl (shOn (j := j) (by omega)) rfl (by omega) (by decide) ?_
              rw [s2]
              refine w_imul (pc' := 112) rfl rfl ?_
              refine w_iadd (pc' := 113) rfl rfl ?_
              refine w_ist2 (pc' := 114) rfl rfl rfl ?_
              refine w_iload_n (pc' := 115) rfl rfl rfl ?_
              refine w_iconst (pc' := 116) 1 rfl rfl ic_1 ?_
              refine w_ishr (pc' := 117) rfl rfl ?_
              refine w_ist3 (pc' := 118) rfl rfl rfl ?_
              refine w_goto (pc' := 159) rfl (by decide) ?_
              refine w_iinc4 (pc' := 162) 1 rfl rfl ic_1 rfl ?_
              rw [nI_inc]
              refine w_goto (pc' := 7) rfl (by decide) ?_
              rw [q_tr_top hx (by omega)]
              rw [ed, show tb F (s :: ss.drop (k + 1)) a t S = tb F (ss.drop (k + 1)) (a + bB (S (t - 1)) * nI s.2) (t - 1) S from (if_neg (by omega)).trans ((if_neg (by omega)).trans ((if_neg (by omega)).trans ((if_neg (by omega)).trans (if_pos es))))]
              exact ih (k + 1) (by omega) _ _ _ _ hx.pop hv _ _
            · refine ⟨82, 121, rfl, rfl, ?_⟩
              have es : s.1 = 22 := by omega
              rw [if_neg (show ¬ s.1 < 18 by omega), if_neg (show ¬ s.1 = 18 by omega), if_neg (show ¬ s.1 < 21 by omega)] at hv
              obtain ⟨ht3, hv⟩ := (Bool.and_eq_true _ _).mp hv
              have ht3 := of_decide_eq_true ht3
              refine w_iload_n (pc' := 122) rfl rfl rfl ?_
              refine w_iload (pc' := 124) rfl rfl rfl ?_
              refine w_aload_n (pc' := 125) rfl rfl rfl rfl ?_
              refine w_getC (pc' := 128) rfl rfl rfl (shO (j := j) (by omega)) rfl ?_
              refine w_iload (pc' := 130) rfl rfl rfl ?_
              refine w_iald (j := (k)) (pc' := 131) rfl rfl (shOn (j := j) (by omega)) rfl (by omega) (by decide) ?_
              rw [s2]
              refine w_imul (pc' := 132) rfl rfl ?_
              refine w_isub (pc' := 133) rfl rfl ?_
              refine w_ist2 (pc' := 134) rfl rfl rfl ?_
              refine w_iload_n (pc' := 135) rfl rfl rfl ?_
              refine w_iconst (pc' := 136) 1 rfl rfl ic_1 ?_
              refine w_ishr (pc' := 137) rfl rfl ?_
              refine w_ist3 (pc' := 138) rfl rfl rfl ?_
              refine w_goto (pc' := 159) rfl (by decide) ?_
              refine w_iinc4 (pc' := 162) 1 rfl rfl ic_1 rfl ?_
              rw [nI_inc]
              refine w_goto (pc' := 7) rfl (by decide) ?_
              rw [q_tr_top hx (by omega)]
              rw [ed, show tb F (s :: ss.drop (k + 1)) a t S = tb F (ss.drop (k + 1)) (a - bB (S (t - 1)) * nI s.2) (t - 1) S from (if_neg (by omega)).trans ((if_neg (by omega)).trans ((if_neg (by omega)).trans ((if_neg (by omega)).trans (if_neg (by omega)))))]
              exact ih (k + 1) (by omega) _ _ _ _ hx.pop hv _ _
set_option maxRecDepth 100000 in
set_option maxHeartbeats 4000000 in
theorem v_of_turnsBy (xs : List Int32) {b : Nat} (hb : q_isL b) {m : am_Mm} {j : Nat} (hj : j < 6) {ss : List (Nat × Nat)} {F : Nat → Nat} (hA : ∀ i, i < 6 → m.1 (b + 4) i = nI (F i)) (hF : ∀ i, F i < 20000) (o2 : m.1 (123 + 3 * j) 3 = nI ss.length) (o3 : ss.length ≤ 100) (o4 : ∀ i s, ss[i]? = some s → m.1 (123 + 3 * j + 1) i = nI s.1 ∧ m.1 (123 + 3 * j + 2) i = nI s.2) (hv : vls ss 0 = true) : am_V xs 3 20 [.ref (123 + 3 * j), .ref (b + 4)] m (am_qi (tb F ss 0 0 (fun _ => false)) (· = m)) := by
  refine am_V_of ky_20 (Nat.le_of_ble_eq_true rfl) ?_
  show am_P xs 2 of_turnsBy 0 [some (.ref (123 + 3 * j)), some (.ref (b + 4)), none, none, none, none, none] [] m _
  refine w_iconst (pc' := 1) 0 rfl rfl ic_0 ?_
  refine w_ist2 (pc' := 2) rfl rfl rfl ?_
  refine w_iconst (pc' := 3) 0 rfl rfl ic_0 ?_
  refine w_ist3 (pc' := 4) rfl rfl rfl ?_
  refine w_iconst (pc' := 5) 0 rfl rfl ic_0 ?_
  refine w_ist4 (pc' := 7) rfl rfl rfl ?_
  have e0 := lp_turnsBy xs hb hj hA hF o2 o3 o4 ss.length 0 (by omega) 0 0 0 (fun _ => false) (q_tr_0 _) hv none none
  rw [List.drop_zero] at e0
  exact e0
