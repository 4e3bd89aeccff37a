/-- nothing but one drawer's cells changes -/
def q_Fd (D : Nat) (m m' : am_Mm) : Prop := (∀ c, ¬ (D ≤ c ∧ c < D + 4) → m'.1 c = m.1 c) ∧ m'.2 = m.2
theorem q_Fd.rf {D : Nat} {m : am_Mm} : q_Fd D m m := ⟨fun _ _ => rfl, rfl⟩
theorem q_Fd.u {D c k : Nat} {m m' : am_Mm} {x : Int32} (h : q_Fd D m m') (hc : D ≤ c ∧ c < D + 4) : q_Fd D m (am_u m' c k x) := ⟨fun c' hc' => (am_u_nc (fun q => hc' (by rw [q]; exact hc))).trans (h.1 c' hc'), h.2⟩
theorem q_Fd.cp {D a c sp dp n : Nat} {m m' : am_Mm} (h : q_Fd D m m') (hc : D ≤ c ∧ c < D + 4) : q_Fd D m (am_cp m' a c sp dp n) := ⟨fun c' hc' => by
  rw [← h.1 c' hc']
  funext k
  exact if_neg (fun q => hc' (by omega)), h.2⟩
theorem am_cp_ne {m : am_Mm} {a c sp dp n c' k' : Nat} (h : ¬ c' = c) : (am_cp m a c sp dp n).1 c' k' = m.1 c' k' := if_neg (fun q => h q.1)
theorem am_cp_0 {m : am_Mm} {a c n k : Nat} (h : k < n) : (am_cp m a c 0 0 n).1 c k = m.1 a k := (if_pos ⟨rfl, Nat.zero_le _, by omega⟩).trans (congrArg (m.1 a) (by omega))
set_option maxRecDepth 100000 in
set_option maxHeartbeats 4000000 in
theorem v_dr_copyFrom (xs : List Int32) {b c : Nat} (hb : q_isL b) (hc : q_isL c) (hbc : b + 30 ≤ c ∨ c + 30 ≤ b) {T : q_T} {m : am_Mm} (hR : q_Rl b T m) (hB : q_Bd T) {p : Nat} (hp : p < T.1 153 0) : am_V xs 1 35 [.ref (c + 6 + 4 * p), .ref (b + 6 + 4 * p)] m (am_qn (fun m' => q_Rd (c + 6 + 4 * p) p T m' ∧ q_Fd (c + 6 + 4 * p) m m')) := by
  have hb1 := q_isL_lt hb
  have hc1 := q_isL_lt hc
  have hn0 : T.1 153 0 < 7 := hB 153 0
  have b57 : T.1 157 p < 9 := hB 157 p
  refine am_V_of ky_35 (Nat.le_of_ble_eq_true rfl) ?_
  show am_P xs 0 dr_copyFrom 0 [some (.ref (c + 6 + 4 * p)), some (.ref (b + 6 + 4 * p))] [] m _
  refine w_aload_n (pc' := 1) rfl rfl rfl rfl ?_
  refine w_aload_n (pc' := 2) rfl rfl rfl rfl ?_
  refine w_getI (pc' := 5) rfl rfl rfl (shD hb (p := p) (by omega)) rfl ?_
  have b1 : T.1 154 p < 7 := hB 154 (p)
  rw [show m.1 (b + 6 + 4 * p) 1 = nI (T.1 154 p) from (hR.2.2.2.2.2 p (by omega)).1]
  refine w_putI (pc' := 8) rfl rfl rfl (shD hc (p := p) (by omega)) rfl rfl rfl ?_
  refine w_any (fun q => q_Fd (c + 6 + 4 * p) m q ∧ (q.1 (c + 6 + 4 * p) 1 = nI (T.1 154 p))) ⟨q_Fd.rf.u (by omega), am_u_eq⟩ (fun m1 hm1 => ?_)
  obtain ⟨hD_1, f1⟩ := hm1
  have hR_1 : q_Rl b T m1 := hR.eq (fun d d1 d2 _ => hD_1.1 d (by omega)) (fun _ _ _ => rfl) (by omega)
  refine w_aload_n (pc' := 9) rfl rfl rfl rfl ?_
  refine w_aload_n (pc' := 10) rfl rfl rfl rfl ?_
  refine w_getI (pc' := 13) rfl rfl rfl (shD hb (p := p) (by omega)) rfl ?_
  have b2 : T.1 155 p < 10 := hB 155 (p)
  rw [show m1.1 (b + 6 + 4 * p) 2 = nI (T.1 155 p) from (hR_1.2.2.2.2.2 p (by omega)).2.1]
  refine w_putI (pc' := 16) rfl rfl rfl (shD hc (p := p) (by omega)) rfl rfl rfl ?_
  refine w_any (fun q => q_Fd (c + 6 + 4 * p) m q ∧ (q.1 (c + 6 + 4 * p) 1 = nI (T.1 154 p) ∧ (q.1 (c + 6 + 4 * p) 2 = nI (T.1 155 p)))) ⟨hD_1.u (by omega), (am_u_ne (by omega)).trans f1, am_u_eq⟩ (fun m2 hm2 => ?_)
  obtain ⟨hD_2, f1, f2⟩ := hm2
  have hR_2 : q_Rl b T m2 := hR.eq (fun d d1 d2 _ => hD_2.1 d (by omega)) (fun _ _ _ => rfl) (by omega)
  refine w_aload_n (pc' := 17) rfl rfl rfl rfl ?_
  refine w_aload_n (pc' := 18) rfl rfl rfl rfl ?_
  refine w_getI (pc' := 21) rfl rfl rfl (shD hb (p := p) (by omega)) rfl ?_
  have b3 : T.1 156 p < 16 := hB 156 (p)
  rw [show m2.1 (b + 6 + 4 * p) 3 = nI (T.1 156 p) from (hR_2.2.2.2.2.2 p (by omega)).2.2.1]
  refine w_putI (pc' := 24) rfl rfl rfl (shD hc (p := p) (by omega)) rfl rfl rfl ?_
  refine w_any (fun q => q_Fd (c + 6 + 4 * p) m q ∧ (q.1 (c + 6 + 4 * p) 1 = nI (T.1 154 p) ∧ (q.1 (c + 6 + 4 * p) 2 = nI (T.1 155 p) ∧ (q.1 (c + 6 + 4 * p) 3 = nI (T.1 156 p))))) ⟨hD_2.u (by omega), (am_u_ne (by omega)).trans f1, (am_u_ne (by omega)).trans f2, am_u_eq⟩ (fun m3 hm3 => ?_)
  obtain ⟨hD_3, f1, f2, f3⟩ := hm3
  have hR_3 : q_Rl b T m3 := hR.eq (fun d d1 d2 _ => hD_3.1 d (by omega)) (fun _ _ _ => rfl) (by omega)
  refine w_aload_n (pc' := 25) rfl rfl rfl rfl ?_
  refine w_aload_n (pc' := 26) rfl rfl rfl rfl ?_
  refine w_getI (pc' := 29) rfl rfl rfl (shD hb (p := p) (by omega)) rfl ?_
  have b4 : T.1 157 p < 9 := hB 157 (p)
  rw [show m3.1 (b + 6 + 4 * p) 4 = nI (T.1 157 p) from (hR_3.2.2.2.2.2 p (by omega)).2.2.2.1]
  refine w_putI (pc' := 32) rfl rfl rfl (shD hc (p := p) (by omega)) rfl rfl rfl ?_
  refine w_any (fun q => q_Fd (c + 6 + 4 * p) m q ∧ (q.1 (c + 6 + 4 * p) 1 = nI (T.1 154 p) ∧ (q.1 (c + 6 + 4 * p) 2 = nI (T.1 155 p) ∧ (q.1 (c + 6 + 4 * p) 3 = nI (T.1 156 p) ∧ (q.1 (c + 6 + 4 * p) 4 = nI (T.1 157 p)))))) ⟨hD_3.u (by omega), (am_u_ne (by omega)).trans f1, (am_u_ne (by omega)).trans f2, (am_u_ne (by omega)).trans f3, am_u_eq⟩ (fun m4 hm4 => ?_)
  obtain ⟨hD_4, f1, f2, f3, f4⟩ := hm4
  have hR_4 : q_Rl b T m4 := hR.eq (fun d d1 d2 _ => hD_4.1 d (by omega)) (fun _ _ _ => rfl) (by omega)
  refine w_aload_n (pc' := 33) rfl rfl rfl rfl ?_
  refine w_aload_n (pc' := 34) rfl rfl rfl rfl ?_
  refine w_getI (pc' := 37) rfl rfl rfl (shD hb (p := p) (by omega)) rfl ?_
  rw [show m4.1 (b + 6 + 4 * p) 5 = nI (T.1 159 p) from (hR_4.2.2.2.2.2 p (by omega)).2.2.2.2.1]
  refine w_putI (pc' := 40) rfl rfl rfl (shD hc (p := p) (by omega)) rfl rfl rfl ?_
  refine w_any (fun q => q_Fd (c + 6 + 4 * p) m q ∧ (q.1 (c + 6 + 4 * p) 1 = nI (T.1 154 p) ∧ (q.1 (c + 6 + 4 * p) 2 = nI (T.1 155 p) ∧ (q.1 (c + 6 + 4 * p) 3 = nI (T.1 156 p) ∧ (q.1 (c + 6 + 4 * p) 4 = nI (T.1 157 p) ∧ (q.1 (c + 6 + 4 * p) 5 = nI (T.1 159 p))))))) ⟨hD_4.u (by omega), (am_u_ne (by omega)).trans f1, (am_u_ne (by omega)).trans f2, (am_u_ne (by omega)).trans f3, (am_u_ne (by omega)).trans f4, am_u_eq⟩ (fun m5 hm5 => ?_)
  obtain ⟨hD_5, f1, f2, f3, f4, f5⟩ := hm5
  have hR_5 : q_Rl b T m5 := hR.eq (fun d d1 d2 _ => hD_5.1 d (by omega)) (fun _ _ _ => rfl) (by omega)
  refine w_aload_n (pc' := 41) rfl rfl rfl rfl ?_
  refine w_aload_n (pc' := 42) rfl rfl rfl rfl ?_
  refine w_getB (pc' := 45) rfl rfl rfl (shD hb (p := p) (by omega)) rfl ?_
  have b5 : T.1 158 p < 2 := hB 158 (p)
  rw [show m5.1 (b + 6 + 4 * p) 6 = nI (T.1 158 p) from (hR_5.2.2.2.2.2 p (by omega)).2.2.2.2.2.1, am_b_n (by omega)]
  refine w_putB (pc' := 48) rfl rfl rfl (shD hc (p := p) (by omega)) rfl rfl (by rcases (show T.1 158 p = 0 ∨ T.1 158 p = 1 by omega) with z | z <;> rw [z] <;> decide) rfl ?_
  refine w_any (fun q => q_Fd (c + 6 + 4 * p) m q ∧ (q.1 (c + 6 + 4 * p) 1 = nI (T.1 154 p) ∧ (q.1 (c + 6 + 4 * p) 2 = nI (T.1 155 p) ∧ (q.1 (c + 6 + 4 * p) 3 = nI (T.1 156 p) ∧ (q.1 (c + 6 + 4 * p) 4 = nI (T.1 157 p) ∧ (q.1 (c + 6 + 4 * p) 5 = nI (T.1 159 p) ∧ (q.1 (c + 6 + 4 * p) 6 = nI (T.1 158 p)))))))) ⟨hD_5.u (by omega), (am_u_ne (by omega)).trans f1, (am_u_ne (by omega)).trans f2, (am_u_ne (by omega)).trans f3, (am_u_ne (by omega)).trans f4, (am_u_ne (by omega)).trans f5, am_u_eq⟩ (fun m6 hm6 => ?_)
  obtain ⟨hD_6, f1, f2, f3, f4, f5, f6⟩ := hm6
  have hR_6 : q_Rl b T m6 := hR.eq (fun d d1 d2 _ => hD_6.1 d (by omega)) (fun _ _ _ => rfl) (by omega)
  refine w_aload_n (pc' := 49) rfl rfl rfl rfl ?_
  refine w_getC (pc' := 52) rfl rfl rfl (shD hb (p := p) (by omega)) rfl ?_
  refine w_iconst (pc' := 53) 0 rfl rfl ic_0 ?_
  refine w_aload_n (pc' := 54) rfl rfl rfl rfl ?_
  refine w_getC (pc' := 57) rfl rfl rfl (shD hc (p := p) (by omega)) rfl ?_
  refine w_iconst (pc' := 58) 0 rfl rfl ic_0 ?_
  refine w_bipush (pc' := 60) 8 rfl rfl bp_8 ?_
  refine w_acp (n := 8) (dp := 0) (sp := 0) (pc' := 63) rfl rfl rfl (Nat.le_of_ble_eq_true rfl) (shDw hb (p := p) (by omega)) (shDw hc (p := p) (by omega)) rfl rfl rfl (by omega) (by omega) (by decide) (by decide) ?_
  refine w_any (fun q => q_Fd (c + 6 + 4 * p) m q ∧ (q.1 (c + 6 + 4 * p) 1 = nI (T.1 154 p) ∧ (q.1 (c + 6 + 4 * p) 2 = nI (T.1 155 p) ∧ (q.1 (c + 6 + 4 * p) 3 = nI (T.1 156 p) ∧ (q.1 (c + 6 + 4 * p) 4 = nI (T.1 157 p) ∧ (q.1 (c + 6 + 4 * p) 5 = nI (T.1 159 p) ∧ (q.1 (c + 6 + 4 * p) 6 = nI (T.1 158 p) ∧ ((∀ i, i < 8 → q.1 (c + 6 + 4 * p + 1) i = m.1 (b + 6 + 4 * p + 1) i))))))))) ⟨hD_6.cp (by omega), (am_cp_ne (by omega)).trans f1, (am_cp_ne (by omega)).trans f2, (am_cp_ne (by omega)).trans f3, (am_cp_ne (by omega)).trans f4, (am_cp_ne (by omega)).trans f5, (am_cp_ne (by omega)).trans f6, (fun i hi => (am_cp_0 hi).trans (congrFun (hD_6.1 (b + 6 + 4 * p + 1) (by omega)) i))⟩ (fun m7 hm7 => ?_)
  obtain ⟨hD_7, f1, f2, f3, f4, f5, f6, f7⟩ := hm7
  have hR_7 : q_Rl b T m7 := hR.eq (fun d d1 d2 _ => hD_7.1 d (by omega)) (fun _ _ _ => rfl) (by omega)
  refine w_aload_n (pc' := 64) rfl rfl rfl rfl ?_
  refine w_getC (pc' := 67) rfl rfl rfl (shD hb (p := p) (by omega)) rfl ?_
  refine w_iconst (pc' := 68) 0 rfl rfl ic_0 ?_
  refine w_aload_n (pc' := 69) rfl rfl rfl rfl ?_
  refine w_getC (pc' := 72) rfl rfl rfl (shD hc (p := p) (by omega)) rfl ?_
  refine w_iconst (pc' := 73) 0 rfl rfl ic_0 ?_
  refine w_bipush (pc' := 75) 8 rfl rfl bp_8 ?_
  refine w_acp (n := 8) (dp := 0) (sp := 0) (pc' := 78) rfl rfl rfl (Nat.le_of_ble_eq_true rfl) (shDm hb (p := p) (by omega)) (shDm hc (p := p) (by omega)) rfl rfl rfl (by omega) (by omega) (by decide) (by decide) ?_
  refine w_any (fun q => q_Fd (c + 6 + 4 * p) m q ∧ (q.1 (c + 6 + 4 * p) 1 = nI (T.1 154 p) ∧ (q.1 (c + 6 + 4 * p) 2 = nI (T.1 155 p) ∧ (q.1 (c + 6 + 4 * p) 3 = nI (T.1 156 p) ∧ (q.1 (c + 6 + 4 * p) 4 = nI (T.1 157 p) ∧ (q.1 (c + 6 + 4 * p) 5 = nI (T.1 159 p) ∧ (q.1 (c + 6 + 4 * p) 6 = nI (T.1 158 p) ∧ ((∀ i, i < 8 → q.1 (c + 6 + 4 * p + 1) i = m.1 (b + 6 + 4 * p + 1) i) ∧ ((∀ i, i < 8 → q.1 (c + 6 + 4 * p + 2) i = m.1 (b + 6 + 4 * p + 2) i)))))))))) ⟨hD_7.cp (by omega), (am_cp_ne (by omega)).trans f1, (am_cp_ne (by omega)).trans f2, (am_cp_ne (by omega)).trans f3, (am_cp_ne (by omega)).trans f4, (am_cp_ne (by omega)).trans f5, (am_cp_ne (by omega)).trans f6, (fun i hi => (am_cp_ne (by omega)).trans (f7 i hi)), (fun i hi => (am_cp_0 hi).trans (congrFun (hD_7.1 (b + 6 + 4 * p + 2) (by omega)) i))⟩ (fun m8 hm8 => ?_)
  obtain ⟨hD_8, f1, f2, f3, f4, f5, f6, f7, f8⟩ := hm8
  have hR_8 : q_Rl b T m8 := hR.eq (fun d d1 d2 _ => hD_8.1 d (by omega)) (fun _ _ _ => rfl) (by omega)
  refine w_aload_n (pc' := 79) rfl rfl rfl rfl ?_
  refine w_getC (pc' := 82) rfl rfl rfl (shD hb (p := p) (by omega)) rfl ?_
  refine w_iconst (pc' := 83) 0 rfl rfl ic_0 ?_
  refine w_aload_n (pc' := 84) rfl rfl rfl rfl ?_
  refine w_getC (pc' := 87) rfl rfl rfl (shD hc (p := p) (by omega)) rfl ?_
  refine w_iconst (pc' := 88) 0 rfl rfl ic_0 ?_
  refine w_iconst (pc' := 89) 4 rfl rfl ic_4 ?_
  refine w_acp (n := 4) (dp := 0) (sp := 0) (pc' := 92) rfl rfl rfl (Nat.le_of_ble_eq_true rfl) (shDr hb (p := p) (by omega)) (shDr hc (p := p) (by omega)) rfl rfl rfl (by omega) (by omega) (by decide) (by decide) ?_
  refine w_any (fun q => q_Fd (c + 6 + 4 * p) m q ∧ (q.1 (c + 6 + 4 * p) 1 = nI (T.1 154 p) ∧ (q.1 (c + 6 + 4 * p) 2 = nI (T.1 155 p) ∧ (q.1 (c + 6 + 4 * p) 3 = nI (T.1 156 p) ∧ (q.1 (c + 6 + 4 * p) 4 = nI (T.1 157 p) ∧ (q.1 (c + 6 + 4 * p) 5 = nI (T.1 159 p) ∧ (q.1 (c + 6 + 4 * p) 6 = nI (T.1 158 p) ∧ ((∀ i, i < 8 → q.1 (c + 6 + 4 * p + 1) i = m.1 (b + 6 + 4 * p + 1) i) ∧ ((∀ i, i < 8 → q.1 (c + 6 + 4 * p + 2) i = m.1 (b + 6 + 4 * p + 2) i) ∧ ((∀ i, i < 4 → q.1 (c + 6 + 4 * p + 3) i = m.1 (b + 6 + 4 * p + 3) i))))))))))) ⟨hD_8.cp (by omega), (am_cp_ne (by omega)).trans f1, (am_cp_ne (by omega)).trans f2, (am_cp_ne (by omega)).trans f3, (am_cp_ne (by omega)).trans f4, (am_cp_ne (by omega)).trans f5, (am_cp_ne (by omega)).trans f6, (fun i hi => (am_cp_ne (by omega)).trans (f7 i hi)), (fun i hi => (am_cp_ne (by omega)).trans (f8 i hi)), (fun i hi => (am_cp_0 hi).trans (congrFun (hD_8.1 (b + 6 + 4 * p + 3) (by omega)) i))⟩ (fun m9 hm9 => ?_)
  obtain ⟨hD_9, f1, f2, f3, f4, f5, f6, f7, f8, f9⟩ := hm9
  have hR_9 : q_Rl b T m9 := hR.eq (fun d d1 d2 _ => hD_9.1 d (by omega)) (fun _ _ _ => rfl) (by omega)
  refine w_vret rfl rfl ?_
  obtain ⟨g1, g2, g3, g4, g5, g6, g7, g8⟩ := hR.2.2.2.2.2 p hp
  exact ⟨rfl, ⟨f1, f2, f3, f4, f5, f6, fun i hi => ⟨(f7 i (by omega)).trans (g7 i hi).1, (f8 i (by omega)).trans (g7 i hi).2⟩, fun i hi => (f9 i hi).trans (g8 i hi)⟩, hD_9⟩
