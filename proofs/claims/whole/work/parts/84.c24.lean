theorem q_Rx.tp {T T' : q_T} {m m' : am_Mm} (h : q_Rx T m) (hm : ∀ c, c < 123 → m'.1 c = m.1 c) (h21 : T'.2.1 = T.2.1) (hT : ∀ c k, (c = 163 ∨ c = 178) ∨ (c = 153 ∧ (k = 12 ∨ k = 38 ∨ k = 40)) → T'.1 c k = T.1 c k) (h7 : ∀ t, t < 6 → m'.1 (141 + 2 * t) 0 = nI (T'.1 182 t) - 1 ∧ (m'.1 (141 + 2 * t) 1 = nI (T'.1 183 t) ∧ ∀ i, i < 60 → m'.2 (142 + 2 * t) i = T'.2.2 t i)) : q_Rx T' m' := by
  obtain ⟨a1, a2, a3, a4, a5, a6, a7⟩ := h
  unfold q_Rx
  rw [hm 0 (by omega), hm 117 (by omega), hm 118 (by omega), hm 120 (by omega), hm 121 (by omega), h21, hT 153 12 (by omega), hT 153 38 (by omega), hT 153 40 (by omega)]
  refine ⟨a1, a2, fun i hi => ?_, a4, fun i h1 h2 => ?_, a6, h7⟩
  · rw [hT 163 i (by omega)]
    exact a3 i hi
  · rw [hT 178 i (by omega)]
    exact a5 i h1 h2
def q_FJ (c : Nat) (m m' : am_Mm) : Prop := m'.1 = m.1 ∧ ∀ x, x ≠ c → m'.2 x = m.2 x
theorem uJ_at {m : am_Mm} {c k : Nat} {v : Int64} : (am_uJ m c k v).2 c k = v := if_pos ⟨rfl, rfl⟩
theorem uJ_ne {m : am_Mm} {c k c' k' : Nat} {v : Int64} (h : ¬ (c' = c ∧ k' = k)) : (am_uJ m c k v).2 c' k' = m.2 c' k' := if_neg h
theorem uJ_nc {m : am_Mm} {c k c' : Nat} {v : Int64} (h : c' ≠ c) : (am_uJ m c k v).2 c' = m.2 c' := by
  funext x
  exact if_neg (fun q => h q.1)
theorem q_is_s1 {s : Int32} (h : q_is (s + 1) 6 = true) : s = -1 ∨ ∃ j, j < 5 ∧ s = nI j := by
  obtain ⟨j, hj, e⟩ := q_is_of h (by omega)
  have e2 : s = nI j - 1 := by rw [← e]; exact (Int32.add_sub_cancel s 1).symm
  cases j with
  | zero => exact Or.inl (e2.trans (by decide))
  | succ j => exact Or.inr ⟨j, by omega, e2.trans (nI_pred j)⟩
theorem nI_s1 {j : Nat} : nI j + 1 = nI (j + 1) := nI_add j 1
set_option maxRecDepth 100000 in
set_option maxHeartbeats 4000000 in
theorem lp_becomes (xs : List Int32) {t : Nat} (ht : t < 6) {m0 : am_Mm} {x y : Int32} : ∀ (r k : Nat), k + r = 60 → ∀ (m : am_Mm), (∀ i, i < k → m.2 (142 + 2 * t) i = 0) → q_FJ (142 + 2 * t) m0 m → am_P xs 0 tp_becomes 12 [some (.ref (141 + 2 * t)), some (.int x), some (.int y), some (.int (nI k))] [] m (am_qn (fun m' => (∀ i, i < 60 → m'.2 (142 + 2 * t) i = 0) ∧ q_FJ (142 + 2 * t) m0 m')) := by
  intro r
  induction r with
  | zero =>
    intro k hk m h0 hF
    refine w_iload_n (pc' := 13) rfl rfl rfl ?_
    refine w_bipush (pc' := 15) 60 rfl rfl bp_60 ?_
    refine w_ic_ge (t := 31) (pc' := 18) rfl (by decide) rfl (fun h15 => ?_) (fun h15 => ?_)
    · have g1 : 60 ≤ k := (nI_leI (a := 60) (b := k) (by omega) (by omega)).mp h15
      refine w_vret rfl rfl ?_
      obtain rfl : k = 60 := by omega
      exact ⟨rfl, h0, hF⟩
    · have g2 : ¬ 60 ≤ k := fun q => h15 ((nI_leI (a := 60) (b := k) (by omega) (by omega)).mpr q)
      omega
  | succ r ih =>
    intro k hk m h0 hF
    refine w_iload_n (pc' := 13) rfl rfl rfl ?_
    refine w_bipush (pc' := 15) 60 rfl rfl bp_60 ?_
    refine w_ic_ge (t := 31) (pc' := 18) rfl (by decide) rfl (fun h15 => ?_) (fun h15 => ?_)
    · have g1 : 60 ≤ k := (nI_leI (a := 60) (b := k) (by omega) (by omega)).mp h15
      omega
    · have g2 : ¬ 60 ≤ k := fun q => h15 ((nI_leI (a := 60) (b := k) (by omega) (by omega)).mpr q)
      refine w_aload_n (pc' := 19) rfl rfl rfl rfl ?_
      refine w_getC (pc' := 22) rfl rfl rfl (shT (t := t) (by omega)) rfl ?_
      refine w_iload_n (pc' := 23) rfl rfl rfl ?_
      refine w_lconst (pc' := 24) 0 rfl rfl rfl ?_
      refine w_last (j := (k)) (pc' := 25) rfl rfl (shTi (t := t) (by omega)) rfl (by omega) (by decide) ?_
      refine w_iinc3 (pc' := 28) 1 rfl rfl ic_1 rfl ?_
      rw [nI_inc]
      refine w_goto (pc' := 12) rfl (by decide) ?_
      exact ih (k + 1) (by omega) _ (fun i hi => by
        by_cases e : i = k
        · subst e
          exact uJ_at
        · exact (uJ_ne (by omega)).trans (h0 i (by omega))) ⟨hF.1, fun c hc => (uJ_nc hc).trans (hF.2 c hc)⟩
set_option maxRecDepth 100000 in
set_option maxHeartbeats 4000000 in
theorem v_becomes (xs : List Int32) {t : Nat} (ht : t < 6) {m : am_Mm} (x y : Int32) : am_V xs 1 133 [.ref (141 + 2 * t), .int x, .int y] m (am_qn (fun m' => (∀ i, i < 60 → m'.2 (142 + 2 * t) i = 0) ∧ q_FJ (142 + 2 * t) (am_u (am_u m (141 + 2 * t) 0 x) (141 + 2 * t) 1 y) m')) := by
  refine am_V_of ky_133 (Nat.le_of_ble_eq_true rfl) ?_
  show am_P xs 0 tp_becomes 0 [some (.ref (141 + 2 * t)), some (.int x), some (.int y), none] [] m _
  refine w_aload_n (pc' := 1) rfl rfl rfl rfl ?_
  refine w_iload_n (pc' := 2) rfl rfl rfl ?_
  refine w_putI (pc' := 5) rfl rfl rfl (shT (t := t) (by omega)) rfl rfl rfl ?_
  refine w_aload_n (pc' := 6) rfl rfl rfl rfl ?_
  refine w_iload_n (pc' := 7) rfl rfl rfl ?_
  refine w_putI (pc' := 10) rfl rfl rfl (shT (t := t) (by omega)) rfl rfl rfl ?_
  refine w_iconst (pc' := 11) 0 rfl rfl ic_0 ?_
  refine w_ist3 (pc' := 12) rfl rfl rfl ?_
  exact lp_becomes xs ht 60 0 (by omega) _ (fun i hi => absurd hi (by omega)) ⟨rfl, fun _ _ => rfl⟩
theorem q_Rc.tape {T : q_T} {m m' : am_Mm} (hC : q_Rc T m) (hI : q_I T) {t s n : Nat} (ht : t < 6) {x y : Int32} (hx : x = nI s - 1) (hy : y = nI n) (h : (∀ i, i < 60 → m'.2 (142 + 2 * t) i = 0) ∧ q_FJ (142 + 2 * t) (am_u (am_u m (141 + 2 * t) 0 x) (141 + 2 * t) 1 y) m') : q_Q (q_Tz (q_Tu (q_Tu T 182 t s) 183 t n) t 60) m m' := by
  obtain ⟨h0, h1, h2⟩ := h
  have e1 : ∀ c k, c ≠ 141 + 2 * t → m'.1 c k = m.1 c k := fun c k hc => (congrFun (congrFun h1 c) k).trans ((am_u_ne (by omega)).trans (am_u_ne (by omega)))
  have eT : ∀ c k, c ≠ 182 → c ≠ 183 → (q_Tz (q_Tu (q_Tu T 182 t s) 183 t n) t 60).1 c k = T.1 c k := fun c k x y => (q_Tu_ne (T := q_Tu T 182 t s) (by omega)).trans (q_Tu_ne (by omega))
  refine hC.x hI (hC.2.2.2.1.tp (fun c hc => funext (fun k => e1 c k (by omega))) rfl (fun c k hc => eT c k (by omega) (by omega)) (fun t' ht' => ?_)) (fun c hc => funext (fun k => e1 c k (by omega))) (fun c hc => h2 c (by omega)) rfl (fun c k hc => eT c k (by omega) (by omega))
  obtain ⟨a1, a2, a3⟩ := hC.2.2.2.1.2.2.2.2.2.2 t' ht'
  by_cases e : t' = t
  · subst e
    refine ⟨(congrFun (congrFun h1 _) 0).trans ((am_u_ne (by omega)).trans (am_u_eq.trans ?_)), (congrFun (congrFun h1 _) 1).trans (am_u_eq.trans ?_), fun i hi => (h0 i hi).trans ?_⟩
    · rw [hx, show (q_Tz (q_Tu (q_Tu T 182 t' s) 183 t' n) t' 60).1 182 t' = s from (show (q_Tu (q_Tu T 182 t' s) 183 t' n).1 182 t' = s from (q_Tu_ne (by omega)).trans q_Tu_eq)]
    · rw [hy, show (q_Tz (q_Tu (q_Tu T 182 t' s) 183 t' n) t' 60).1 183 t' = n from q_Tu_eq (T := q_Tu T 182 t' s)]
    · exact (if_pos (⟨rfl, hi⟩ : t' = t' ∧ i < 60)).symm
  · refine ⟨(e1 _ 0 (by omega)).trans (a1.trans ?_), (e1 _ 1 (by omega)).trans (a2.trans ?_), fun i hi => (congrFun (h2 _ (by omega)) i).trans ((a3 i hi).trans ?_)⟩
    · rw [show (q_Tz (q_Tu (q_Tu T 182 t s) 183 t n) t 60).1 182 t' = T.1 182 t' from (show (q_Tu (q_Tu T 182 t s) 183 t n).1 182 t' = T.1 182 t' from (q_Tu_ne (by omega)).trans (q_Tu_ne (by omega)))]
    · rw [show (q_Tz (q_Tu (q_Tu T 182 t s) 183 t n) t 60).1 183 t' = T.1 183 t' from (show (q_Tu (q_Tu T 182 t s) 183 t n).1 183 t' = T.1 183 t' from (q_Tu_ne (by omega)).trans (q_Tu_ne (by omega)))]
    · exact (if_neg (fun q : t' = t ∧ i < 60 => e q.1)).symm
set_option maxRecDepth 100000 in
set_option maxHeartbeats 4000000 in
theorem v_k_tape (xs : List Int32) {T : q_T} {m : am_Mm} (hC : q_Rc T m) (hI : q_I T) (t : Int32) (s : Int32) (n : Int32) : am_V xs 2 132 [.ref 0, .int t, .int s, .int n] m (am_qi (f_tape T t s n).1 (q_Q (f_tape T t s n).2 m)) := by
  have hY := hI.1.1
  have hB := hY.1
  have hl6 := hI.1.2.1
  have hn0 : T.1 153 0 < 7 := hB 153 0
  have hF : q_Fl 1 m m := q_Fl.rf
  have hR1 := hC.1
  refine am_V_of ky_132 (Nat.le_of_ble_eq_true rfl) ?_
  show am_P xs 1 k_tape 0 [some (.ref 0), some (.int t), some (.int s), some (.int n), none] [] m _
  rcases hqbt : q_is t 6 with _ | _
  · have hqt : q_is t 6 = false := hqbt
    refine w_aload_n (pc' := 1) rfl rfl rfl rfl ?_
    refine w_iload_n (pc' := 2) rfl rfl rfl ?_
    refine w_cV1a (pc' := 5) (v_tapeAtN xs m hqt) (by decide) rfl rfl rfl (Nat.le_of_ble_eq_true rfl) sh_0 rfl (fun m' hm' => ?_)
    rw [show m' = m from hm']
    clear hm' m'
    refine w_ast4 (pc' := 7) rfl rfl rfl rfl ?_
    refine w_aload (pc' := 9) rfl rfl rfl rfl ?_
    refine w_ifnonnullN (pc' := 12) rfl rfl ?_
    refine w_iconst (pc' := 13) (-1) rfl rfl ic_m1 ?_
    refine w_iret rfl rfl rfl ?_
    have hf : f_tape T t s n = (-1, T) := by simp [f_tape, hqt]
    rw [hf]
    exact ⟨rfl, hC.Q hI (q_Fq.rf)⟩
  · obtain ⟨jt, hjt, rfl⟩ := q_is_of hqbt (by omega)
    have b61t : T.1 183 jt < 61 := hB 183 jt
    have b6t : T.1 182 jt < 6 := hB 182 jt
    refine w_aload_n (pc' := 1) rfl rfl rfl rfl ?_
    refine w_iload_n (pc' := 2) rfl rfl rfl ?_
    refine w_cV1a (pc' := 5) (v_tapeAtS xs m (t := jt) (by omega)) (by decide) rfl rfl rfl (Nat.le_of_ble_eq_true rfl) sh_0 rfl (fun m' hm' => ?_)
    rw [show m' = m from hm']
    clear hm' m'
    refine w_ast4 (pc' := 7) rfl rfl rfl rfl ?_
    refine w_aload (pc' := 9) rfl rfl rfl rfl ?_
    refine w_ifnonnullR (pc' := 14) rfl (by decide) (by omega) ?_
    refine w_iload_n (pc' := 15) rfl rfl rfl ?_
    refine w_iconst (pc' := 16) (-1) rfl rfl ic_m1 ?_
    refine w_ic_ne (t := 28) (pc' := 19) rfl (by decide) rfl (fun h16 => ?_) (fun h16 => ?_)
    · have hs1 : ¬ s = -1 := h16
      refine w_iload_n (pc' := 29) rfl rfl rfl ?_
      refine w_if_lt (t := 43) (pc' := 32) rfl (by decide) rfl (fun h29 => ?_) (fun h29 => ?_)
      · refine w_bipush (pc' := 45) (-2) rfl rfl bp_m2 ?_
        refine w_iret rfl rfl rfl ?_
        have hf : f_tape T (nI jt) s n = (-2, T) := by unfold f_tape; rw [if_pos (q_is_nI hjt (by omega)), if_neg (fun z => by rcases q_is_s1 z.1 with q | ⟨j, hj, q⟩; exact hs1 q; exact nI_pos (n := j) (by omega) (by rw [← q]; exact h29))]
        rw [hf]
        exact ⟨rfl, hC.Q hI q_Fq.rf⟩
      · obtain ⟨js, hjs, rfl⟩ := nI_of (x := s) h29
        refine w_iload_n (pc' := 33) rfl rfl rfl ?_
        refine w_iconst (pc' := 34) 5 rfl rfl ic_5 ?_
        refine w_ic_ge (t := 43) (pc' := 37) rfl (by decide) rfl (fun h34 => ?_) (fun h34 => ?_)
        · have g1 : 5 ≤ js := (nI_leI (a := 5) (b := js) (by omega) (by omega)).mp h34
          refine w_bipush (pc' := 45) (-2) rfl rfl bp_m2 ?_
          refine w_iret rfl rfl rfl ?_
          have hf : f_tape T (nI jt) (nI js) n = (-2, T) := by unfold f_tape; rw [if_pos (q_is_nI hjt (by omega)), if_neg (fun z => by rcases q_is_s1 z.1 with q | ⟨j, hj, q⟩; exact nI_pos (n := js) (by omega) (by rw [q]; decide); have := (nI_eq (a := js) (b := j) (by omega) (by omega)).mp q; omega)]
          rw [hf]
          exact ⟨rfl, hC.Q hI q_Fq.rf⟩
        · have g2 : ¬ 5 ≤ js := fun q => h34 ((nI_leI (a := 5) (b := js) (by omega) (by omega)).mpr q)
          refine w_iload_n (pc' := 38) rfl rfl rfl ?_
          refine w_bipush (pc' := 40) 60 rfl rfl bp_60 ?_
          refine w_ic_le (t := 46) (pc' := 43) rfl (by decide) rfl (fun h40 => ?_) (fun h40 => ?_)
          · refine w_iload_n (pc' := 47) rfl rfl rfl ?_
            refine w_if_ge (t := 53) (pc' := 50) rfl (by decide) rfl (fun h47 => ?_) (fun h47 => ?_)
            · obtain ⟨jn, hjn, rfl⟩ := nI_of (x := n) (Int32.not_lt.mpr h47)
              refine w_aload (pc' := 55) rfl rfl rfl rfl ?_
              refine w_iload_n (pc' := 56) rfl rfl rfl ?_
              refine w_iload_n (pc' := 57) rfl rfl rfl ?_
              refine w_cV2n (pc' := 60) (v_becomes xs (t := jt) (by omega) (nI js) (nI jn)) (by decide) rfl rfl rfl (Nat.le_of_ble_eq_true rfl) (shT (t := jt) (by omega)) rfl (fun m1 hm' => ?_)
              have hM := hm'
              refine w_iconst (pc' := 61) 1 rfl rfl ic_1 ?_
              refine w_iret rfl rfl rfl ?_
              have hf : f_tape T (nI jt) (nI js) (nI jn) = (1, q_Tz (q_Tu (q_Tu T 182 jt (js + 1)) 183 jt jn) jt 60) := by unfold f_tape; rw [if_pos (q_is_nI hjt (by omega)), if_pos ⟨by rw [nI_s1]; exact q_is_nI (by omega) (by omega), fun z => absurd h40 (Int32.not_le.mpr z.2)⟩, if_neg (fun z => Int32.not_lt.mpr h47 z.2), nI_clamp (show jt < 2 ^ 31 by omega), nI_s1, nI_clamp (show js + 1 < 2 ^ 31 by omega), if_pos (by omega), nI_clamp (show jn < 2 ^ 31 by omega)]
              rw [hf]
              exact ⟨rfl, hC.tape hI (s := js + 1) (n := jn) (by omega) (nI_pred js).symm rfl hM⟩
            · refine w_bipush (pc' := 52) (-14) rfl rfl bp_m14 ?_
              refine w_iret rfl rfl rfl ?_
              have hf : f_tape T (nI jt) (nI js) n = (-14, T) := by unfold f_tape; rw [if_pos (q_is_nI hjt (by omega)), if_pos ⟨by rw [nI_s1]; exact q_is_nI (by omega) (by omega), fun z => absurd h40 (Int32.not_le.mpr z.2)⟩, if_pos ⟨by rw [nI_s1, nI_clamp (by omega)]; omega, Int32.not_le.mp h47⟩]
              rw [hf]
              exact ⟨rfl, hC.Q hI q_Fq.rf⟩
          · refine w_bipush (pc' := 45) (-2) rfl rfl bp_m2 ?_
            refine w_iret rfl rfl rfl ?_
            have hf : f_tape T (nI jt) (nI js) n = (-2, T) := by unfold f_tape; rw [if_pos (q_is_nI hjt (by omega)), if_neg (fun z => z.2 ⟨by rw [nI_s1, nI_clamp (by omega)]; omega, Int32.not_le.mp h40⟩)]
            rw [hf]
            exact ⟨rfl, hC.Q hI q_Fq.rf⟩
    · obtain rfl : s = -1 := h16
      refine w_aload (pc' := 21) rfl rfl rfl rfl ?_
      refine w_iconst (pc' := 22) (-1) rfl rfl ic_m1 ?_
      refine w_iconst (pc' := 23) 0 rfl rfl ic_0 ?_
      refine w_cV2n (pc' := 26) (v_becomes xs (t := jt) (by omega) (-1) (0)) (by decide) rfl rfl rfl (Nat.le_of_ble_eq_true rfl) (shT (t := jt) (by omega)) rfl (fun m2 hm' => ?_)
      have hM := hm'
      refine w_iconst (pc' := 27) 1 rfl rfl ic_1 ?_
      refine w_iret rfl rfl rfl ?_
      have hf : f_tape T (nI jt) (-1) n = (1, q_Tz (q_Tu (q_Tu T 182 jt 0) 183 jt 0) jt 60) := by unfold f_tape; rw [if_pos (q_is_nI hjt (by omega)), if_pos ⟨by decide, fun z => absurd z.1 (by decide)⟩, if_neg (fun z => absurd z.1 (by decide)), nI_clamp (show jt < 2 ^ 31 by omega)]; exact Prod.ext rfl rfl
      rw [hf]
      exact ⟨rfl, hC.tape hI (s := 0) (n := 0) (by omega) (by decide) rfl hM⟩
