/-- the same, but for DREW -/
def q_E9 (T T' : q_T) : Prop := T'.2 = T.2 ∧ ∀ c k, c ≠ 159 → T'.1 c k = T.1 c k
theorem oc_9 {T T' : q_T} (h : q_E9 T T') (p : Nat) : ∀ (r k : Nat), oc T' p r k = oc T p r k := by
  intro r
  induction r with
  | zero => exact fun _ => rfl
  | succ r ih =>
    intro k
    rw [oc, oc, ih, h.2 156 k (by decide), h.2 156 p (by decide)]
theorem f_oc_9 {T T' : q_T} (h : q_E9 T T') (p : Nat) : f_oc T' p = f_oc T p := by
  unfold f_oc
  rw [oc_9 h, h.2 153 0 (by decide)]
theorem f_let_9 {T T' : q_T} (h : q_E9 T T') (p x : Nat) : f_let T' p x = f_let T p x := by
  unfold f_let
  simp only [h.2 156 _ (show 156 ≠ 159 by decide), h.2 162 _ (show 162 ≠ 159 by decide), h.2 153 _ (show 153 ≠ 159 by decide), h.2 155 _ (show 155 ≠ 159 by decide), h.2 154 _ (show 154 ≠ 159 by decide), h.2 157 _ (show 157 ≠ 159 by decide), f_oc_9 h]
theorem q_tst_9 {T T' : q_T} (h : q_E9 T T') (p x : Nat) : q_tst T' p x = q_tst T p x := by
  unfold q_tst
  rw [f_let_9 h]
theorem evl_9 {T T' : q_T} (h : q_E9 T T') (p : Nat) : ∀ (l : List Nat) (t : Nat) (S : Nat → Bool), evl T' p l t S = evl T p l t S := by
  intro l
  induction l with
  | nil => exact fun _ _ => rfl
  | cons x l ih =>
    intro t S
    rw [evl, evl, ih, ih, ih, ih, q_tst_9 h]
theorem sumo_9 {T T' : q_T} (h : q_E9 T T') (p : Nat) : ∀ (l : List q_Cl) (a : Int32), sumo T' p l a = sumo T p l a := by
  intro l
  induction l with
  | nil => exact fun _ => rfl
  | cons x l ih =>
    intro a
    rw [sumo, sumo, ih, evl_9 h]
theorem q_of_9 {T T' : q_T} (h : q_E9 T T') : q_of T' = q_of T := by
  unfold q_of
  rw [h.2 153 19 (by decide), h.1]
theorem f_sum_9 {T T' : q_T} (h : q_E9 T T') (p : Nat) : f_sum T' p = f_sum T p := by
  unfold f_sum
  rw [q_of_9 h, sumo_9 h, h.2 155 p (by decide), h.2 153 11 (by decide)]
theorem f_feel_9 {T T' : q_T} (h : q_E9 T T') (p : Nat) : f_feel T' p = f_feel T p := by
  unfold f_feel
  rw [f_sum_9 h, f_oc_9 h, h.2 154 p (by decide), h.2 155 p (by decide), h.2 157 p (by decide), h.2 156 p (by decide), h.2 162 _ (by decide), h.2 153 11 (by decide), h.2 161 _ (by decide)]
theorem q_ws_9 {T T' : q_T} (h : q_E9 T T') : q_ws T' = q_ws T := by
  funext i
  unfold q_ws f_way
  rw [f_feel_9 h, h.2 158 i (by decide), h.2 157 i (by decide)]
theorem f_know_9 {T T' : q_T} (h : q_E9 T T') : f_know T' = f_know T := by
  unfold f_know
  rw [q_of_9 h]
theorem q_al_9 {T T' : q_T} (h : q_E9 T T') (p mk : Nat) : ∀ (r k : Nat), q_al T' p mk r k = q_al T p mk r k := by
  intro r
  induction r with
  | zero => exact fun _ => rfl
  | succ r ih =>
    intro k
    rw [q_al, q_al, ih, h.2 160 _ (by decide)]
/-- the same, but for DREW above 9999 -/
def q_M9 (N : Nat) (T T' : q_T) : Prop := q_E9 T T' ∧ ∀ x, (x < N → min 9999 (T'.1 159 x) = min 9999 (T.1 159 x)) ∧ (N ≤ x → T'.1 159 x = T.1 159 x)
theorem q_M9.u {N c k x : Nat} {T T' : q_T} (h : q_M9 N T T') (hc : c ≠ 159) : q_M9 N (q_Tu T c k x) (q_Tu T' c k x) := by
  refine ⟨⟨h.1.1, fun c' k' hc' => ?_⟩, fun y => ?_⟩
  · show (if c' = c ∧ k' = k then x else T'.1 c' k') = if c' = c ∧ k' = k then x else T.1 c' k'
    rw [h.1.2 c' k' hc']
  · rw [show (q_Tu T' c k x).1 159 y = T'.1 159 y from q_Tu_ne (fun q => hc q.1.symm), show (q_Tu T c k x).1 159 y = T.1 159 y from q_Tu_ne (fun q => hc q.1.symm)]
    exact h.2 y
theorem q_M9.u9 {N p v v' : Nat} {T T' : q_T} (h : q_M9 N T T') (hp : p < N) (hv : min 9999 v' = min 9999 v) : q_M9 N (q_Tu T 159 p v) (q_Tu T' 159 p v') := by
  refine ⟨⟨h.1.1, fun c' k' hc' => ?_⟩, fun y => ?_⟩
  · rw [show (q_Tu T' 159 p v').1 c' k' = T'.1 c' k' from q_Tu_ne (fun q => hc' q.1), show (q_Tu T 159 p v).1 c' k' = T.1 c' k' from q_Tu_ne (fun q => hc' q.1)]
    exact h.1.2 c' k' hc'
  · by_cases e : y = p
    · subst e
      rw [show (q_Tu T' 159 y v').1 159 y = v' from q_Tu_eq, show (q_Tu T 159 y v).1 159 y = v from q_Tu_eq]
      exact ⟨fun _ => hv, fun z => by omega⟩
    · rw [show (q_Tu T' 159 p v').1 159 y = T'.1 159 y from q_Tu_ne (fun q => e q.2), show (q_Tu T 159 p v).1 159 y = T.1 159 y from q_Tu_ne (fun q => e q.2)]
      exact h.2 y
theorem q_gb_9 {N p a : Nat} {T T' : q_T} (h : q_M9 N T T') (hp : p < N) : q_M9 N (q_gb T p a) (q_gb T' p a) := by
  unfold q_gb
  rw [h.1.2 156 p (by decide), h.1.2 157 p (by decide), h.1.2 162 _ (by decide), h.1.2 153 10 (by decide)]
  exact ((((h.u (by decide)).u (by decide)).u (by decide)).u (by decide)).u9 hp (by have := (h.2 p).1 hp; omega)
theorem f_gb_9 {N p a kn : Nat} {T T' : q_T} (h : q_M9 N T T') (hp : p < N) : q_M9 N (f_gb T p a kn) (f_gb T' p a kn) := by
  have hg := q_gb_9 (a := a) h hp
  unfold f_gb
  rw [q_al_9 hg.1, h.1.2 156 p (by decide), h.1.2 157 p (by decide), h.1.2 162 _ (by decide)]
  split
  · exact hg.u (by decide)
  · exact hg
theorem q_go_9 {N kn : Nat} {W : Nat → Nat} : ∀ (r k : Nat) (T T' : q_T), q_M9 N T T' → k + r ≤ N → q_M9 N (q_go W kn r k T) (q_go W kn r k T') := by
  intro r
  induction r with
  | zero => exact fun _ _ _ h _ => h
  | succ r ih =>
    intro k T T' h hk
    rw [q_go, q_go]
    refine ih (k + 1) _ _ ?_ (by omega)
    split
    · exact h
    · exact f_gb_9 h (by omega)
theorem f_gh_9 {T T' : q_T} (h : q_M9 (T.1 153 0) T T') : q_M9 (T.1 153 0) (f_gh T) (f_gh T') := by
  have hg : q_M9 (T.1 153 0) (q_ge T) (q_ge T') := by
    unfold q_ge
    rw [q_ws_9 h.1, f_know_9 h.1, h.1.2 153 0 (by decide)]
    exact q_go_9 _ _ _ _ h (by omega)
  unfold f_gh
  rw [hg.1.2 153 11 (by decide)]
  exact hg.u (by decide)
theorem q_go_n {W : Nat → Nat} {kn : Nat} : ∀ (r k : Nat) (T : q_T), (q_go W kn r k T).1 153 0 = T.1 153 0 := by
  intro r
  induction r with
  | zero => exact fun _ _ => rfl
  | succ r ih =>
    intro k T
    rw [q_go, ih]
    split
    · rfl
    · exact f_gb_o (by omega) (by omega) (by omega) (by omega) (by omega) (by omega)
theorem f_gh_n {T : q_T} : (f_gh T).1 153 0 = T.1 153 0 := (q_Tu_ne (by omega)).trans (q_go_n _ _ _)
theorem f_gn_9 : ∀ (n : Nat) (T T' : q_T), q_M9 (T.1 153 0) T T' → q_M9 (T.1 153 0) (f_gn n T) (f_gn n T') := by
  intro n
  induction n with
  | zero => exact fun _ _ h => h
  | succ n ih =>
    intro T T' h
    rw [f_gn, f_gn]
    have h1 := ih (f_gh T) (f_gh T') (by rw [f_gh_n]; exact f_gh_9 h)
    rw [f_gh_n] at h1
    exact h1
theorem f_gn_n : ∀ (n : Nat) (T : q_T), (f_gn n T).1 153 0 = T.1 153 0 := by
  intro n
  induction n with
  | zero => exact fun _ => rfl
  | succ n ih =>
    intro T
    rw [f_gn, ih, f_gh_n]
theorem f_cap_9 {T T' : q_T} (h : q_M9 (T.1 153 0) T T') : f_cap T' = f_cap T := by
  refine Prod.ext ?_ h.1.1
  funext c k
  show (if c = 159 then q_cap T' (T'.1 153 0) k else T'.1 c k) = if c = 159 then q_cap T (T.1 153 0) k else T.1 c k
  by_cases e : c = 159
  · rw [if_pos e, if_pos e, h.1.2 153 0 (by decide)]
    unfold q_cap
    by_cases f : k < T.1 153 0
    · rw [if_pos f, if_pos f]
      exact (h.2 k).1 f
    · rw [if_neg f, if_neg f]
      exact (h.2 k).2 (by omega)
  · rw [if_neg e, if_neg e]
    exact h.1.2 c k e
theorem f_cap_159 {T : q_T} {x : Nat} : (f_cap T).1 159 x = q_cap T (T.1 153 0) x := by
  show (if (159 : Nat) = 159 then q_cap T (T.1 153 0) x else T.1 159 x) = _
  exact if_pos rfl
theorem q_M9_cap (T : q_T) : q_M9 (T.1 153 0) T (f_cap T) := by
  refine ⟨⟨rfl, fun c k hc => if_neg hc⟩, fun x => ?_⟩
  rw [f_cap_159]
  unfold q_cap
  refine ⟨fun hx => ?_, fun hx => if_neg (by omega)⟩
  rw [if_pos hx]
  omega
theorem f_pn_eq : ∀ (n : Nat) (T : q_T), (∀ i, T.1 159 i ≤ 9999) → f_pn n T = f_cap (f_gn n T) := by
  intro n
  induction n with
  | zero => exact fun T h => (q_mr_T (T := T) (D := q_cap T (T.1 153 0)) (fun x => by have := h x; unfold q_cap; split <;> omega)).symm
  | succ n ih =>
    intro T h
    rw [f_pn, f_gn, ih (f_cap (f_gh T)) (fun i => ?_)]
    · have e := f_gn_9 n (f_gh T) (f_cap (f_gh T)) (q_M9_cap _)
      rw [← f_gn_n n (f_gh T)] at e
      exact f_cap_9 e
    · rw [f_cap_159]
      unfold q_cap
      split
      · omega
      · rename_i e
        rw [f_gh_n] at e
        rw [show (f_gh T).1 159 i = T.1 159 i from (q_Tu_ne (by omega)).trans (q_go_59 _ _ _ _ (by omega))]
        exact h i
theorem f_cap_Ag {T : q_T} (h : T.1 153 0 < 7) : q_Ag T (f_cap T) := by
  refine ⟨rfl, fun c k hk => ?_⟩
  show (if c = 159 then q_cap T (T.1 153 0) k else T.1 c k) = T.1 c k
  split
  · rename_i e
    subst e
    unfold q_cap
    refine if_neg (fun z => hk ?_)
    rw [q_pi_159 (by omega)]
    omega
  · rfl
set_option maxRecDepth 100000 in
set_option maxHeartbeats 4000000 in
theorem v_k_pass (xs : List Int32) {T : q_T} {m : am_Mm} (hC : q_Rc T m) (hI : q_I T) (n : Int32) : am_V xs 8 84 [.ref 0, .int n] m (am_qi (f_pass T n).1 (q_Q (f_pass T n).2 m)) := by
  have hY := hI.1.1
  have hB := hY.1
  have hl6 := hI.1.2.1
  have hn0 : T.1 153 0 < 7 := hB 153 0
  have hF : q_Fl 1 m m := q_Fl.rf
  have hR1 := hC.1
  have hr9 := hY.2.2.2.1
  refine am_V_of ky_84 (Nat.le_of_ble_eq_true rfl) ?_
  show am_P xs 7 k_pass 0 [some (.ref 0), some (.int n)] [] m _
  refine w_iload_n (pc' := 1) rfl rfl rfl ?_
  refine w_if_lt (t := 10) (pc' := 4) rfl (by decide) rfl (fun h1 => ?_) (fun h1 => ?_)
  · have hnegn : n < 0 := h1
    refine w_bipush (pc' := 12) (-2) rfl rfl bp_m2 ?_
    refine w_iret rfl rfl rfl ?_
    have hf : f_pass T n = (-2, T) := by simp [f_pass, q_is_neg hnegn (n := 61) (by omega)]
    rw [hf]
    exact ⟨rfl, hC.Q hI (q_Fq.rf)⟩
  · obtain ⟨jn, hjn, rfl⟩ := nI_of (x := n) h1
    refine w_iload_n (pc' := 5) rfl rfl rfl ?_
    refine w_bipush (pc' := 7) 60 rfl rfl bp_60 ?_
    refine w_ic_le (t := 13) (pc' := 10) rfl (by decide) rfl (fun h7 => ?_) (fun h7 => ?_)
    · have g1 : jn ≤ 60 := (nI_leI (a := jn) (b := 60) (by omega) (by omega)).mp h7
      refine w_aload_n (pc' := 14) rfl rfl rfl rfl ?_
      refine w_getC (pc' := 17) rfl rfl rfl sh_0 rfl ?_
      refine w_getI (pc' := 20) rfl rfl rfl (shL q_L1) rfl ?_
      rw [show m.1 1 2 = nI (T.1 153 11) from hR1.2.2.1]
      refine w_iload_n (pc' := 21) rfl rfl rfl ?_
      refine w_iadd (pc' := 22) rfl rfl ?_
      rw [show nI ((T.1 153 11)) + nI (jn) = nI ((T.1 153 11) + jn) from nI_add _ _]
      refine w_sipush (pc' := 25) 9999 rfl rfl sp_9999 ?_
      refine w_ic_le (t := 31) (pc' := 28) rfl (by decide) rfl (fun h25 => ?_) (fun h25 => ?_)
      · have g2 : (T.1 153 11) + jn ≤ 9999 := (nI_leI (a := (T.1 153 11) + jn) (b := 9999) (by omega) (by omega)).mp h25
        refine w_aload_n (pc' := 32) rfl rfl rfl rfl ?_
        refine w_getC (pc' := 35) rfl rfl rfl sh_0 rfl ?_
        refine w_iload_n (pc' := 36) rfl rfl rfl ?_
        refine w_cV1n (pc' := 39) (v_la_hoursGo xs q_L1 (n := jn) (h0 := 0) hR1 hY hC.2.1 hl6 (by omega)) (by decide) rfl rfl rfl (Nat.le_of_ble_eq_true rfl) (shL q_L1) rfl (fun m1 hm' => ?_)
        obtain ⟨hR_1, hF_1⟩ := hm'
        have hG := f_gn_inv jn 0 T hY (by omega)
        refine w_aload_n (pc' := 40) rfl rfl rfl rfl ?_
        refine w_getC (pc' := 43) rfl rfl rfl sh_0 rfl ?_
        refine w_cV0n (pc' := 46) (v_la_capDrew xs q_L1 hR_1 hG.1.1 (fun i => by have := hG.1.2.2.2.2 i; omega)) (by decide) rfl rfl rfl (Nat.le_of_ble_eq_true rfl) (shL q_L1) rfl (fun m2 hm' => ?_)
        obtain ⟨hR_2, hF_2⟩ := hm'
        have hF_2 := hF_1.tr hF_2
        refine w_aload_n (pc' := 47) rfl rfl rfl rfl ?_
        refine w_getC (pc' := 50) rfl rfl rfl sh_0 rfl ?_
        refine w_getI (pc' := 53) rfl rfl rfl (shL q_L1) rfl ?_
        rw [show m2.1 1 2 = nI ((f_cap (f_gn jn T)).1 153 11) from hR_2.2.2.1]
        refine w_iret rfl rfl rfl ?_
        have hf : f_pass T (nI jn) = (nI ((f_cap (f_gn jn T)).1 153 11), f_cap (f_gn jn T)) := by unfold f_pass; rw [if_pos (q_is_nI (by omega) (by omega)), nI_clamp (by omega), if_pos (by omega), f_pn_eq jn T (fun i => by have := hY.2.2.2.2 i; omega)]
        rw [hf]
        exact ⟨rfl, hC.l1 hI hR_2 hF_2 (hG.2.1.Ag.tr (f_cap_Ag (by rw [f_gn_n]; omega))) (fun c k hc => (if_neg (by omega)).trans (hG.2.1.2.1 c k (by omega) (by omega))), hF_2.FM (by omega)⟩
      · have g3 : ¬ (T.1 153 11) + jn ≤ 9999 := fun q => h25 ((nI_leI (a := (T.1 153 11) + jn) (b := 9999) (by omega) (by omega)).mpr q)
        refine w_bipush (pc' := 30) (-3) rfl rfl bp_m3 ?_
        refine w_iret rfl rfl rfl ?_
        have hf : f_pass T (nI jn) = (-3, T) := by simp [f_pass, nI_clamp (show jn < 2 ^ 31 by omega), q_is_nI (n := 61) (j := jn) (by omega) (by omega), g1, Nat.not_lt.mpr g1, g3, Nat.lt_of_not_le g3]
        rw [hf]
        exact ⟨rfl, hC.Q hI (q_Fq.rf)⟩
    · have g4 : ¬ jn ≤ 60 := fun q => h7 ((nI_leI (a := jn) (b := 60) (by omega) (by omega)).mpr q)
      refine w_bipush (pc' := 12) (-2) rfl rfl bp_m2 ?_
      refine w_iret rfl rfl rfl ?_
      have hf : f_pass T (nI jn) = (-2, T) := by simp [f_pass, nI_clamp (show jn < 2 ^ 31 by omega), q_is_big (n := 61) (j := jn) (by omega) (by omega), g4, Nat.lt_of_not_le g4]
      rw [hf]
      exact ⟨rfl, hC.Q hI (q_Fq.rf)⟩
