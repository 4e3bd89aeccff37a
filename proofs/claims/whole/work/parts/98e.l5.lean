/-- from a heap that is not whole yet -/
def am_X (xs : List Int32) (d : Nat) (M : am_M) (pc : Nat) (L : am_L) (st : List Value) (es : am_H) (Q : am_Q) : Prop := ∃ (n : Nat) (v : Option Value) (m' : am_Mm), am_run xs (am_call xs d n) M n pc L st es = some (v, am_rep m') ∧ Q v m'
theorem am_X_go {xs : List Int32} {d : Nat} {M : am_M} {pc pc' : Nat} {L L' : am_L} {st st' : List Value} {es es' : am_H} {Q : am_Q} {i : Instr} {len : Nat} (h : am_at M pc = some (i, len)) (hs : ∀ cl, am_ins xs cl M pc i L st es = some (.inl (pc', L', st', es'))) (k : am_X xs d M pc' L' st' es' Q) : am_X xs d M pc L st es Q := by
  obtain ⟨n, v, m2, h2, hq⟩ := k
  refine ⟨n + 1, v, m2, ?_, hq⟩
  unfold am_run
  rw [h]
  dsimp only
  rw [hs]
  exact am_run_le (am_call_le xs d d n (n + 1) (Nat.le_refl _) (Nat.le_succ _)) _ _ _ _ _ _ _ (Nat.le_refl _) h2
theorem am_X_ini {xs : List Int32} {d d0 n0 : Nat} {M : am_M} {pc idx y b : Nat} {L : am_L} {r : List Value} {es es' : am_H} {Q : am_Q} (h : am_at M pc = some (.invokespecial idx, 3)) (hm : (am_mt M.1).lookup idx = some (2, y, 0)) (hb : b < 1000000) (hc8 : am_cat r ≤ 8) (hc : am_callB d0 n0 y [.ref b] es = some (none, es')) (hd : d0 ≤ d) (k : am_X xs d M (pc + 3) L r es' Q) : am_X xs d M pc L (.ref b :: r) es Q := by
  obtain ⟨n2, v2, m2, h2, q2⟩ := k
  refine ⟨n0 + n2 + 1, v2, m2, ?_, q2⟩
  have e : am_ins xs (am_call xs d (n0 + n2 + 1)) M pc (.invokespecial idx) L (.ref b :: r) es = some (.inl (pc + 3, L, r, es')) := by
    show am_call1 (am_call xs d (n0 + n2 + 1)) M.1 idx true [2, 5] (.ref b :: r) (pc + 3) L es = _
    unfold am_call1
    rw [hm]
    dsimp only
    rw [if_pos (by decide)]
    unfold am_inv
    rw [if_neg (by decide)]
    show (if am_cat r ≤ 8 ∧ (((2 = 2 ∨ 2 = 5) ∧ b < 1000000) ∨ (2 = 0 ∧ am_recv y b es = true)) then am_res (am_call xs d (n0 + n2 + 1) y [.ref b] es) (pc + 3) L r else none) = _
    rw [if_pos ⟨hc8, Or.inl ⟨Or.inl rfl, hb⟩⟩, am_call_B xs d0 d n0 (n0 + n2 + 1) hd (by omega) _ _ _ _ hc]
    rfl
  unfold am_run
  rw [h]
  dsimp only
  rw [e]
  exact am_run_le (am_call_le xs d d n2 (n0 + n2 + 1) (Nat.le_refl _) (by omega)) _ _ _ _ _ _ _ (by omega) h2
theorem am_rep_len (m : am_Mm) : (am_rep m).length = 185 := by
  unfold am_rep
  rw [List.length_mapIdx]
  rfl
theorem am_rep_153 : ((am_rep q_m0).take 153).length = 153 := by
  rw [List.length_take, am_rep_len]
  rfl
theorem lw_start (xs : List Int32) {Q : am_Q} (k : am_P xs 40 L_law 18 [some (.ref 1000202), some (.ref 0), some (.ref 153), some (.int 0)] [] q_m0 Q) : am_X xs 40 L_law 0 (am_ini 4 [.ref 1000202]) [] [] Q := by
  refine am_X_go at_L_0 (pc' := 3) (L' := [some (.ref 1000202), none, none, none]) (st' := [.ref 0]) (es' := [.inr (8, am_df 8)]) (fun cl => rfl) ?_
  refine am_X_go at_L_3 (pc' := 4) (L' := [some (.ref 1000202), none, none, none]) (st' := [.ref 0, .ref 0]) (es' := [.inr (8, am_df 8)]) (fun cl => rfl) ?_
  refine am_X_ini at_L_4 rfl (by decide) (by decide) am_new_k (by decide) ?_
  generalize hE : (am_rep q_m0).take 153 = E
  have hl : E.length = 153 := by rw [← hE]; exact am_rep_153
  refine am_X_go at_L_7 (pc' := 8) (L' := [some (.ref 1000202), some (.ref 0), none, none]) (st' := []) (es' := E) (fun cl => rfl) ?_
  refine am_X_go at_L_8 (pc' := 11) (L' := [some (.ref 1000202), some (.ref 0), none, none]) (st' := [.ref 153]) (es' := E ++ [.inr (9, am_df 9)]) (fun cl => ?_) ?_
  · show am_newo L_law.1 10 [] (8 + 3) _ E = _
    unfold am_newo
    rw [show (am_new L_law.1).lookup 10 = some 9 from rfl]
    dsimp only
    rw [if_pos (by omega), hl]
    rfl
  refine am_X_go at_L_11 (pc' := 12) (L' := [some (.ref 1000202), some (.ref 0), none, none]) (st' := [.ref 153, .ref 153]) (es' := E ++ [.inr (9, am_df 9)]) (fun cl => rfl) ?_
  refine am_X_ini at_L_12 rfl (by decide) (by decide) (by rw [← hE]; exact am_new_m) (by decide) ?_
  refine am_X_go at_L_15 (pc' := 16) (L' := [some (.ref 1000202), some (.ref 0), some (.ref 153), none]) (st' := []) (es' := am_rep q_m0) (fun cl => rfl) ?_
  refine am_X_go at_L_16 (pc' := 17) (L' := [some (.ref 1000202), some (.ref 0), some (.ref 153), none]) (st' := [.int 0]) (es' := am_rep q_m0) (fun cl => rfl) ?_
  exact am_X_go at_L_17 (pc' := 18) (L' := [some (.ref 1000202), some (.ref 0), some (.ref 153), some (.int 0)]) (st' := []) (es' := am_rep q_m0) (fun cl => rfl) k
theorem lw_lt {n i : Nat} (hn : n ≤ 3072) (hi : i ≤ 3072) : (nI n - 6 < nI i) ↔ n < i + 6 := by
  by_cases h : 6 ≤ n
  · rw [show nI n - 6 = nI (n - 6) from nI_subN (a := n) (b := 6) h, nI_ltI (a := n - 6) (b := i) (by omega) (by omega)]
    omega
  · have h0 : nI n - 6 < 0 := by
      rcases (show n = 0 ∨ n = 1 ∨ n = 2 ∨ n = 3 ∨ n = 4 ∨ n = 5 by omega) with rfl | rfl | rfl | rfl | rfl | rfl <;> decide
    exact iff_of_true (Int32.lt_of_lt_of_le h0 (nI_pos' (by omega))) (by omega)
set_option maxRecDepth 100000 in
set_option maxHeartbeats 4000000 in
theorem lw_loop (xs : List Int32) (hlen : xs.length ≤ 3072) : ∀ (N i : Nat) (T : q_T) (m : am_Mm), xs.length < i + 6 * N + 6 → i ≤ xs.length → q_Rm T m → q_Rc T m → q_Kp T → am_P xs 40 L_law 18 [some (.ref 1000202), some (.ref 0), some (.ref 153), some (.int (nI i))] [] m (fun v _ => v = some (.int 1)) := by
  intro N
  induction N with
  | zero =>
    intro i T m hN hi hm hC hK
    refine w_iload_n (pc' := 19) at_L_18 rfl rfl ?_
    refine w_aload_n (pc' := 20) at_L_19 rfl rfl rfl ?_
    refine w_alenR (pc' := 21) at_L_20 rfl (by decide) rfl rfl ?_
    refine w_bipush (pc' := 23) 6 at_L_21 rfl bp_6 ?_
    refine w_isub (pc' := 24) at_L_23 rfl ?_
    refine w_ic_gt (t := 1221) (pc' := 27) at_L_24 (by decide) rfl (fun h => ?_) (fun h => ?_)
    · refine w_iconst (pc' := 1222) 1 at_L_1221 rfl ic_1 ?_
      exact w_iret at_L_1222 rfl rfl rfl
    · exact absurd ((lw_lt hlen (by omega)).mpr (by omega)) h
  | succ N ih =>
    intro i T m hN hi hm hC hK
    refine w_iload_n (pc' := 19) at_L_18 rfl rfl ?_
    refine w_aload_n (pc' := 20) at_L_19 rfl rfl rfl ?_
    refine w_alenR (pc' := 21) at_L_20 rfl (by decide) rfl rfl ?_
    refine w_bipush (pc' := 23) 6 at_L_21 rfl bp_6 ?_
    refine w_isub (pc' := 24) at_L_23 rfl ?_
    refine w_ic_gt (t := 1221) (pc' := 27) at_L_24 (by decide) rfl (fun h => ?_) (fun h => ?_)
    · refine w_iconst (pc' := 1222) 1 at_L_1221 rfl ic_1 ?_
      exact w_iret at_L_1222 rfl rfl rfl
    · have h6 : i + 6 ≤ xs.length := Nat.le_of_not_lt (fun z => h ((lw_lt hlen (by omega)).mpr z))
      obtain ⟨v0, h0⟩ : ∃ v, xs[i]? = some v := ⟨xs[i]'(by omega), List.getElem?_eq_getElem _⟩
      obtain ⟨v1, h1⟩ : ∃ v, xs[i + 1]? = some v := ⟨xs[i + 1]'(by omega), List.getElem?_eq_getElem _⟩
      obtain ⟨v2, h2⟩ : ∃ v, xs[i + 2]? = some v := ⟨xs[i + 2]'(by omega), List.getElem?_eq_getElem _⟩
      obtain ⟨v3, h3⟩ : ∃ v, xs[i + 3]? = some v := ⟨xs[i + 3]'(by omega), List.getElem?_eq_getElem _⟩
      obtain ⟨v4, h4⟩ : ∃ v, xs[i + 4]? = some v := ⟨xs[i + 4]'(by omega), List.getElem?_eq_getElem _⟩
      obtain ⟨v5, h5⟩ : ∃ v, xs[i + 5]? = some v := ⟨xs[i + 5]'(by omega), List.getElem?_eq_getElem _⟩
      have fin : ∀ (T' : q_T) (m' : am_Mm), q_Rm T' m' → q_Rc T' m' → q_Kp T' → am_P xs 40 L_law 1215 [some (.ref 1000202), some (.ref 0), some (.ref 153), some (.int (nI i))] [] m' (fun v _ => v = some (.int 1)) := fun T' m' a b c => by
        refine w_iinc3 (pc' := 1218) 6 at_L_1215 rfl rfl rfl ?_
        rw [show nI i + Int32.ofInt 6 = nI (i + 6) from nI_add i 6]
        refine w_goto (pc' := 18) at_L_1218 (by decide) ?_
        exact ih (i + 6) T' m' (by omega) h6 a b c
      refine w_aload_n (pc' := 28) at_L_27 rfl rfl rfl ?_
      refine w_iload_n (pc' := 29) at_L_28 rfl rfl ?_
      refine w_ialdR (j := i) (pc' := 30) at_L_29 rfl (by decide) rfl rfl h0 (by omega) ?_
      refine w_bipush (pc' := 32) 31 at_L_30 rfl (by decide) ?_
      refine w_iand (pc' := 33) at_L_32 rfl ?_
      refine w_tsw (t := 1215) at_L_33 rfl (fun _ => fin T m hm hC hK) (fun z hl hh _ => ?_)
      rcases (show z = 0 ∨ z = 1 ∨ z = 2 ∨ z = 3 ∨ z = 4 ∨ z = 5 ∨ z = 6 ∨ z = 7 ∨ z = 8 ∨ z = 9 ∨ z = 10 ∨ z = 11 ∨ z = 12 ∨ z = 13 ∨ z = 14 ∨ z = 15 ∨ z = 16 ∨ z = 17 ∨ z = 18 ∨ z = 19 ∨ z = 20 ∨ z = 21 ∨ z = 22 ∨ z = 23 ∨ z = 24 ∨ z = 25 ∨ z = 26 ∨ z = 27 ∨ z = 28 ∨ z = 29 ∨ z = 30 ∨ z = 31 by omega) with rfl | rfl | rfl | rfl | rfl | rfl | rfl | rfl | rfl | rfl | rfl | rfl | rfl | rfl | rfl | rfl | rfl | rfl | rfl | rfl | rfl | rfl | rfl | rfl | rfl | rfl | rfl | rfl | rfl | rfl | rfl | rfl
      · exact ⟨143, 176, rfl, rfl, lc_drawer xs hm hC hK h1 h2 h3 (by omega) fin⟩
      · exact ⟨186, 219, rfl, rfl, lc_of xs hm hC hK h1 h2 (by omega) fin⟩
      · exact ⟨219, 252, rfl, rfl, lc_sheet xs hm hC hK h1 h2 (by omega) fin⟩
      · exact ⟨252, 285, rfl, rfl, lc_put xs hm hC hK h1 h2 (by omega) fin⟩
      · exact ⟨285, 318, rfl, rfl, lc_anew xs hm hC hK h1 (by omega) fin⟩
      · exact ⟨308, 341, rfl, rfl, lc_mark xs hm hC hK h1 h2 (by omega) fin⟩
      · exact ⟨341, 374, rfl, rfl, lc_row xs hm hC hK h1 h2 h3 (by omega) fin⟩
      · exact ⟨384, 417, rfl, rfl, lc_feed xs hm hC hK h1 (by omega) fin⟩
      · exact ⟨407, 440, rfl, rfl, lc_office xs hm hC hK (by omega) fin⟩
      · exact ⟨420, 453, rfl, rfl, lc_told xs hm hC hK h1 (by omega) fin⟩
      · exact ⟨443, 476, rfl, rfl, lc_pass xs hm hC hK h1 (by omega) fin⟩
      · exact ⟨466, 499, rfl, rfl, lc_on xs hm hC hK h1 h2 (by omega) fin⟩
      · exact ⟨499, 532, rfl, rfl, lc_best xs hm hC hK h1 h2 (by omega) fin⟩
      · exact ⟨532, 565, rfl, rfl, lc_see xs hm hC hK h1 h2 h3 (by omega) fin⟩
      · exact ⟨575, 608, rfl, rfl, lc_can xs hm hC hK h1 h2 (by omega) fin⟩
      · exact ⟨608, 641, rfl, rfl, lc_odds xs hm hC hK h1 h2 h3 (by omega) fin⟩
      · exact ⟨652, 685, rfl, rfl, lc_mean xs hm hC hK h1 h2 (by omega) fin⟩
      · exact ⟨686, 719, rfl, rfl, lc_plan xs hm hC hK h1 h2 (by omega) fin⟩
      · exact ⟨719, 752, rfl, rfl, lc_ends xs hm hC hK h1 (by omega) fin⟩
      · exact ⟨742, 775, rfl, rfl, lc_book xs hm hC hK h1 h2 (by omega) fin⟩
      · exact ⟨775, 808, rfl, rfl, lc_looked xs hm hC hK (by omega) fin⟩
      · exact ⟨788, 821, rfl, rfl, lc_judge xs hm hC hK h1 h2 (by omega) fin⟩
      · exact ⟨821, 854, rfl, rfl, lc_image xs hm hC hK (by omega) fin⟩
      · exact ⟨834, 867, rfl, rfl, lc_undo xs hm hC hK (by omega) fin⟩
      · exact ⟨847, 880, rfl, rfl, lc_act xs hm hC hK h1 h2 h3 (by omega) fin⟩
      · exact ⟨890, 923, rfl, rfl, lc_trace xs hm hC hK h1 (by omega) fin⟩
      · exact ⟨913, 946, rfl, rfl, lc_taken xs hm hC hK h1 h2 (by omega) fin⟩
      · exact ⟨946, 979, rfl, rfl, lc_count xs hm hC hK h1 (by omega) fin⟩
      · exact ⟨969, 1002, rfl, rfl, lc_tape xs hm hC hK h1 h2 h3 (by omega) fin⟩
      · exact ⟨1012, 1045, rfl, rfl, lc_item xs hm hC hK h1 h2 h3 h4 (by omega) fin⟩
      · exact ⟨1085, 1118, rfl, rfl, lc_read xs hm hC hK h1 h2 (by omega) fin⟩
      · exact ⟨1119, 1152, rfl, rfl, lc_shift xs hm hC hK h1 h2 h3 h4 h5 (by omega) fin⟩
theorem am_ez_rep (m m2 : am_Mm) : (am_rep m).map am_esz = (am_rep m2).map am_esz := by
  apply List.ext_getElem?
  intro j
  rw [List.getElem?_map, List.getElem?_map]
  unfold am_rep
  rw [List.getElem?_mapIdx, List.getElem?_mapIdx]
  cases am_sh[j]? with
  | none => rfl
  | some x =>
    refine congrArg some (show am_esz (am_ent m j x) = am_esz (am_ent m2 j x) from ?_)
    rcases x with ⟨ty, n⟩ | ⟨ty, l⟩ | ⟨ci, ks⟩
    · unfold am_ent am_esz
      dsimp only
      by_cases h : ty = .long
      · rw [if_pos h, if_pos h]
        unfold am_len
        simp
      · rw [if_neg h, if_neg h]
        unfold am_len
        simp
    · rfl
    · unfold am_ent am_esz
      simp
theorem am_sz_rep (m m2 : am_Mm) : am_sz (am_rep m) = am_sz (am_rep m2) := congrArg List.sum (am_ez_rep m m2)
theorem am_goal (xs : List Int32) (hlen : xs.length ≤ 3072) : am_Goal xs := by
  obtain ⟨n, v, m', h1, h2⟩ := lw_start xs (lw_loop xs hlen (xs.length / 6 + 1) 0 q_T0 q_m0 (by omega) (Nat.zero_le _) q_m0_Rm q_m0_Rc q_T0_Kp)
  subst h2
  refine ⟨40, n, am_rep m', by decide, h1, ?_, ?_⟩
  · rw [am_rep_len]
    decide
  · rw [am_sz_rep m' q_m0]
    decide +kernel
theorem whole_start {p : Program} {e : Env} {s : State} {m : MethodId} {below : List Frame} {meth : Method} {c : Code} (l : Launch) (hflags : l.flags = flags0) {b L : Nat} {xs : Nat → Int32} (hL : L ≤ 3072) (C0 : lw_At p s m meth c b L xs) : W p l e room_1 s m #[Value.ref b] below meth c s.heap [] 0 0 (lw_Z below #[Value.ref b] s) (entryFrame m ([Value.ref b] : List Value).toArray 4) :=
  am_whole l (am_goal ((List.range L).map xs) (by rw [List.length_map, List.length_range]; exact hL)) C0
