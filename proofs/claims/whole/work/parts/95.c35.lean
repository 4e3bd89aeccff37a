theorem q_ka.app {m0 m : am_Mm} {j pos kn a b : Nat} {ss : List (Nat × Nat)} (h : q_ka m0 j pos kn ss m) (hl : ss.length < pos) : q_ka m0 j pos kn (ss ++ [(a, b)]) (am_u (am_u (am_u m (123 + 3 * j + 1) ss.length (nI a)) (123 + 3 * j + 2) ss.length (nI b)) (123 + 3 * j) 3 (nI (ss.length + 1))) := by
  obtain ⟨⟨h1, h2, h3, h4⟩, ⟨k1, k2, k3⟩, k4⟩ := h
  have el : (ss ++ [(a, b)]).length = ss.length + 1 := by rw [List.length_append]; rfl
  refine ⟨⟨fun c k x y => (am_u_ne (by omega)).trans ((am_u_ne (by omega)).trans ((am_u_ne (by omega)).trans (h1 c k x y))), h2, (am_u_ne (by omega)).trans ((am_u_ne (by omega)).trans ((am_u_ne (by omega)).trans h3)), (am_u_ne (by omega)).trans ((am_u_ne (by omega)).trans ((am_u_ne (by omega)).trans h4))⟩, ⟨(am_u_ne (by omega)).trans ((am_u_ne (by omega)).trans ((am_u_ne (by omega)).trans k1)), am_u_eq.trans (congrArg nI el.symm), fun i s hs => ?_⟩, by rw [el]; omega⟩
  by_cases e : i = ss.length
  · subst e
    rw [List.getElem?_append_right (Nat.le_refl _), Nat.sub_self] at hs
    have hs : (a, b) = s := Option.some.inj hs
    subst hs
    exact ⟨(am_u_ne (by omega)).trans ((am_u_ne (by omega)).trans am_u_eq), (am_u_ne (by omega)).trans am_u_eq⟩
  · have hi : i < (ss ++ [(a, b)]).length := (List.getElem?_eq_some_iff.mp hs).1
    rw [el] at hi
    rw [List.getElem?_append_left (by omega)] at hs
    exact ⟨(am_u_ne (by omega)).trans ((am_u_ne (by omega)).trans ((am_u_ne (by omega)).trans (k3 i s hs).1)), (am_u_ne (by omega)).trans ((am_u_ne (by omega)).trans ((am_u_ne (by omega)).trans (k3 i s hs).2))⟩
theorem q_kq.app {m0 m : am_Mm} {j pos z x : Nat} {a b : Int32} (h : q_kq m0 j pos m) : q_kq m0 j pos (am_u (am_u (am_u m (123 + 3 * j + 1) z a) (123 + 3 * j + 2) z b) (123 + 3 * j) 3 (nI x)) := by
  obtain ⟨h1, h2, h3, h4⟩ := h
  exact ⟨fun c k x y => (am_u_ne (by omega)).trans ((am_u_ne (by omega)).trans ((am_u_ne (by omega)).trans (h1 c k x y))), h2, (am_u_ne (by omega)).trans ((am_u_ne (by omega)).trans ((am_u_ne (by omega)).trans h3)), (am_u_ne (by omega)).trans ((am_u_ne (by omega)).trans ((am_u_ne (by omega)).trans h4))⟩
set_option maxRecDepth 100000 in
set_option maxHeartbeats 4000000 in
theorem v_of_append (xs : List Int32) {m : am_Mm} {j z : Nat} (hj : j < 6) (hz : m.1 (123 + 3 * j) 3 = nI z) (hz1 : z ≤ 100) (a b : Nat) : am_V xs 1 77 [.ref (123 + 3 * j), .int (nI a), .int (nI b)] m (am_qn (· = if z < 100 then am_u (am_u (am_u m (123 + 3 * j + 1) z (nI a)) (123 + 3 * j + 2) z (nI b)) (123 + 3 * j) 3 (nI (z + 1)) else m)) := by
  refine am_V_of ky_77 (Nat.le_of_ble_eq_true rfl) ?_
  show am_P xs 0 of_append 0 [some (.ref (123 + 3 * j)), some (.int (nI a)), some (.int (nI b))] [] m _
  refine w_aload_n (pc' := 1) rfl rfl rfl rfl ?_
  refine w_getI (pc' := 4) rfl rfl rfl (shO (j := j) (by omega)) rfl ?_
  rw [show m.1 (123 + 3 * j) 3 = nI z from hz]
  refine w_if_lt (t := 46) (pc' := 7) rfl (by decide) rfl (fun h4 => ?_) (fun h4 => ?_)
  · have g1 : z < 0 := (nI_ltI (a := z) (b := 0) (by omega) (by omega)).mp h4
    omega
  · have g2 : ¬ z < 0 := fun q => h4 ((nI_ltI (a := z) (b := 0) (by omega) (by omega)).mpr q)
    refine w_aload_n (pc' := 8) rfl rfl rfl rfl ?_
    refine w_getI (pc' := 11) rfl rfl rfl (shO (j := j) (by omega)) rfl ?_
    rw [show m.1 (123 + 3 * j) 3 = nI z from hz]
    refine w_bipush (pc' := 13) 100 rfl rfl bp_100 ?_
    refine w_ic_ge (t := 46) (pc' := 16) rfl (by decide) rfl (fun h13 => ?_) (fun h13 => ?_)
    · have g3 : 100 ≤ z := (nI_leI (a := 100) (b := z) (by omega) (by omega)).mp h13
      refine w_vret rfl rfl ?_
      exact ⟨rfl, (if_neg (by omega)).symm⟩
    · have g4 : ¬ 100 ≤ z := fun q => h13 ((nI_leI (a := 100) (b := z) (by omega) (by omega)).mpr q)
      refine w_aload_n (pc' := 17) rfl rfl rfl rfl ?_
      refine w_getC (pc' := 20) rfl rfl rfl (shO (j := j) (by omega)) rfl ?_
      refine w_aload_n (pc' := 21) rfl rfl rfl rfl ?_
      refine w_getI (pc' := 24) rfl rfl rfl (shO (j := j) (by omega)) rfl ?_
      rw [show m.1 (123 + 3 * j) 3 = nI z from hz]
      refine w_iload_n (pc' := 25) rfl rfl rfl ?_
      refine w_iast (j := (z)) (pc' := 26) rfl rfl (shOs (j := j) (by omega)) rfl (by omega) (by decide) ?_
      refine w_aload_n (pc' := 27) rfl rfl rfl rfl ?_
      refine w_getC (pc' := 30) rfl rfl rfl (shO (j := j) (by omega)) rfl ?_
      refine w_aload_n (pc' := 31) rfl rfl rfl rfl ?_
      refine w_getI (pc' := 34) rfl rfl rfl (shO (j := j) (by omega)) rfl ?_
      rw [show (am_u m (123 + 3 * j + 1) z (nI a)).1 (123 + 3 * j) 3 = nI z from (am_u_ne (by omega)).trans hz]
      refine w_iload_n (pc' := 35) rfl rfl rfl ?_
      refine w_iast (j := (z)) (pc' := 36) rfl rfl (shOn (j := j) (by omega)) rfl (by omega) (by decide) ?_
      refine w_aload_n (pc' := 37) rfl rfl rfl rfl ?_
      refine w_dup (pc' := 38) rfl rfl rfl ?_
      refine w_getI (pc' := 41) rfl rfl rfl (shO (j := j) (by omega)) rfl ?_
      rw [show (am_u (am_u m (123 + 3 * j + 1) z (nI a)) (123 + 3 * j + 2) z (nI b)).1 (123 + 3 * j) 3 = nI z from (am_u_ne (by omega)).trans ((am_u_ne (by omega)).trans hz)]
      refine w_iconst (pc' := 42) 1 rfl rfl ic_1 ?_
      refine w_iadd (pc' := 43) rfl rfl ?_
      rw [show nI (z) + (1 : Int32) = nI (z + 1) from nI_add _ _]
      refine w_putI (pc' := 46) rfl rfl rfl (shO (j := j) (by omega)) rfl rfl rfl ?_
      refine w_vret rfl rfl ?_
      exact ⟨rfl, (if_pos (by omega)).symm⟩
theorem v_app_a (xs : List Int32) {m0 m : am_Mm} {j pos kn : Nat} {ss : List (Nat × Nat)} (hj : j < 6) (hp : q_ka m0 j pos kn ss m) (hl : ss.length < pos) (hn : pos ≤ 100) (a b : Nat) : am_V xs 1 77 [.ref (123 + 3 * j), .int (nI a), .int (nI b)] m (am_qn (q_ka m0 j pos kn (ss ++ [(a, b)]))) :=
  (v_of_append xs hj hp.2.1.2.1 (by omega) a b).mono (fun v m' h => ⟨h.1, by rw [h.2, if_pos (by omega)]; exact hp.app hl⟩)
theorem v_app_f (xs : List Int32) {m0 m : am_Mm} {j pos : Nat} (hj : j < 6) (hp : q_kf m0 j pos m) (a b : Nat) : am_V xs 1 77 [.ref (123 + 3 * j), .int (nI a), .int (nI b)] m (am_qn (q_kf m0 j pos)) := by
  obtain ⟨h1, z, hz, h3⟩ := hp
  refine (v_of_append xs hj h3 hz a b).mono (fun v m' h => ⟨h.1, ?_⟩)
  rw [h.2]
  by_cases e : z < 100
  · rw [if_pos e]
    exact ⟨h1.app, z + 1, e, am_u_eq⟩
  · rw [if_neg e]
    exact ⟨h1, z, hz, h3⟩
/-- a method of the class reads as P says -/
def q_KQ (m0 : am_Mm) (j kn : Nat) (ss : List (Nat × Nat)) (r : q_R) : am_Q := am_qi (bB r.1) (fun m' => if r.1 = true then q_ka m0 j r.2.1 kn (ss ++ r.2.2.map q_stp) m' else q_kf m0 j r.2.1 m')
def q_KC (xs : List Int32) (y d n : Nat) (m0 : am_Mm) (j : Nat) (P : Nat → q_R) (g : Nat) : Prop := ∀ (m : am_Mm) (pos kn : Nat) (ss : List (Nat × Nat)), q_ka m0 j pos kn ss m → pos ≤ n → am_V xs d y [.ref 117, .int (nI g)] m (q_KQ m0 j kn ss (P pos))
theorem q_KQ_t {m0 m' : am_Mm} {j kn q : Nat} {ss : List (Nat × Nat)} {c : List Nat} (h : q_ka m0 j q kn (ss ++ c.map q_stp) m') : q_KQ m0 j kn ss (true, q, c) (some (.int 1)) m' := ⟨rfl, by
  show (if true = true then _ else _)
  rw [if_pos rfl]
  exact h⟩
theorem q_KQ_f {m0 m' : am_Mm} {j kn q : Nat} {ss : List (Nat × Nat)} {c : List Nat} (h : q_kf m0 j q m') : q_KQ m0 j kn ss (false, q, c) (some (.int 0)) m' := ⟨rfl, by
  show (if false = true then _ else _)
  rw [if_neg (by decide)]
  exact h⟩
theorem q_stp_c {l g N : Nat} (hg : g < 3) (hN : N < 100) : [3 + 300 * l + 100 * g + N].map q_stp = [(3 * l + g, N)] := by
  show [q_stp (3 + 300 * l + 100 * g + N)] = _
  unfold q_stp
  rw [if_pos (by omega)]
  have h1 : (3 + 300 * l + 100 * g + N - 3) / 300 = l := by omega
  have h2 : (3 + 300 * l + 100 * g + N - 3) / 100 % 3 = g := by omega
  have h3 : (3 + 300 * l + 100 * g + N - 3) % 100 = N := by omega
  rw [h1, h2, h3]
theorem q_lt_n {n pos : Nat} {x : Option Nat} {l : Nat} (h : (if pos < n then x else none) = some l) : pos < n ∧ x = some l := by
  split at h
  · rename_i z
    exact ⟨z, h⟩
  · cases h
theorem q_str128 : (∀ v, v ∈ q_str 3 → v < 128) ∧ ∀ v, v ∈ q_str 4 → v < 128 := by decide
set_option maxRecDepth 100000 in
set_option maxHeartbeats 4000000 in
theorem v_tx_test (xs : List Int32) {tx : Nat → Nat} {n : Nat} {m0 m : am_Mm} {j pos kn : Nat} {ss : List (Nat × Nat)} (ht : q_ty tx n m0) (hj : j < 6) (hp : q_ka m0 j pos kn ss m) (hn : pos ≤ n) : am_V xs 7 75 [.ref 117] m (q_KQ m0 j kn ss (p_test tx n pos)) := by
  have hn1 := ht.1
  refine am_V_of ky_75 (Nat.le_of_ble_eq_true rfl) ?_
  show am_P xs 6 tx_test 0 [some (.ref 117), none, none] [] m _
  refine w_ldc (pc' := 2) rfl rfl rfl rfl ?_
  refine w_aload_n (pc' := 3) rfl rfl rfl rfl ?_
  refine w_cV0i (pc' := 6) (v_tx_ahead xs ht hj hp.1 hn) (by decide) rfl rfl rfl (Nat.le_of_ble_eq_true rfl) sh_117 rfl (fun m' hm' => ?_)
  rw [show m' = m from hm']
  clear hm' m'
  refine w_cS2i (pc' := 9) (v_tx_placeIn3 xs m _) (by decide) rfl rfl rfl (Or.inl rfl) (Nat.le_of_ble_eq_true rfl) (fun m' hm' => ?_)
  rw [show m' = m from hm']
  clear hm' m'
  rw [ixx_ah q_str128.1 ht.2.2.1]
  rcases hxl : (if pos < n then ixn (q_str 3) (tx pos) 0 else none) with _ | l
  · dsimp only
    refine w_ist1 (pc' := 10) rfl rfl rfl ?_
    refine w_iload_n (pc' := 11) rfl rfl rfl ?_
    refine w_if_ge (t := 16) (pc' := 14) rfl (by decide) rfl (fun h11 => ?_) (fun h11 => ?_)
    · exact absurd h11 (by decide)
    · refine w_iconst (pc' := 15) 0 rfl rfl ic_0 ?_
      refine w_iret rfl rfl (by first | rfl | exact am_nbB _) ?_
      rw [show p_test tx n pos = (false, pos, []) from by unfold p_test; rw [hxl]]
      exact q_KQ_f (hp.kf (by omega))
  · dsimp only
    obtain ⟨hltl, hil⟩ := q_lt_n hxl
    have hll : l < 6 := ixn_lt _ _ _ _ hil
    refine w_ist1 (pc' := 10) rfl rfl rfl ?_
    refine w_iload_n (pc' := 11) rfl rfl rfl ?_
    refine w_if_ge (t := 16) (pc' := 14) rfl (by decide) rfl (fun h11 => ?_) (fun h11 => ?_)
    · have g1 : 0 ≤ l := (nI_leI (a := 0) (b := l) (by omega) (by omega)).mp h11
      refine w_aload_n (pc' := 17) rfl rfl rfl rfl ?_
      refine w_dup (pc' := 18) rfl rfl rfl ?_
      refine w_getI (pc' := 21) rfl rfl rfl sh_117 rfl ?_
      rw [show m.1 117 2 = nI pos from hp.1.2.2.1]
      refine w_iconst (pc' := 22) 1 rfl rfl ic_1 ?_
      refine w_iadd (pc' := 23) rfl rfl ?_
      rw [show nI (pos) + (1 : Int32) = nI (pos + 1) from nI_add _ _]
      refine w_putI (pc' := 26) rfl rfl rfl sh_117 rfl rfl rfl ?_
      refine w_any (q_ka m0 j (pos + 1) kn ss) (hp.k2 q_k2.at (by omega)) (fun m1 hp1 => ?_)
      refine w_ldc (pc' := 28) rfl rfl rfl rfl ?_
      refine w_aload_n (pc' := 29) rfl rfl rfl rfl ?_
      refine w_cV0i (pc' := 32) (v_tx_ahead xs ht hj hp1.1 (by omega)) (by decide) rfl rfl rfl (Nat.le_of_ble_eq_true rfl) sh_117 rfl (fun m' hm' => ?_)
      rw [show m' = m1 from hm']
      clear hm' m'
      refine w_cS2i (pc' := 35) (v_tx_placeIn4 xs m1 _) (by decide) rfl rfl rfl (Or.inl rfl) (Nat.le_of_ble_eq_true rfl) (fun m' hm' => ?_)
      rw [show m' = m1 from hm']
      clear hm' m'
      rw [ixx_ah q_str128.2 ht.2.2.1]
      rcases hxg : (if pos + 1 < n then ixn (q_str 4) (tx (pos + 1)) 0 else none) with _ | g
      · dsimp only
        refine w_ist2 (pc' := 36) rfl rfl rfl ?_
        refine w_iload_n (pc' := 37) rfl rfl rfl ?_
        refine w_if_ge (t := 42) (pc' := 40) rfl (by decide) rfl (fun h37 => ?_) (fun h37 => ?_)
        · exact absurd h37 (by decide)
        · refine w_iconst (pc' := 41) 0 rfl rfl ic_0 ?_
          refine w_iret rfl rfl (by first | rfl | exact am_nbB _) ?_
          rw [show p_test tx n pos = (false, pos + 1, []) from by unfold p_test; rw [hxl]; dsimp only; rw [hxg]]
          exact q_KQ_f (hp1.kf (by omega))
      · dsimp only
        obtain ⟨hltg, hig⟩ := q_lt_n hxg
        have hlg : g < 3 := ixn_lt _ _ _ _ hig
        refine w_ist2 (pc' := 36) rfl rfl rfl ?_
        refine w_iload_n (pc' := 37) rfl rfl rfl ?_
        refine w_if_ge (t := 42) (pc' := 40) rfl (by decide) rfl (fun h37 => ?_) (fun h37 => ?_)
        · have g2 : 0 ≤ g := (nI_leI (a := 0) (b := g) (by omega) (by omega)).mp h37
          refine w_aload_n (pc' := 43) rfl rfl rfl rfl ?_
          refine w_dup (pc' := 44) rfl rfl rfl ?_
          refine w_getI (pc' := 47) rfl rfl rfl sh_117 rfl ?_
          rw [show m1.1 117 2 = nI (pos + 1) from hp1.1.2.2.1]
          refine w_iconst (pc' := 48) 1 rfl rfl ic_1 ?_
          refine w_iadd (pc' := 49) rfl rfl ?_
          rw [show nI ((pos + 1)) + (1 : Int32) = nI ((pos + 1) + 1) from nI_add _ _]
          refine w_putI (pc' := 52) rfl rfl rfl sh_117 rfl rfl rfl ?_
          refine w_any (q_ka m0 j (pos + 1 + 1) kn ss) (hp1.k2 q_k2.at (by omega)) (fun m2 hp2 => ?_)
          refine w_aload_n (pc' := 53) rfl rfl rfl rfl ?_
          refine w_cV0i (pc' := 56) (v_tx_digits xs ht hj hp2.1 (by omega)) (by decide) rfl rfl rfl (Nat.le_of_ble_eq_true rfl) sh_117 rfl (fun m1 hm' => ?_)
          obtain ⟨hk3, hv3⟩ := hm'
          have hnl := p_num_le (tx := tx) (n := n) (pos := pos + 2) (by omega)
          have hp3 : q_ka m0 j (p_num tx n (pos + 2)).2.2 kn ss m1 := hp2.k2 hk3 hnl.1
          have hv3 : m1.1 117 3 = nI (p_num tx n (pos + 2)).2.1 := hv3
          refine w_if_ne (t := 61) (pc' := 59) rfl (by decide) rfl (fun h56 => ?_) (fun h56 => ?_)
          · have hb3 : decide (0 < (p_num tx n (pos + 2)).1) = true := bB_n0.mp h56
            have hz9 := of_decide_eq_true hb3
            have hlen := hp.2.2
            refine w_aload_n (pc' := 62) rfl rfl rfl rfl ?_
            refine w_getM (pc' := 65) rfl rfl rfl sh_117 rfl ?_
            rw [show m1.1 117 4 = nI (123 + 3 * j) from hp3.1.2.2.2, am_dec_n (by omega)]
            refine w_iconst (pc' := 66) 3 rfl rfl ic_3 ?_
            refine w_iload_n (pc' := 67) rfl rfl rfl ?_
            refine w_imul (pc' := 68) rfl rfl ?_
            rw [show (3 : Int32) * nI (l) = nI (3 * l) from nI_mul _ _]
            refine w_iload_n (pc' := 69) rfl rfl rfl ?_
            refine w_iadd (pc' := 70) rfl rfl ?_
            rw [show nI (3 * l) + nI (g) = nI ((3 * l) + g) from nI_add _ _]
            refine w_aload_n (pc' := 71) rfl rfl rfl rfl ?_
            refine w_getI (pc' := 74) rfl rfl rfl sh_117 rfl ?_
            rw [hv3]
            refine w_cV2n (pc' := 77) (v_app_a xs hj hp3 (by omega) (by omega) (3 * l + g) (p_num tx n (pos + 2)).2.1) (by decide) rfl rfl rfl (Nat.le_of_ble_eq_true rfl) (shO (j := j) (by omega)) rfl (fun m2 hm' => ?_)
            have hp2 := hm'
            refine w_iconst (pc' := 78) 1 rfl rfl ic_1 ?_
            refine w_iret rfl rfl (by first | rfl | exact am_nbB _) ?_
            rw [show p_test tx n pos = (true, (p_num tx n (pos + 2)).2.2, [3 + 300 * l + 100 * g + (p_num tx n (pos + 2)).2.1]) from by unfold p_test; rw [hxl]; dsimp only; rw [hxg]; dsimp only; rw [if_pos hz9]]
            exact q_KQ_t (by rw [q_stp_c hlg hnl.2.2.1]; exact hp2)
          · have hb4 : decide (0 < (p_num tx n (pos + 2)).1) = false := bB_0.mp h56
            refine w_iconst (pc' := 60) 0 rfl rfl ic_0 ?_
            refine w_iret rfl rfl (by first | rfl | exact am_nbB _) ?_
            have hz := of_decide_eq_false hb4
            rw [show p_test tx n pos = (false, (p_num tx n (pos + 2)).2.2, []) from by unfold p_test; rw [hxl]; dsimp only; rw [hxg]; dsimp only; rw [if_neg hz]]
            exact q_KQ_f (hp3.kf (by omega))
        · have g5 : ¬ 0 ≤ g := fun q => h37 ((nI_leI (a := 0) (b := g) (by omega) (by omega)).mpr q)
          omega
    · have g6 : ¬ 0 ≤ l := fun q => h11 ((nI_leI (a := 0) (b := l) (by omega) (by omega)).mpr q)
      omega
def p_not (P : Nat → q_R) (pos : Nat) : q_R := if (P pos).1 = true then (true, (P pos).2.1, (P pos).2.2 ++ [0]) else (false, (P pos).2.1, [])
def p_br (tx : Nat → Nat) (n : Nat) (P : Nat → q_R) (pos : Nat) : q_R := if (P pos).1 = true then (if p_is tx n 41 (P pos).2.1 = true then (true, (P pos).2.1 + 1, (P pos).2.2) else (false, (P pos).2.1, [])) else (false, (P pos).2.1, [])
theorem p_lp_no {tx : Nat → Nat} {n : Nat} {P : Nat → q_R} {c op pos : Nat} {a : List Nat} (h : p_is tx n c pos = false) : ∀ f, p_lp tx n P c op f pos a = (true, pos, a) := fun f => by
  cases f with
  | zero => rfl
  | succ f => exact if_neg (by rw [h]; decide)
theorem p_is_no {tx : Nat → Nat} {n c pos : Nat} (h : n ≤ pos) : p_is tx n c pos = false := decide_eq_false (fun z => by omega)
theorem p_test_33 {tx : Nat → Nat} {n pos c : Nat} (h : p_is tx n c pos = true) (hc : c = 33 ∨ c = 40) : p_test tx n pos = (false, pos, []) := by
  obtain ⟨h1, h2⟩ := of_decide_eq_true h
  unfold p_test
  rw [if_pos h1, h2]
  rcases hc with rfl | rfl <;> rfl
theorem ah_33 : (33 : Int32) = nI 33 := rfl
set_option maxRecDepth 100000 in
set_option maxHeartbeats 4000000 in
theorem v_tx_not (xs : List Int32) {tx : Nat → Nat} {n : Nat} {m0 : am_Mm} {j : Nat} (ht : q_ty tx n m0) (hj : j < 6) {P : Nat → q_R} {d g : Nat} (hG : q_Gd n P) (hP : q_KC xs 74 d n m0 j P g) (hd1 : 1 ≤ d) {m : am_Mm} {pos kn : Nat} {ss : List (Nat × Nat)} (hp : q_ka m0 j pos kn ss m) (hn : pos ≤ n) (hs : ss.length < pos) : am_V xs (d + 1) 78 [.ref 117, .int (nI g)] m (q_KQ m0 j kn ss (p_not P pos)) := by
  have hn1 := ht.1
  refine am_V_of ky_78 (Nat.le_of_ble_eq_true rfl) ?_
  show am_P xs d tx_not 0 [some (.ref 117), some (.int (nI g)), none] [] m _
  refine w_aload_n (pc' := 1) rfl rfl rfl rfl ?_
  refine w_iload_n (pc' := 2) rfl rfl rfl ?_
  refine w_cV1i (pc' := 5) (hP m pos kn ss hp hn) (by omega) rfl rfl rfl (Nat.le_of_ble_eq_true rfl) sh_117 rfl (fun m1 hm' => ?_)
  have hQ1 := hm'
  rcases hg9 : (P pos).1 with _ | _
  · rw [show bB false = 0 from rfl]
    rw [if_neg (by rw [hg9]; decide)] at hQ1
    refine w_ist2 (pc' := 6) rfl rfl rfl ?_
    refine w_aload_n (pc' := 7) rfl rfl rfl rfl ?_
    refine w_getM (pc' := 10) rfl rfl rfl sh_117 rfl ?_
    rw [show m1.1 117 4 = nI (123 + 3 * j) from hQ1.1.2.2.2, am_dec_n (by omega)]
    refine w_bipush (pc' := 12) 18 rfl rfl bp_18 ?_
    refine w_iconst (pc' := 13) 0 rfl rfl ic_0 ?_
    refine w_cV2n (pc' := 16) (v_app_f xs hj hQ1 18 0) (by omega) rfl rfl rfl (Nat.le_of_ble_eq_true rfl) (shO (j := j) (by omega)) rfl (fun m2 hm' => ?_)
    have hQ2 := hm'
    refine w_iload_n (pc' := 17) rfl rfl rfl ?_
    refine w_iret rfl rfl (by first | rfl | exact am_nbB _) ?_
    rw [show p_not P pos = (false, (P pos).2.1, []) from if_neg (by rw [hg9]; decide)]
    exact q_KQ_f hQ2
  · rw [show bB true = 1 from rfl]
    rw [if_pos hg9] at hQ1
    obtain ⟨g1, g2, g3⟩ := hG pos hn
    obtain ⟨g4, g5⟩ := g3 hg9
    refine w_ist2 (pc' := 6) rfl rfl rfl ?_
    refine w_aload_n (pc' := 7) rfl rfl rfl rfl ?_
    refine w_getM (pc' := 10) rfl rfl rfl sh_117 rfl ?_
    rw [show m1.1 117 4 = nI (123 + 3 * j) from hQ1.1.2.2.2, am_dec_n (by omega)]
    refine w_bipush (pc' := 12) 18 rfl rfl bp_18 ?_
    refine w_iconst (pc' := 13) 0 rfl rfl ic_0 ?_
    refine w_cV2n (pc' := 16) (v_app_a xs hj hQ1 (by rw [List.length_append, List.length_map]; omega) (by omega) 18 0) (by omega) rfl rfl rfl (Nat.le_of_ble_eq_true rfl) (shO (j := j) (by omega)) rfl (fun m3 hm' => ?_)
    have hQ2 := hm'
    refine w_iload_n (pc' := 17) rfl rfl rfl ?_
    refine w_iret rfl rfl (by first | rfl | exact am_nbB _) ?_
    rw [show p_not P pos = (true, (P pos).2.1, (P pos).2.2 ++ [0]) from if_pos hg9]
    exact q_KQ_t (by rw [List.map_append, ← List.append_assoc]; exact hQ2)
set_option maxRecDepth 100000 in
set_option maxHeartbeats 4000000 in
theorem v_tx_inBr (xs : List Int32) {tx : Nat → Nat} {n : Nat} {m0 : am_Mm} {j : Nat} (ht : q_ty tx n m0) (hj : j < 6) {P : Nat → q_R} {d g : Nat} (hG : q_Gd n P) (hP : q_KC xs 72 d n m0 j P g) (hd1 : 2 ≤ d) {m : am_Mm} {pos kn : Nat} {ss : List (Nat × Nat)} (hp : q_ka m0 j pos kn ss m) (hn : pos ≤ n) : am_V xs (d + 1) 79 [.ref 117, .int (nI g)] m (q_KQ m0 j kn ss (p_br tx n P pos)) := by
  have hn1 := ht.1
  refine am_V_of ky_79 (Nat.le_of_ble_eq_true rfl) ?_
  show am_P xs d tx_inBrackets 0 [some (.ref 117), some (.int (nI g))] [] m _
  refine w_aload_n (pc' := 1) rfl rfl rfl rfl ?_
  refine w_iload_n (pc' := 2) rfl rfl rfl ?_
  refine w_cV1i (pc' := 5) (hP m pos kn ss hp hn) (by omega) rfl rfl rfl (Nat.le_of_ble_eq_true rfl) sh_117 rfl (fun m1 hm' => ?_)
  have hQ1 := hm'
  refine w_if_eq (t := 21) (pc' := 8) rfl (by decide) rfl (fun h5 => ?_) (fun h5 => ?_)
  · have hb1 : (P pos).1 = false := bB_0.mp h5
    refine w_iconst (pc' := 22) 0 rfl rfl ic_0 ?_
    refine w_iret rfl rfl (by first | rfl | exact am_nbB _) ?_
    rw [if_neg (by rw [hb1]; decide)] at hQ1
    rw [show p_br tx n P pos = (false, (P pos).2.1, []) from if_neg (by rw [hb1]; decide)]
    exact q_KQ_f hQ1
  · have hb2 : (P pos).1 = true := bB_n0.mp h5
    rw [if_pos hb2] at hQ1
    obtain ⟨g1, g2, g3⟩ := hG pos hn
    obtain ⟨g4, g5⟩ := g3 hb2
    refine w_aload_n (pc' := 9) rfl rfl rfl rfl ?_
    refine w_bipush (pc' := 11) 41 rfl rfl bp_41 ?_
    refine w_cV1i (pc' := 14) (v_tx_takes xs ht hj hQ1.1 g2 (c := 41) (by decide)) (by omega) rfl rfl rfl (Nat.le_of_ble_eq_true rfl) sh_117 rfl (fun m2 hm' => ?_)
    have hz2 := hm'
    refine w_if_eq (t := 21) (pc' := 17) rfl (by decide) rfl (fun h14 => ?_) (fun h14 => ?_)
    · have hb3 : p_is tx n 41 (P pos).2.1 = false := bB_0.mp h14
      refine w_iconst (pc' := 22) 0 rfl rfl ic_0 ?_
      refine w_iret rfl rfl (by first | rfl | exact am_nbB _) ?_
      rw [hb3] at hz2
      have hz2 : q_k2 (P pos).2.1 m1 m2 := hz2
      rw [show p_br tx n P pos = (false, (P pos).2.1, []) from (if_pos hb2).trans (if_neg (by rw [hb3]; decide))]
      exact q_KQ_f ((hQ1.k2 hz2 (Nat.le_refl _)).kf (by omega))
    · have hb4 : p_is tx n 41 (P pos).2.1 = true := bB_n0.mp h14
      refine w_iconst (pc' := 18) 1 rfl rfl ic_1 ?_
      refine w_goto (pc' := 22) rfl (by decide) ?_
      refine w_iret rfl rfl (by first | rfl | exact am_nbB _) ?_
      rw [hb4] at hz2
      rw [show p_br tx n P pos = (true, (P pos).2.1 + 1, (P pos).2.2) from (if_pos hb2).trans (if_pos hb4)]
      exact q_KQ_t (hQ1.k2 hz2 (by show _ ≤ (P pos).2.1 + 1; omega))
set_option maxRecDepth 100000 in
set_option maxHeartbeats 4000000 in
theorem lp_tx_all (xs : List Int32) {tx : Nat → Nat} {n : Nat} {m0 : am_Mm} {j : Nat} (ht : q_ty tx n m0) (hj : j < 6) {P : Nat → q_R} {d g : Nat} (hG : q_Gd n P) (hP : q_KC xs 74 d n m0 j P g) (hd1 : 2 ≤ d) {kn : Nat} {ss : List (Nat × Nat)} : ∀ (r k : Nat), k + r = 100 → ∀ (m : am_Mm) (pos f : Nat) (a : List Nat), q_ka m0 j pos kn (ss ++ a.map q_stp) m → pos ≤ n → n ≤ pos + r → n ≤ pos + f → am_P xs d tx_allOf 8 [some (.ref 117), some (.int (nI g)), some (.int 1), some (.int (nI k))] [] m (q_KQ m0 j kn ss (p_lp tx n P 38 1 f pos a)) := by
  intro r
  induction r with
  | zero =>
    intro k hk m pos f a hp hn hr hf
    have hn1 := ht.1
    refine w_iload_n (pc' := 9) rfl rfl rfl ?_
    refine w_bipush (pc' := 11) 100 rfl rfl bp_100 ?_
    refine w_ic_ge (t := 49) (pc' := 14) rfl (by decide) rfl (fun h11 => ?_) (fun h11 => ?_)
    · have g1 : 100 ≤ k := (nI_leI (a := 100) (b := k) (by omega) (by omega)).mp h11
      refine w_iload_n (pc' := 50) rfl rfl rfl ?_
      refine w_iret rfl rfl (by first | rfl | exact am_nbB _) ?_
      rw [p_lp_no (p_is_no (by omega)) f]
      exact q_KQ_t hp
    · have g2 : ¬ 100 ≤ k := fun q => h11 ((nI_leI (a := 100) (b := k) (by omega) (by omega)).mpr q)
      omega
  | succ r ih =>
    intro k hk m pos f a hp hn hr hf
    have hn1 := ht.1
    refine w_iload_n (pc' := 9) rfl rfl rfl ?_
    refine w_bipush (pc' := 11) 100 rfl rfl bp_100 ?_
    refine w_ic_ge (t := 49) (pc' := 14) rfl (by decide) rfl (fun h11 => ?_) (fun h11 => ?_)
    · have g1 : 100 ≤ k := (nI_leI (a := 100) (b := k) (by omega) (by omega)).mp h11
      omega
    · have g2 : ¬ 100 ≤ k := fun q => h11 ((nI_leI (a := 100) (b := k) (by omega) (by omega)).mpr q)
      refine w_iload_n (pc' := 15) rfl rfl rfl ?_
      refine w_if_eq (t := 49) (pc' := 18) rfl (by decide) rfl (fun h15 => ?_) (fun h15 => ?_)
      · exact absurd h15 (by decide)
      · refine w_aload_n (pc' := 19) rfl rfl rfl rfl ?_
        refine w_bipush (pc' := 21) 38 rfl rfl bp_38 ?_
        refine w_cV1i (pc' := 24) (v_tx_takes xs ht hj hp.1 hn (c := 38) (by decide)) (by omega) rfl rfl rfl (Nat.le_of_ble_eq_true rfl) sh_117 rfl (fun m1 hm' => ?_)
        have hz1 := hm'
        refine w_if_eq (t := 49) (pc' := 27) rfl (by decide) rfl (fun h24 => ?_) (fun h24 => ?_)
        · have hb3 : p_is tx n 38 pos = false := bB_0.mp h24
          refine w_iload_n (pc' := 50) rfl rfl rfl ?_
          refine w_iret rfl rfl (by first | rfl | exact am_nbB _) ?_
          rw [hb3] at hz1
          rw [p_lp_no hb3 f]
          exact q_KQ_t (hp.k2 hz1 (Nat.le_refl _))
        · have hb4 : p_is tx n 38 pos = true := bB_n0.mp h24
          rw [hb4] at hz1
          have hp1 : q_ka m0 j (pos + 1) kn (ss ++ a.map q_stp) m1 := hp.k2 hz1 (Nat.le_succ _)
          have hd2 := p_is_lt hb4
          obtain ⟨g1, g2, g3⟩ := hG (pos + 1) hd2
          obtain ⟨f, rfl⟩ : ∃ q, f = q + 1 := ⟨f - 1, by omega⟩
          refine w_aload_n (pc' := 28) rfl rfl rfl rfl ?_
          refine w_iload_n (pc' := 29) rfl rfl rfl ?_
          refine w_cV1i (pc' := 32) (hP m1 (pos + 1) kn (ss ++ a.map q_stp) hp1 hd2) (by omega) rfl rfl rfl (Nat.le_of_ble_eq_true rfl) sh_117 rfl (fun m2 hm' => ?_)
          have hQ2 := hm'
          rcases hg9 : (P (pos + 1)).1 with _ | _
          · rw [show bB false = 0 from rfl]
            rw [if_neg (by rw [hg9]; decide)] at hQ2
            refine w_ist2 (pc' := 33) rfl rfl rfl ?_
            refine w_aload_n (pc' := 34) rfl rfl rfl rfl ?_
            refine w_getM (pc' := 37) rfl rfl rfl sh_117 rfl ?_
            rw [show m2.1 117 4 = nI (123 + 3 * j) from hQ2.1.2.2.2, am_dec_n (by omega)]
            refine w_bipush (pc' := 39) 19 rfl rfl bp_19 ?_
            refine w_iconst (pc' := 40) 0 rfl rfl ic_0 ?_
            refine w_cV2n (pc' := 43) (v_app_f xs hj hQ2 19 0) (by omega) rfl rfl rfl (Nat.le_of_ble_eq_true rfl) (shO (j := j) (by omega)) rfl (fun m3 hm' => ?_)
            have hQ3 := hm'
            refine w_iinc3 (pc' := 46) 1 rfl rfl ic_1 rfl ?_
            rw [nI_inc]
            refine w_goto (pc' := 8) rfl (by decide) ?_
            refine w_iload_n (pc' := 9) rfl rfl rfl ?_
            refine w_bipush (pc' := 11) 100 rfl rfl bp_100 ?_
            refine w_ic_ge (t := 49) (pc' := 14) rfl (by decide) rfl (fun h11 => ?_) (fun h11 => ?_)
            · have g5 : 100 ≤ (k + 1) := (nI_leI (a := 100) (b := (k + 1)) (by omega) (by omega)).mp h11
              refine w_iload_n (pc' := 50) rfl rfl rfl ?_
              refine w_iret rfl rfl (by first | rfl | exact am_nbB _) ?_
              rw [show p_lp tx n P 38 1 (f + 1) pos a = (false, (P (pos + 1)).2.1, []) from (if_pos hb4).trans (if_neg (by rw [hg9]; decide))]
              exact q_KQ_f hQ3
            · have g6 : ¬ 100 ≤ (k + 1) := fun q => h11 ((nI_leI (a := 100) (b := (k + 1)) (by omega) (by omega)).mpr q)
              refine w_iload_n (pc' := 15) rfl rfl rfl ?_
              refine w_if_eq (t := 49) (pc' := 18) rfl (by decide) rfl (fun h15 => ?_) (fun h15 => ?_)
              · refine w_iload_n (pc' := 50) rfl rfl rfl ?_
                refine w_iret rfl rfl (by first | rfl | exact am_nbB _) ?_
                rw [show p_lp tx n P 38 1 (f + 1) pos a = (false, (P (pos + 1)).2.1, []) from (if_pos hb4).trans (if_neg (by rw [hg9]; decide))]
                exact q_KQ_f hQ3
              · exact absurd h15 (by decide)
          · rw [show bB true = 1 from rfl]
            rw [if_pos hg9] at hQ2
            obtain ⟨g4, g5⟩ := g3 hg9
            refine w_ist2 (pc' := 33) rfl rfl rfl ?_
            refine w_aload_n (pc' := 34) rfl rfl rfl rfl ?_
            refine w_getM (pc' := 37) rfl rfl rfl sh_117 rfl ?_
            rw [show m2.1 117 4 = nI (123 + 3 * j) from hQ2.1.2.2.2, am_dec_n (by omega)]
            refine w_bipush (pc' := 39) 19 rfl rfl bp_19 ?_
            refine w_iconst (pc' := 40) 0 rfl rfl ic_0 ?_
            refine w_cV2n (pc' := 43) (v_app_a xs hj hQ2 (by rw [List.length_append, List.length_map]; have := hp.2.2; omega) (by omega) 19 0) (by omega) rfl rfl rfl (Nat.le_of_ble_eq_true rfl) (shO (j := j) (by omega)) rfl (fun m4 hm' => ?_)
            have hQ3 := hm'
            refine w_iinc3 (pc' := 46) 1 rfl rfl ic_1 rfl ?_
            rw [nI_inc]
            refine w_goto (pc' := 8) rfl (by decide) ?_
            rw [show p_lp tx n P 38 1 (f + 1) pos a = p_lp tx n P 38 1 f (P (pos + 1)).2.1 (a ++ ((P (pos + 1)).2.2 ++ [1])) from (if_pos hb4).trans (if_pos hg9)]
            have e9 : ss ++ a.map q_stp ++ (P (pos + 1)).2.2.map q_stp ++ [(19, 0)] = ss ++ (a ++ ((P (pos + 1)).2.2 ++ [1])).map q_stp := by
              rw [List.map_append, List.map_append, show ([1] : List Nat).map q_stp = [(19, 0)] from rfl]
              simp only [List.append_assoc]
            rw [e9] at hQ3
            exact ih (k + 1) (by omega) m4 _ f _ hQ3 g2 (by omega) (by omega)
set_option maxRecDepth 100000 in
set_option maxHeartbeats 4000000 in
theorem v_tx_all (xs : List Int32) {tx : Nat → Nat} {n : Nat} {m0 : am_Mm} {j : Nat} (ht : q_ty tx n m0) (hj : j < 6) {P : Nat → q_R} {d g : Nat} (hG : q_Gd n P) (hP : q_KC xs 74 d n m0 j P g) (hd1 : 2 ≤ d) {m : am_Mm} {pos kn : Nat} {ss : List (Nat × Nat)} (hp : q_ka m0 j pos kn ss m) (hn : pos ≤ n) : am_V xs (d + 1) 73 [.ref 117, .int (nI g)] m (q_KQ m0 j kn ss (p_sq tx n P 38 1 pos)) := by
  have hn1 := ht.1
  refine am_V_of ky_73 (Nat.le_of_ble_eq_true rfl) ?_
  show am_P xs d tx_allOf 0 [some (.ref 117), some (.int (nI g)), none, none] [] m _
  refine w_aload_n (pc' := 1) rfl rfl rfl rfl ?_
  refine w_iload_n (pc' := 2) rfl rfl rfl ?_
  refine w_cV1i (pc' := 5) (hP m pos kn ss hp hn) (by omega) rfl rfl rfl (Nat.le_of_ble_eq_true rfl) sh_117 rfl (fun m1 hm' => ?_)
  have hQ1 := hm'
  rcases hg9 : (P pos).1 with _ | _
  · rw [show bB false = 0 from rfl]
    rw [if_neg (by rw [hg9]; decide)] at hQ1
    refine w_ist2 (pc' := 6) rfl rfl rfl ?_
    refine w_iconst (pc' := 7) 0 rfl rfl ic_0 ?_
    refine w_ist3 (pc' := 8) rfl rfl rfl ?_
    refine w_iload_n (pc' := 9) rfl rfl rfl ?_
    refine w_bipush (pc' := 11) 100 rfl rfl bp_100 ?_
    refine w_ic_ge (t := 49) (pc' := 14) rfl (by decide) rfl (fun h11 => ?_) (fun h11 => ?_)
    · exact absurd h11 (by decide)
    · refine w_iload_n (pc' := 15) rfl rfl rfl ?_
      refine w_if_eq (t := 49) (pc' := 18) rfl (by decide) rfl (fun h15 => ?_) (fun h15 => ?_)
      · refine w_iload_n (pc' := 50) rfl rfl rfl ?_
        refine w_iret rfl rfl (by first | rfl | exact am_nbB _) ?_
        rw [show p_sq tx n P 38 1 pos = (false, (P pos).2.1, []) from if_neg (by rw [hg9]; decide)]
        exact q_KQ_f hQ1
      · exact absurd h15 (by decide)
  · rw [show bB true = 1 from rfl]
    rw [if_pos hg9] at hQ1
    obtain ⟨g1, g2, g3⟩ := hG pos hn
    refine w_ist2 (pc' := 6) rfl rfl rfl ?_
    refine w_iconst (pc' := 7) 0 rfl rfl ic_0 ?_
    refine w_ist3 (pc' := 8) rfl rfl rfl ?_
    rw [show p_sq tx n P 38 1 pos = p_lp tx n P 38 1 n (P pos).2.1 (P pos).2.2 from if_pos hg9]
    exact lp_tx_all xs ht hj hG hP hd1 100 0 (by omega) m1 _ n _ hQ1 g2 (by omega) (by omega)
set_option maxRecDepth 100000 in
set_option maxHeartbeats 4000000 in
theorem lp_tx_any (xs : List Int32) {tx : Nat → Nat} {n : Nat} {m0 : am_Mm} {j : Nat} (ht : q_ty tx n m0) (hj : j < 6) {P : Nat → q_R} {d g : Nat} (hG : q_Gd n P) (hP : q_KC xs 73 d n m0 j P g) (hd1 : 2 ≤ d) {kn : Nat} {ss : List (Nat × Nat)} : ∀ (r k : Nat), k + r = 100 → ∀ (m : am_Mm) (pos f : Nat) (a : List Nat), q_ka m0 j pos kn (ss ++ a.map q_stp) m → pos ≤ n → n ≤ pos + r → n ≤ pos + f → am_P xs d tx_anyOf 8 [some (.ref 117), some (.int (nI g)), some (.int 1), some (.int (nI k))] [] m (q_KQ m0 j kn ss (p_lp tx n P 124 2 f pos a)) := by
  intro r
  induction r with
  | zero =>
    intro k hk m pos f a hp hn hr hf
    have hn1 := ht.1
    refine w_iload_n (pc' := 9) rfl rfl rfl ?_
    refine w_bipush (pc' := 11) 100 rfl rfl bp_100 ?_
    refine w_ic_ge (t := 49) (pc' := 14) rfl (by decide) rfl (fun h11 => ?_) (fun h11 => ?_)
    · have g1 : 100 ≤ k := (nI_leI (a := 100) (b := k) (by omega) (by omega)).mp h11
      refine w_iload_n (pc' := 50) rfl rfl rfl ?_
      refine w_iret rfl rfl (by first | rfl | exact am_nbB _) ?_
      rw [p_lp_no (p_is_no (by omega)) f]
      exact q_KQ_t hp
    · have g2 : ¬ 100 ≤ k := fun q => h11 ((nI_leI (a := 100) (b := k) (by omega) (by omega)).mpr q)
      omega
  | succ r ih =>
    intro k hk m pos f a hp hn hr hf
    have hn1 := ht.1
    refine w_iload_n (pc' := 9) rfl rfl rfl ?_
    refine w_bipush (pc' := 11) 100 rfl rfl bp_100 ?_
    refine w_ic_ge (t := 49) (pc' := 14) rfl (by decide) rfl (fun h11 => ?_) (fun h11 => ?_)
    · have g1 : 100 ≤ k := (nI_leI (a := 100) (b := k) (by omega) (by omega)).mp h11
      omega
    · have g2 : ¬ 100 ≤ k := fun q => h11 ((nI_leI (a := 100) (b := k) (by omega) (by omega)).mpr q)
      refine w_iload_n (pc' := 15) rfl rfl rfl ?_
      refine w_if_eq (t := 49) (pc' := 18) rfl (by decide) rfl (fun h15 => ?_) (fun h15 => ?_)
      · exact absurd h15 (by decide)
      · refine w_aload_n (pc' := 19) rfl rfl rfl rfl ?_
        refine w_bipush (pc' := 21) 124 rfl rfl bp_124 ?_
        refine w_cV1i (pc' := 24) (v_tx_takes xs ht hj hp.1 hn (c := 124) (by decide)) (by omega) rfl rfl rfl (Nat.le_of_ble_eq_true rfl) sh_117 rfl (fun m1 hm' => ?_)
        have hz1 := hm'
        refine w_if_eq (t := 49) (pc' := 27) rfl (by decide) rfl (fun h24 => ?_) (fun h24 => ?_)
        · have hb3 : p_is tx n 124 pos = false := bB_0.mp h24
          refine w_iload_n (pc' := 50) rfl rfl rfl ?_
          refine w_iret rfl rfl (by first | rfl | exact am_nbB _) ?_
          rw [hb3] at hz1
          rw [p_lp_no hb3 f]
          exact q_KQ_t (hp.k2 hz1 (Nat.le_refl _))
        · have hb4 : p_is tx n 124 pos = true := bB_n0.mp h24
          rw [hb4] at hz1
          have hp1 : q_ka m0 j (pos + 1) kn (ss ++ a.map q_stp) m1 := hp.k2 hz1 (Nat.le_succ _)
          have hd2 := p_is_lt hb4
          obtain ⟨g1, g2, g3⟩ := hG (pos + 1) hd2
          obtain ⟨f, rfl⟩ : ∃ q, f = q + 1 := ⟨f - 1, by omega⟩
          refine w_aload_n (pc' := 28) rfl rfl rfl rfl ?_
          refine w_iload_n (pc' := 29) rfl rfl rfl ?_
          refine w_cV1i (pc' := 32) (hP m1 (pos + 1) kn (ss ++ a.map q_stp) hp1 hd2) (by omega) rfl rfl rfl (Nat.le_of_ble_eq_true rfl) sh_117 rfl (fun m2 hm' => ?_)
          have hQ2 := hm'
          rcases hg9 : (P (pos + 1)).1 with _ | _
          · rw [show bB false = 0 from rfl]
            rw [if_neg (by rw [hg9]; decide)] at hQ2
            refine w_ist2 (pc' := 33) rfl rfl rfl ?_
            refine w_aload_n (pc' := 34) rfl rfl rfl rfl ?_
            refine w_getM (pc' := 37) rfl rfl rfl sh_117 rfl ?_
            rw [show m2.1 117 4 = nI (123 + 3 * j) from hQ2.1.2.2.2, am_dec_n (by omega)]
            refine w_bipush (pc' := 39) 20 rfl rfl bp_20 ?_
            refine w_iconst (pc' := 40) 0 rfl rfl ic_0 ?_
            refine w_cV2n (pc' := 43) (v_app_f xs hj hQ2 20 0) (by omega) rfl rfl rfl (Nat.le_of_ble_eq_true rfl) (shO (j := j) (by omega)) rfl (fun m3 hm' => ?_)
            have hQ3 := hm'
            refine w_iinc3 (pc' := 46) 1 rfl rfl ic_1 rfl ?_
            rw [nI_inc]
            refine w_goto (pc' := 8) rfl (by decide) ?_
            refine w_iload_n (pc' := 9) rfl rfl rfl ?_
            refine w_bipush (pc' := 11) 100 rfl rfl bp_100 ?_
            refine w_ic_ge (t := 49) (pc' := 14) rfl (by decide) rfl (fun h11 => ?_) (fun h11 => ?_)
            · have g5 : 100 ≤ (k + 1) := (nI_leI (a := 100) (b := (k + 1)) (by omega) (by omega)).mp h11
              refine w_iload_n (pc' := 50) rfl rfl rfl ?_
              refine w_iret rfl rfl (by first | rfl | exact am_nbB _) ?_
              rw [show p_lp tx n P 124 2 (f + 1) pos a = (false, (P (pos + 1)).2.1, []) from (if_pos hb4).trans (if_neg (by rw [hg9]; decide))]
              exact q_KQ_f hQ3
            · have g6 : ¬ 100 ≤ (k + 1) := fun q => h11 ((nI_leI (a := 100) (b := (k + 1)) (by omega) (by omega)).mpr q)
              refine w_iload_n (pc' := 15) rfl rfl rfl ?_
              refine w_if_eq (t := 49) (pc' := 18) rfl (by decide) rfl (fun h15 => ?_) (fun h15 => ?_)
              · refine w_iload_n (pc' := 50) rfl rfl rfl ?_
                refine w_iret rfl rfl (by first | rfl | exact am_nbB _) ?_
                rw [show p_lp tx n P 124 2 (f + 1) pos a = (false, (P (pos + 1)).2.1, []) from (if_pos hb4).trans (if_neg (by rw [hg9]; decide))]
                exact q_KQ_f hQ3
              · exact absurd h15 (by decide)
          · rw [show bB true = 1 from rfl]
            rw [if_pos hg9] at hQ2
            obtain ⟨g4, g5⟩ := g3 hg9
            refine w_ist2 (pc' := 33) rfl rfl rfl ?_
            refine w_aload_n (pc' := 34) rfl rfl rfl rfl ?_
            refine w_getM (pc' := 37) rfl rfl rfl sh_117 rfl ?_
            rw [show m2.1 117 4 = nI (123 + 3 * j) from hQ2.1.2.2.2, am_dec_n (by omega)]
            refine w_bipush (pc' := 39) 20 rfl rfl bp_20 ?_
            refine w_iconst (pc' := 40) 0 rfl rfl ic_0 ?_
            refine w_cV2n (pc' := 43) (v_app_a xs hj hQ2 (by rw [List.length_append, List.length_map]; have := hp.2.2; omega) (by omega) 20 0) (by omega) rfl rfl rfl (Nat.le_of_ble_eq_true rfl) (shO (j := j) (by omega)) rfl (fun m4 hm' => ?_)
            have hQ3 := hm'
            refine w_iinc3 (pc' := 46) 1 rfl rfl ic_1 rfl ?_
            rw [nI_inc]
            refine w_goto (pc' := 8) rfl (by decide) ?_
            rw [show p_lp tx n P 124 2 (f + 1) pos a = p_lp tx n P 124 2 f (P (pos + 1)).2.1 (a ++ ((P (pos + 1)).2.2 ++ [2])) from (if_pos hb4).trans (if_pos hg9)]
            have e9 : ss ++ a.map q_stp ++ (P (pos + 1)).2.2.map q_stp ++ [(20, 0)] = ss ++ (a ++ ((P (pos + 1)).2.2 ++ [2])).map q_stp := by
              rw [List.map_append, List.map_append, show ([2] : List Nat).map q_stp = [(20, 0)] from rfl]
              simp only [List.append_assoc]
            rw [e9] at hQ3
            exact ih (k + 1) (by omega) m4 _ f _ hQ3 g2 (by omega) (by omega)
set_option maxRecDepth 100000 in
set_option maxHeartbeats 4000000 in
theorem v_tx_any (xs : List Int32) {tx : Nat → Nat} {n : Nat} {m0 : am_Mm} {j : Nat} (ht : q_ty tx n m0) (hj : j < 6) {P : Nat → q_R} {d g : Nat} (hG : q_Gd n P) (hP : q_KC xs 73 d n m0 j P g) (hd1 : 2 ≤ d) {m : am_Mm} {pos kn : Nat} {ss : List (Nat × Nat)} (hp : q_ka m0 j pos kn ss m) (hn : pos ≤ n) : am_V xs (d + 1) 72 [.ref 117, .int (nI g)] m (q_KQ m0 j kn ss (p_sq tx n P 124 2 pos)) := by
  have hn1 := ht.1
  refine am_V_of ky_72 (Nat.le_of_ble_eq_true rfl) ?_
  show am_P xs d tx_anyOf 0 [some (.ref 117), some (.int (nI g)), none, none] [] m _
  refine w_aload_n (pc' := 1) rfl rfl rfl rfl ?_
  refine w_iload_n (pc' := 2) rfl rfl rfl ?_
  refine w_cV1i (pc' := 5) (hP m pos kn ss hp hn) (by omega) rfl rfl rfl (Nat.le_of_ble_eq_true rfl) sh_117 rfl (fun m1 hm' => ?_)
  have hQ1 := hm'
  rcases hg9 : (P pos).1 with _ | _
  · rw [show bB false = 0 from rfl]
    rw [if_neg (by rw [hg9]; decide)] at hQ1
    refine w_ist2 (pc' := 6) rfl rfl rfl ?_
    refine w_iconst (pc' := 7) 0 rfl rfl ic_0 ?_
    refine w_ist3 (pc' := 8) rfl rfl rfl ?_
    refine w_iload_n (pc' := 9) rfl rfl rfl ?_
    refine w_bipush (pc' := 11) 100 rfl rfl bp_100 ?_
    refine w_ic_ge (t := 49) (pc' := 14) rfl (by decide) rfl (fun h11 => ?_) (fun h11 => ?_)
    · exact absurd h11 (by decide)
    · refine w_iload_n (pc' := 15) rfl rfl rfl ?_
      refine w_if_eq (t := 49) (pc' := 18) rfl (by decide) rfl (fun h15 => ?_) (fun h15 => ?_)
      · refine w_iload_n (pc' := 50) rfl rfl rfl ?_
        refine w_iret rfl rfl (by first | rfl | exact am_nbB _) ?_
        rw [show p_sq tx n P 124 2 pos = (false, (P pos).2.1, []) from if_neg (by rw [hg9]; decide)]
        exact q_KQ_f hQ1
      · exact absurd h15 (by decide)
  · rw [show bB true = 1 from rfl]
    rw [if_pos hg9] at hQ1
    obtain ⟨g1, g2, g3⟩ := hG pos hn
    refine w_ist2 (pc' := 6) rfl rfl rfl ?_
    refine w_iconst (pc' := 7) 0 rfl rfl ic_0 ?_
    refine w_ist3 (pc' := 8) rfl rfl rfl ?_
    rw [show p_sq tx n P 124 2 pos = p_lp tx n P 124 2 n (P pos).2.1 (P pos).2.2 from if_pos hg9]
    exact lp_tx_any xs ht hj hG hP hd1 100 0 (by omega) m1 _ n _ hQ1 g2 (by omega) (by omega)
set_option maxRecDepth 100000 in
set_option maxHeartbeats 4000000 in
theorem v_tx_one4 (xs : List Int32) {tx : Nat → Nat} {n : Nat} {m0 m : am_Mm} {j pos kn : Nat} {ss : List (Nat × Nat)} (ht : q_ty tx n m0) (hj : j < 6) (hp : q_ka m0 j pos kn ss m) (hn : pos ≤ n) : am_V xs 8 74 [.ref 117, .int (nI 4)] m (q_KQ m0 j kn ss (p_F tx n 0 pos)) := by
  have hn1 := ht.1
  refine am_V_of ky_74 (Nat.le_of_ble_eq_true rfl) ?_
  show am_P xs 7 tx_one 0 [some (.ref 117), some (.int (nI 4)), none] [] m _
  refine w_aload_n (pc' := 1) rfl rfl rfl rfl ?_
  refine w_cV0i (pc' := 4) (v_tx_ahead xs ht hj hp.1 hn) (by decide) rfl rfl rfl (Nat.le_of_ble_eq_true rfl) sh_117 rfl (fun m' hm' => ?_)
  rw [show m' = m from hm']
  clear hm' m'
  refine w_ist2 (pc' := 5) rfl rfl rfl ?_
  refine w_iload_n (pc' := 6) rfl rfl rfl ?_
  refine w_bipush (pc' := 8) 33 rfl rfl bp_33 ?_
  refine w_ic_eq (t := 22) (pc' := 11) rfl (by decide) rfl (fun h8 => ?_) (fun h8 => ?_)
  · have hi33 : p_is tx n 33 pos = true := (p_ah_is (c := 33) ht.2.2.1 (by decide)).mp h8
    refine w_iload_n (pc' := 23) rfl rfl rfl ?_
    refine w_iconst (pc' := 24) 4 rfl rfl ic_4 ?_
    refine w_ic_lt (t := 29) (pc' := 27) rfl (by decide) rfl (fun h24 => ?_) (fun h24 => ?_)
    · exact absurd h24 (by decide)
    · refine w_iconst (pc' := 28) 0 rfl rfl ic_0 ?_
      refine w_iret rfl rfl (by first | rfl | exact am_nbB _) ?_
      rw [show p_F tx n 0 pos = (false, pos, []) from p_test_33 hi33 (Or.inl rfl)]
      exact q_KQ_f (hp.kf (by omega))
  · have hi33 : p_is tx n 33 pos = false := p_ah_no (c := 33) ht.2.2.1 (by decide) h8
    refine w_iload_n (pc' := 12) rfl rfl rfl ?_
    refine w_bipush (pc' := 14) 40 rfl rfl bp_40 ?_
    refine w_ic_eq (t := 22) (pc' := 17) rfl (by decide) rfl (fun h14 => ?_) (fun h14 => ?_)
    · have hi40 : p_is tx n 40 pos = true := (p_ah_is (c := 40) ht.2.2.1 (by decide)).mp h14
      refine w_iload_n (pc' := 23) rfl rfl rfl ?_
      refine w_iconst (pc' := 24) 4 rfl rfl ic_4 ?_
      refine w_ic_lt (t := 29) (pc' := 27) rfl (by decide) rfl (fun h24 => ?_) (fun h24 => ?_)
      · exact absurd h24 (by decide)
      · refine w_iconst (pc' := 28) 0 rfl rfl ic_0 ?_
        refine w_iret rfl rfl (by first | rfl | exact am_nbB _) ?_
        rw [show p_F tx n 0 pos = (false, pos, []) from p_test_33 hi40 (Or.inr rfl)]
        exact q_KQ_f (hp.kf (by omega))
    · have hi40 : p_is tx n 40 pos = false := p_ah_no (c := 40) ht.2.2.1 (by decide) h14
      refine w_aload_n (pc' := 18) rfl rfl rfl rfl ?_
      refine w_cV0i (pc' := 21) (v_tx_test xs ht hj hp hn) (by decide) rfl rfl rfl (Nat.le_of_ble_eq_true rfl) sh_117 rfl (fun m1 hm' => ?_)
      have hQ1 := hm'
      refine w_iret rfl rfl (by first | rfl | exact am_nbB _) ?_
      exact ⟨rfl, hQ1⟩
set_option maxRecDepth 100000 in
set_option maxHeartbeats 4000000 in
theorem v_tx_oneu (xs : List Int32) {tx : Nat → Nat} {n : Nat} {m0 m : am_Mm} {j pos kn : Nat} {ss : List (Nat × Nat)} (ht : q_ty tx n m0) (hj : j < 6) {g u d : Nat} (hg : g < 4) (hd : 7 ≤ d) (hF : q_KC xs 74 d n m0 j (p_F tx n u) (g + 1)) (hE : q_KC xs 72 d n m0 j (p_E tx n u) (g + 1)) (hp : q_ka m0 j pos kn ss m) (hn : pos ≤ n) : am_V xs ((d + 1) + 1) 74 [.ref 117, .int (nI g)] m (q_KQ m0 j kn ss (p_F tx n (u + 1) pos)) := by
  have hn1 := ht.1
  refine am_V_of ky_74 (Nat.le_of_ble_eq_true rfl) ?_
  show am_P xs (d + 1) tx_one 0 [some (.ref 117), some (.int (nI g)), none] [] m _
  refine w_aload_n (pc' := 1) rfl rfl rfl rfl ?_
  refine w_cV0i (pc' := 4) (v_tx_ahead xs ht hj hp.1 hn) (by omega) rfl rfl rfl (Nat.le_of_ble_eq_true rfl) sh_117 rfl (fun m' hm' => ?_)
  rw [show m' = m from hm']
  clear hm' m'
  refine w_ist2 (pc' := 5) rfl rfl rfl ?_
  refine w_iload_n (pc' := 6) rfl rfl rfl ?_
  refine w_bipush (pc' := 8) 33 rfl rfl bp_33 ?_
  refine w_ic_eq (t := 22) (pc' := 11) rfl (by decide) rfl (fun h8 => ?_) (fun h8 => ?_)
  · have hi33 : p_is tx n 33 pos = true := (p_ah_is (c := 33) ht.2.2.1 (by decide)).mp h8
    refine w_iload_n (pc' := 23) rfl rfl rfl ?_
    refine w_iconst (pc' := 24) 4 rfl rfl ic_4 ?_
    refine w_ic_lt (t := 29) (pc' := 27) rfl (by decide) rfl (fun h24 => ?_) (fun h24 => ?_)
    · have g1 : g < 4 := (nI_ltI (a := g) (b := 4) (by omega) (by omega)).mp h24
      refine w_aload_n (pc' := 30) rfl rfl rfl rfl ?_
      refine w_dup (pc' := 31) rfl rfl rfl ?_
      refine w_getI (pc' := 34) rfl rfl rfl sh_117 rfl ?_
      rw [show m.1 117 2 = nI pos from hp.1.2.2.1]
      refine w_iconst (pc' := 35) 1 rfl rfl ic_1 ?_
      refine w_iadd (pc' := 36) rfl rfl ?_
      rw [show nI (pos) + (1 : Int32) = nI (pos + 1) from nI_add _ _]
      refine w_putI (pc' := 39) rfl rfl rfl sh_117 rfl rfl rfl ?_
      refine w_any (q_ka m0 j (pos + 1) kn ss) (hp.k2 q_k2.at (by omega)) (fun m1 hp1 => ?_)
      have hd2 := p_is_lt hi33
      refine w_iload_n (pc' := 40) rfl rfl rfl ?_
      refine w_bipush (pc' := 42) 33 rfl rfl bp_33 ?_
      refine w_ic_ne (t := 55) (pc' := 45) rfl (by decide) rfl (fun h42 => ?_) (fun h42 => ?_)
      · exact absurd ((p_ah_is (c := 33) ht.2.2.1 (by decide)).mpr hi33) h42
      · refine w_aload_n (pc' := 46) rfl rfl rfl rfl ?_
        refine w_iload_n (pc' := 47) rfl rfl rfl ?_
        refine w_iconst (pc' := 48) 1 rfl rfl ic_1 ?_
        refine w_iadd (pc' := 49) rfl rfl ?_
        rw [show nI (g) + (1 : Int32) = nI (g + 1) from nI_add _ _]
        refine w_cV1i (pc' := 52) (v_tx_not xs ht hj (p_F_Gd tx n u) hF (by omega) hp1 hd2 (by have := hp.2.2; omega)) (by omega) rfl rfl rfl (Nat.le_of_ble_eq_true rfl) sh_117 rfl (fun m1 hm' => ?_)
        have hQ1 := hm'
        refine w_goto (pc' := 62) rfl (by decide) ?_
        refine w_iret rfl rfl (by first | rfl | exact am_nbB _) ?_
        rw [show p_F tx n (u + 1) pos = p_not (p_F tx n u) (pos + 1) from if_pos hi33]
        exact ⟨rfl, hQ1⟩
    · have g2 : ¬ g < 4 := fun q => h24 ((nI_ltI (a := g) (b := 4) (by omega) (by omega)).mpr q)
      omega
  · have hi33 : p_is tx n 33 pos = false := p_ah_no (c := 33) ht.2.2.1 (by decide) h8
    refine w_iload_n (pc' := 12) rfl rfl rfl ?_
    refine w_bipush (pc' := 14) 40 rfl rfl bp_40 ?_
    refine w_ic_eq (t := 22) (pc' := 17) rfl (by decide) rfl (fun h14 => ?_) (fun h14 => ?_)
    · have hi40 : p_is tx n 40 pos = true := (p_ah_is (c := 40) ht.2.2.1 (by decide)).mp h14
      refine w_iload_n (pc' := 23) rfl rfl rfl ?_
      refine w_iconst (pc' := 24) 4 rfl rfl ic_4 ?_
      refine w_ic_lt (t := 29) (pc' := 27) rfl (by decide) rfl (fun h24 => ?_) (fun h24 => ?_)
      · have g3 : g < 4 := (nI_ltI (a := g) (b := 4) (by omega) (by omega)).mp h24
        refine w_aload_n (pc' := 30) rfl rfl rfl rfl ?_
        refine w_dup (pc' := 31) rfl rfl rfl ?_
        refine w_getI (pc' := 34) rfl rfl rfl sh_117 rfl ?_
        rw [show m.1 117 2 = nI pos from hp.1.2.2.1]
        refine w_iconst (pc' := 35) 1 rfl rfl ic_1 ?_
        refine w_iadd (pc' := 36) rfl rfl ?_
        rw [show nI (pos) + (1 : Int32) = nI (pos + 1) from nI_add _ _]
        refine w_putI (pc' := 39) rfl rfl rfl sh_117 rfl rfl rfl ?_
        refine w_any (q_ka m0 j (pos + 1) kn ss) (hp.k2 q_k2.at (by omega)) (fun m1 hp1 => ?_)
        have hd2 := p_is_lt hi40
        refine w_iload_n (pc' := 40) rfl rfl rfl ?_
        refine w_bipush (pc' := 42) 33 rfl rfl bp_33 ?_
        refine w_ic_ne (t := 55) (pc' := 45) rfl (by decide) rfl (fun h42 => ?_) (fun h42 => ?_)
        · refine w_aload_n (pc' := 56) rfl rfl rfl rfl ?_
          refine w_iload_n (pc' := 57) rfl rfl rfl ?_
          refine w_iconst (pc' := 58) 1 rfl rfl ic_1 ?_
          refine w_iadd (pc' := 59) rfl rfl ?_
          rw [show nI (g) + (1 : Int32) = nI (g + 1) from nI_add _ _]
          refine w_cV1i (pc' := 62) (v_tx_inBr xs ht hj (p_E_Gd tx n u) hE (by omega) hp1 hd2) (by omega) rfl rfl rfl (Nat.le_of_ble_eq_true rfl) sh_117 rfl (fun m2 hm' => ?_)
          have hQ1 := hm'
          refine w_iret rfl rfl (by first | rfl | exact am_nbB _) ?_
          rw [show p_F tx n (u + 1) pos = p_br tx n (p_E tx n u) (pos + 1) from (if_neg (by rw [hi33]; decide)).trans (if_pos hi40)]
          exact ⟨rfl, hQ1⟩
        · rw [(p_ah_is (c := 33) ht.2.2.1 (by decide)).mp h42] at hi33
          cases hi33
      · have g4 : ¬ g < 4 := fun q => h24 ((nI_ltI (a := g) (b := 4) (by omega) (by omega)).mpr q)
        omega
    · have hi40 : p_is tx n 40 pos = false := p_ah_no (c := 40) ht.2.2.1 (by decide) h14
      refine w_aload_n (pc' := 18) rfl rfl rfl rfl ?_
      refine w_cV0i (pc' := 21) (v_tx_test xs ht hj hp hn) (by omega) rfl rfl rfl (Nat.le_of_ble_eq_true rfl) sh_117 rfl (fun m3 hm' => ?_)
      have hQ1 := hm'
      refine w_iret rfl rfl (by first | rfl | exact am_nbB _) ?_
      rw [show p_F tx n (u + 1) pos = p_test tx n pos from (if_neg (by rw [hi33]; decide)).trans (if_neg (by rw [hi40]; decide))]
      exact ⟨rfl, hQ1⟩
/-- all expressions, within g -/
theorem v_tx_FE (xs : List Int32) {tx : Nat → Nat} {n : Nat} {m0 : am_Mm} {j : Nat} (ht : q_ty tx n m0) (hj : j < 6) : ∀ (u : Nat), u ≤ 4 → q_KC xs 74 (8 + 4 * u) n m0 j (p_F tx n u) (4 - u) ∧ q_KC xs 72 (10 + 4 * u) n m0 j (p_E tx n u) (4 - u) := by
  intro u
  have hET : ∀ u d, 2 ≤ d → q_KC xs 74 d n m0 j (p_F tx n u) (4 - u) → q_KC xs 72 (d + 2) n m0 j (p_E tx n u) (4 - u) := fun u d hd hF =>
    have hT : q_KC xs 73 (d + 1) n m0 j (p_sq tx n (p_F tx n u) 38 1) (4 - u) := fun _ _ _ _ hp hn => v_tx_all xs ht hj (p_F_Gd tx n u) hF hd hp hn
    fun _ _ _ _ hp hn => v_tx_any xs ht hj (p_sq_Gd (p_F_Gd tx n u)) hT (by omega) hp hn
  induction u with
  | zero =>
    intro _
    have h1 : q_KC xs 74 8 n m0 j (p_F tx n 0) 4 := fun _ _ _ _ hp hn => v_tx_one4 xs ht hj hp hn
    exact ⟨h1, hET 0 8 (by omega) h1⟩
  | succ u ih =>
    intro hu
    obtain ⟨hF, hE⟩ := ih (by omega)
    have e : 4 - (u + 1) + 1 = 4 - u := by omega
    have h1 : q_KC xs 74 (8 + 4 * (u + 1)) n m0 j (p_F tx n (u + 1)) (4 - (u + 1)) := fun m pos kn ss hp hn => by
      refine (v_tx_oneu xs ht hj (g := 4 - (u + 1)) (d := 10 + 4 * u) (u := u) (by omega) (by omega) ?_ ?_ hp hn).up (by omega)
      · rw [e]
        exact fun m pos kn ss hp hn => (hF m pos kn ss hp hn).up (by omega)
      · rw [e]
        exact hE
    exact ⟨h1, fun m pos kn ss hp hn => (hET (u + 1) (8 + 4 * (u + 1)) (by omega) h1 m pos kn ss hp hn).up (by omega)⟩
