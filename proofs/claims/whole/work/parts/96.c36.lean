theorem q_sts_app (a b : List q_Cl) : q_sts (a ++ b) = q_sts a ++ q_sts b := by
  induction a with
  | nil => rfl
  | cons cl l ih =>
    show (if cl.1 < 2 then cl.2.2.map q_stp ++ (21 + cl.1, cl.2.1) :: q_sts (l ++ b) else q_sts (l ++ b)) = (if cl.1 < 2 then cl.2.2.map q_stp ++ (21 + cl.1, cl.2.1) :: q_sts l else q_sts l) ++ q_sts b
    rw [ih]
    split
    · rw [List.append_assoc]; rfl
    · rfl
theorem q_sts_1 (cl : q_Cl) : q_sts [cl] = if cl.1 < 2 then cl.2.2.map q_stp ++ [(21 + cl.1, cl.2.1)] else [] := rfl
theorem kno_app : ∀ (a : List q_Cl) (cl : q_Cl) (x : Nat), kno (a ++ [cl]) x = if cl.1 = 2 then cl.2.1 else kno a x := by
  intro a
  induction a with
  | nil => exact fun _ _ => rfl
  | cons c l ih => exact fun cl x => ih cl _
def q_KK (m0 : am_Mm) (j kn : Nat) (ss : List (Nat × Nat)) (r : q_K) : am_Q := am_qi (bB r.1) (fun m' => if r.1 = true then q_ka m0 j r.2.1 (if r.2.2.1 = 2 then r.2.2.2.1 else kn) (ss ++ q_sts [r.2.2]) m' else q_kf m0 j r.2.1 m')
theorem q_KK_f {m0 m' : am_Mm} {j kn q : Nat} {ss : List (Nat × Nat)} {c : q_Cl} (h : q_kf m0 j q m') : q_KK m0 j kn ss (false, q, c) (some (.int 0)) m' := ⟨rfl, by
  show (if false = true then _ else _)
  rw [if_neg (by decide)]
  exact h⟩
theorem q_KK_2 {m0 m' : am_Mm} {j kn q N : Nat} {ss : List (Nat × Nat)} (h : q_ka m0 j q N ss m') : q_KK m0 j kn ss (true, q, 2, N, []) (some (.int 1)) m' := ⟨rfl, by
  show (if true = true then q_ka m0 j q (if 2 = 2 then N else kn) (ss ++ q_sts [(2, N, [])]) m' else _)
  rw [if_pos rfl, if_pos rfl, show q_sts [(2, N, [])] = [] from rfl, List.append_nil]
  exact h⟩
theorem q_KK_t {m0 m' : am_Mm} {j kn q w N : Nat} {c : List Nat} {ss : List (Nat × Nat)} (hw : w < 2) (h : q_ka m0 j q kn (ss ++ c.map q_stp ++ [(21 + w, N)]) m') : q_KK m0 j kn ss (true, q, w, N, c) (some (.int 1)) m' := ⟨rfl, by
  show (if true = true then q_ka m0 j q (if w = 2 then N else kn) (ss ++ q_sts [(w, N, c)]) m' else _)
  rw [if_pos rfl, if_neg (by omega), q_sts_1, if_pos hw, ← List.append_assoc]
  exact h⟩
theorem q_ka.kn {m0 m : am_Mm} {j pos kn N : Nat} {ss : List (Nat × Nat)} (h : q_ka m0 j pos kn ss m) : q_ka m0 j pos N ss (am_u m (123 + 3 * j) 0 (nI N)) := by
  obtain ⟨⟨h1, h2, h3, h4⟩, ⟨k1, k2, k3⟩, k4⟩ := h
  exact ⟨⟨fun c k x y => (am_u_ne (by omega)).trans (h1 c k x y), h2, (am_u_ne (by omega)).trans h3, (am_u_ne (by omega)).trans h4⟩, ⟨am_u_eq, (am_u_ne (by omega)).trans k2, fun i s hs => ⟨(am_u_ne (by omega)).trans (k3 i s hs).1, (am_u_ne (by omega)).trans (k3 i s hs).2⟩⟩, k4⟩
theorem p_cl_3 {tx : Nat → Nat} {n pos : Nat} (h1 : p_is tx n 116 pos = false) (h2 : p_is tx n 98 pos = false) (h3 : p_is tx n 107 pos = false) : p_cl tx n pos = (false, pos, 0, 0, []) := by
  have e1 := of_decide_eq_false h1
  have e2 := of_decide_eq_false h2
  have e3 := of_decide_eq_false h3
  unfold p_cl
  rw [if_pos (show (if pos < n then p_wd (tx pos) else 3) = 3 from ?_)]
  split
  · rename_i h
    unfold p_wd
    rw [if_neg (fun z => e1 ⟨h, z⟩), if_neg (fun z => e2 ⟨h, z⟩), if_neg (fun z => e3 ⟨h, z⟩)]
  · rfl
set_option maxRecDepth 100000 in
set_option maxHeartbeats 4000000 in
theorem v_tx_clause (xs : List Int32) {tx : Nat → Nat} {n : Nat} {m0 m : am_Mm} {j pos kn : Nat} {ss : List (Nat × Nat)} (ht : q_ty tx n m0) (hj : j < 6) (hp : q_ka m0 j pos kn ss m) (hn : pos ≤ n) : am_V xs 27 60 [.ref 117] m (q_KK m0 j kn ss (p_cl tx n pos)) := by
  have hn1 := ht.1
  refine am_V_of ky_60 (Nat.le_of_ble_eq_true rfl) ?_
  show am_P xs 26 tx_clause 0 [some (.ref 117), none, none, none] [] m _
  refine w_aload_n (pc' := 1) rfl rfl rfl rfl ?_
  refine w_cV0i (pc' := 4) (v_tx_ahead xs ht hj hp.1 hn) (by decide) rfl rfl rfl (Nat.le_of_ble_eq_true rfl) sh_117 rfl (fun m' hm' => ?_)
  rw [show m' = m from hm']
  clear hm' m'
  refine w_ist1 (pc' := 5) rfl rfl rfl ?_
  refine w_iload_n (pc' := 6) rfl rfl rfl ?_
  refine w_bipush (pc' := 8) 116 rfl rfl bp_116 ?_
  refine w_ic_ne (t := 16) (pc' := 11) rfl (by decide) rfl (fun h8 => ?_) (fun h8 => ?_)
  · have hi116 : p_is tx n 116 pos = false := p_ah_no (c := 116) ht.2.2.1 (by decide) h8
    refine w_iload_n (pc' := 17) rfl rfl rfl ?_
    refine w_bipush (pc' := 19) 98 rfl rfl bp_98 ?_
    refine w_ic_ne (t := 27) (pc' := 22) rfl (by decide) rfl (fun h19 => ?_) (fun h19 => ?_)
    · have hi98 : p_is tx n 98 pos = false := p_ah_no (c := 98) ht.2.2.1 (by decide) h19
      rcases hi107 : p_is tx n 107 pos with _ | _
      · have e9 : p_all tx n (q_str 2) pos = (false, pos) := if_neg (by rw [hi107]; decide)
        refine w_ldc (pc' := 29) rfl rfl rfl rfl ?_
        refine w_ast2 (pc' := 30) rfl rfl rfl rfl ?_
        refine w_aload_n (pc' := 31) rfl rfl rfl rfl ?_
        refine w_aload_n (pc' := 32) rfl rfl rfl rfl ?_
        refine w_cV1i (pc' := 35) (v_tx_takesAll2 xs ht hj hp.1 hn) (by decide) rfl rfl rfl (Nat.le_of_ble_eq_true rfl) sh_117 rfl (fun m1 hm' => ?_)
        have hz1 := hm'
        obtain ⟨a1, a2, a3⟩ := p_all_le (tx := tx) (n := n) (q_str 2) pos hn
        have hp1 := hp.k2 hz1 a1
        refine w_if_eq (t := 45) (pc' := 38) rfl (by decide) rfl (fun h35 => ?_) (fun h35 => ?_)
        · have hb1 : (p_all tx n (q_str 2) pos).1 = false := bB_0.mp h35
          refine w_iconst (pc' := 46) 0 rfl rfl ic_0 ?_
          refine w_iret rfl rfl (by first | rfl | exact am_nbB _) ?_
          have ec : p_cl tx n pos = (false, pos, 0, 0, []) := p_cl_3 hi116 hi98 hi107
          have hp9 : q_ka m0 j pos kn ss m1 := by
            have z := hp1
            rw [e9] at z
            exact z
          rw [ec]
          exact q_KK_f (hp9.kf (by omega))
        · rw [e9] at h35
          exact absurd rfl h35
      · skip
        refine w_ldc (pc' := 29) rfl rfl rfl rfl ?_
        refine w_ast2 (pc' := 30) rfl rfl rfl rfl ?_
        refine w_aload_n (pc' := 31) rfl rfl rfl rfl ?_
        refine w_aload_n (pc' := 32) rfl rfl rfl rfl ?_
        refine w_cV1i (pc' := 35) (v_tx_takesAll2 xs ht hj hp.1 hn) (by decide) rfl rfl rfl (Nat.le_of_ble_eq_true rfl) sh_117 rfl (fun m2 hm' => ?_)
        have hz1 := hm'
        obtain ⟨a1, a2, a3⟩ := p_all_le (tx := tx) (n := n) (q_str 2) pos hn
        have hp1 := hp.k2 hz1 a1
        refine w_if_eq (t := 45) (pc' := 38) rfl (by decide) rfl (fun h35 => ?_) (fun h35 => ?_)
        · have hb3 : (p_all tx n (q_str 2) pos).1 = false := bB_0.mp h35
          refine w_iconst (pc' := 46) 0 rfl rfl ic_0 ?_
          refine w_iret rfl rfl (by first | rfl | exact am_nbB _) ?_
          have hlt := p_is_lt hi107
          have ew : p_wd (tx pos) = 2 := by rw [show tx pos = 107 from (of_decide_eq_true hi107).2]; rfl
          rw [show p_cl tx n pos = (false, (p_all tx n (q_str 2) pos).2, 0, 0, []) from by unfold p_cl; rw [if_neg (show ¬ (if pos < n then p_wd (tx pos) else 3) = 3 by rw [if_pos hlt, ew]; decide), ew, if_neg (by rw [hb3]; decide)]]
          exact q_KK_f (hp1.kf (by omega))
        · have hb4 : (p_all tx n (q_str 2) pos).1 = true := bB_n0.mp h35
          refine w_aload_n (pc' := 39) rfl rfl rfl rfl ?_
          refine w_cV0i (pc' := 42) (v_tx_digits xs ht hj hp1.1 a2) (by decide) rfl rfl rfl (Nat.le_of_ble_eq_true rfl) sh_117 rfl (fun m3 hm' => ?_)
          obtain ⟨hz2, hv2⟩ := hm'
          obtain ⟨z1, z2, z3, z4, z5⟩ := p_num_le (tx := tx) (n := n) (pos := (p_all tx n (q_str 2) pos).2) a2
          have hp2 := hp1.k2 hz2 z1
          refine w_if_ne (t := 47) (pc' := 45) rfl (by decide) rfl (fun h42 => ?_) (fun h42 => ?_)
          · have hb5 : decide (0 < (p_num tx n (p_all tx n (q_str 2) pos).2).1) = true := bB_n0.mp h42
            have hz := of_decide_eq_true hb5
            refine w_iload_n (pc' := 48) rfl rfl rfl ?_
            refine w_bipush (pc' := 50) 107 rfl rfl bp_107 ?_
            refine w_ic_ne (t := 66) (pc' := 53) rfl (by decide) rfl (fun h50 => ?_) (fun h50 => ?_)
            · exact absurd ((p_ah_is (c := 107) ht.2.2.1 (by decide)).mpr hi107) h50
            · refine w_aload_n (pc' := 54) rfl rfl rfl rfl ?_
              refine w_getM (pc' := 57) rfl rfl rfl sh_117 rfl ?_
              rw [show m3.1 117 4 = nI (123 + 3 * j) from hp2.1.2.2.2, am_dec_n (by omega)]
              refine w_aload_n (pc' := 58) rfl rfl rfl rfl ?_
              refine w_getI (pc' := 61) rfl rfl rfl sh_117 rfl ?_
              rw [hv2]
              refine w_putI (pc' := 64) rfl rfl rfl (shO (j := j) (by omega)) rfl rfl rfl ?_
              refine w_iconst (pc' := 65) 1 rfl rfl ic_1 ?_
              refine w_iret rfl rfl (by first | rfl | exact am_nbB _) ?_
              have hlt := p_is_lt hi107
              have ew : p_wd (tx pos) = 2 := by rw [show tx pos = 107 from (of_decide_eq_true hi107).2]; rfl
              rw [show p_cl tx n pos = (true, (p_num tx n (p_all tx n (q_str 2) pos).2).2.2, 2, (p_num tx n (p_all tx n (q_str 2) pos).2).2.1, []) from by unfold p_cl; rw [if_neg (show ¬ (if pos < n then p_wd (tx pos) else 3) = 3 by rw [if_pos hlt, ew]; decide), ew, if_pos hb4, if_pos hz, if_pos rfl]]
              exact q_KK_2 hp2.kn
          · have hb6 : decide (0 < (p_num tx n (p_all tx n (q_str 2) pos).2).1) = false := bB_0.mp h42
            refine w_iconst (pc' := 46) 0 rfl rfl ic_0 ?_
            refine w_iret rfl rfl (by first | rfl | exact am_nbB _) ?_
            have hlt := p_is_lt hi107
            have ew : p_wd (tx pos) = 2 := by rw [show tx pos = 107 from (of_decide_eq_true hi107).2]; rfl
            have hz := of_decide_eq_false hb6
            rw [show p_cl tx n pos = (false, (p_num tx n (p_all tx n (q_str 2) pos).2).2.2, 0, 0, []) from by unfold p_cl; rw [if_neg (show ¬ (if pos < n then p_wd (tx pos) else 3) = 3 by rw [if_pos hlt, ew]; decide), ew, if_pos hb4, if_neg hz]]
            exact q_KK_f (hp2.kf (by omega))
    · have hi98 : p_is tx n 98 pos = true := (p_ah_is (c := 98) ht.2.2.1 (by decide)).mp h19
      refine w_ldc (pc' := 24) rfl rfl rfl rfl ?_
      refine w_goto (pc' := 29) rfl (by decide) ?_
      refine w_ast2 (pc' := 30) rfl rfl rfl rfl ?_
      refine w_aload_n (pc' := 31) rfl rfl rfl rfl ?_
      refine w_aload_n (pc' := 32) rfl rfl rfl rfl ?_
      refine w_cV1i (pc' := 35) (v_tx_takesAll1 xs ht hj hp.1 hn) (by decide) rfl rfl rfl (Nat.le_of_ble_eq_true rfl) sh_117 rfl (fun m4 hm' => ?_)
      have hz1 := hm'
      obtain ⟨a1, a2, a3⟩ := p_all_le (tx := tx) (n := n) (q_str 1) pos hn
      have hp1 := hp.k2 hz1 a1
      refine w_if_eq (t := 45) (pc' := 38) rfl (by decide) rfl (fun h35 => ?_) (fun h35 => ?_)
      · have hb7 : (p_all tx n (q_str 1) pos).1 = false := bB_0.mp h35
        refine w_iconst (pc' := 46) 0 rfl rfl ic_0 ?_
        refine w_iret rfl rfl (by first | rfl | exact am_nbB _) ?_
        have hlt := p_is_lt hi98
        have ew : p_wd (tx pos) = 1 := by rw [show tx pos = 98 from (of_decide_eq_true hi98).2]; rfl
        rw [show p_cl tx n pos = (false, (p_all tx n (q_str 1) pos).2, 0, 0, []) from by unfold p_cl; rw [if_neg (show ¬ (if pos < n then p_wd (tx pos) else 3) = 3 by rw [if_pos hlt, ew]; decide), ew, if_neg (by rw [hb7]; decide)]]
        exact q_KK_f (hp1.kf (by omega))
      · have hb8 : (p_all tx n (q_str 1) pos).1 = true := bB_n0.mp h35
        refine w_aload_n (pc' := 39) rfl rfl rfl rfl ?_
        refine w_cV0i (pc' := 42) (v_tx_digits xs ht hj hp1.1 a2) (by decide) rfl rfl rfl (Nat.le_of_ble_eq_true rfl) sh_117 rfl (fun m5 hm' => ?_)
        obtain ⟨hz2, hv2⟩ := hm'
        obtain ⟨z1, z2, z3, z4, z5⟩ := p_num_le (tx := tx) (n := n) (pos := (p_all tx n (q_str 1) pos).2) a2
        have hp2 := hp1.k2 hz2 z1
        refine w_if_ne (t := 47) (pc' := 45) rfl (by decide) rfl (fun h42 => ?_) (fun h42 => ?_)
        · have hb9 : decide (0 < (p_num tx n (p_all tx n (q_str 1) pos).2).1) = true := bB_n0.mp h42
          have hz := of_decide_eq_true hb9
          refine w_iload_n (pc' := 48) rfl rfl rfl ?_
          refine w_bipush (pc' := 50) 107 rfl rfl bp_107 ?_
          refine w_ic_ne (t := 66) (pc' := 53) rfl (by decide) rfl (fun h50 => ?_) (fun h50 => ?_)
          · refine w_aload_n (pc' := 67) rfl rfl rfl rfl ?_
            refine w_getI (pc' := 70) rfl rfl rfl sh_117 rfl ?_
            rw [hv2]
            refine w_ist3 (pc' := 71) rfl rfl rfl ?_
            refine w_aload_n (pc' := 72) rfl rfl rfl rfl ?_
            refine w_bipush (pc' := 74) 32 rfl rfl bp_32 ?_
            refine w_cV1i (pc' := 77) (v_tx_takes xs ht hj hp2.1 z2 (c := 32) (by decide)) (by decide) rfl rfl rfl (Nat.le_of_ble_eq_true rfl) sh_117 rfl (fun m6 hm' => ?_)
            have hz3 := hm'
            refine w_if_eq (t := 88) (pc' := 80) rfl (by decide) rfl (fun h77 => ?_) (fun h77 => ?_)
            · have hb10 : p_is tx n 32 (p_num tx n (p_all tx n (q_str 1) pos).2).2.2 = false := bB_0.mp h77
              refine w_iconst (pc' := 89) 0 rfl rfl ic_0 ?_
              refine w_iret rfl rfl (by first | rfl | exact am_nbB _) ?_
              have hlt := p_is_lt hi98
              have ew : p_wd (tx pos) = 1 := by rw [show tx pos = 98 from (of_decide_eq_true hi98).2]; rfl
              rw [hb10] at hz3
              have hp3 : q_ka m0 j (p_num tx n (p_all tx n (q_str 1) pos).2).2.2 kn ss m6 := hp2.k2 hz3 (Nat.le_refl _)
              rw [show p_cl tx n pos = (false, (p_num tx n (p_all tx n (q_str 1) pos).2).2.2, 0, 0, []) from by unfold p_cl; rw [if_neg (show ¬ (if pos < n then p_wd (tx pos) else 3) = 3 by rw [if_pos hlt, ew]; decide), ew, if_pos hb8, if_pos hz, if_neg (by decide), if_neg (by rw [hb10]; decide)]]
              exact q_KK_f (hp3.kf (by omega))
            · have hb11 : p_is tx n 32 (p_num tx n (p_all tx n (q_str 1) pos).2).2.2 = true := bB_n0.mp h77
              rw [hb11] at hz3
              have hp3 : q_ka m0 j ((p_num tx n (p_all tx n (q_str 1) pos).2).2.2 + 1) kn ss m6 := hp2.k2 hz3 (Nat.le_succ _)
              have hsp := p_is_lt hb11
              refine w_aload_n (pc' := 81) rfl rfl rfl rfl ?_
              refine w_iconst (pc' := 82) 0 rfl rfl ic_0 ?_
              refine w_cV1i (pc' := 85) ((v_tx_FE xs ht hj 4 (by omega)).2 m6 ((p_num tx n (p_all tx n (q_str 1) pos).2).2.2 + 1) kn ss hp3 hsp) (by decide) rfl rfl rfl (Nat.le_of_ble_eq_true rfl) sh_117 rfl (fun m7 hm' => ?_)
              have hQ4 := hm'
              refine w_if_ne (t := 90) (pc' := 88) rfl (by decide) rfl (fun h85 => ?_) (fun h85 => ?_)
              · have hb12 : (p_E tx n 4 ((p_num tx n (p_all tx n (q_str 1) pos).2).2.2 + 1)).1 = true := bB_n0.mp h85
                rw [if_pos hb12] at hQ4
                obtain ⟨e1, e2, e3⟩ := p_E_Gd tx n 4 ((p_num tx n (p_all tx n (q_str 1) pos).2).2.2 + 1) hsp
                obtain ⟨e4, e5⟩ := e3 hb12
                refine w_aload_n (pc' := 91) rfl rfl rfl rfl ?_
                refine w_getM (pc' := 94) rfl rfl rfl sh_117 rfl ?_
                rw [show m7.1 117 4 = nI (123 + 3 * j) from hQ4.1.2.2.2, am_dec_n (by omega)]
                refine w_iload_n (pc' := 95) rfl rfl rfl ?_
                refine w_bipush (pc' := 97) 116 rfl rfl bp_116 ?_
                refine w_ic_ne (t := 105) (pc' := 100) rfl (by decide) rfl (fun h97 => ?_) (fun h97 => ?_)
                · refine w_bipush (pc' := 107) 22 rfl rfl bp_22 ?_
                  refine w_iload_n (pc' := 108) rfl rfl rfl ?_
                  refine w_cV2n (pc' := 111) (v_app_a xs hj hQ4 (by rw [List.length_append, List.length_map]; have := hp2.2.2; omega) (by omega) 22 (p_num tx n (p_all tx n (q_str 1) pos).2).2.1) (by decide) rfl rfl rfl (Nat.le_of_ble_eq_true rfl) (shO (j := j) (by omega)) rfl (fun m8 hm' => ?_)
                  have hQ5 := hm'
                  refine w_iconst (pc' := 112) 1 rfl rfl ic_1 ?_
                  refine w_iret rfl rfl (by first | rfl | exact am_nbB _) ?_
                  have hlt := p_is_lt hi98
                  have ew : p_wd (tx pos) = 1 := by rw [show tx pos = 98 from (of_decide_eq_true hi98).2]; rfl
                  rw [show p_cl tx n pos = (true, (p_E tx n 4 ((p_num tx n (p_all tx n (q_str 1) pos).2).2.2 + 1)).2.1, 1, (p_num tx n (p_all tx n (q_str 1) pos).2).2.1, (p_E tx n 4 ((p_num tx n (p_all tx n (q_str 1) pos).2).2.2 + 1)).2.2) from by unfold p_cl; rw [if_neg (show ¬ (if pos < n then p_wd (tx pos) else 3) = 3 by rw [if_pos hlt, ew]; decide), ew, if_pos hb8, if_pos hz, if_neg (by decide), if_pos hb11, if_pos hb12]]
                  exact q_KK_t (by decide) hQ5
                · rw [(p_ah_is (c := 116) ht.2.2.1 (by decide)).mp h97] at hi116
                  cases hi116
              · have hb13 : (p_E tx n 4 ((p_num tx n (p_all tx n (q_str 1) pos).2).2.2 + 1)).1 = false := bB_0.mp h85
                refine w_iconst (pc' := 89) 0 rfl rfl ic_0 ?_
                refine w_iret rfl rfl (by first | rfl | exact am_nbB _) ?_
                have hlt := p_is_lt hi98
                have ew : p_wd (tx pos) = 1 := by rw [show tx pos = 98 from (of_decide_eq_true hi98).2]; rfl
                rw [if_neg (by rw [hb13]; decide)] at hQ4
                rw [show p_cl tx n pos = (false, (p_E tx n 4 ((p_num tx n (p_all tx n (q_str 1) pos).2).2.2 + 1)).2.1, 0, 0, []) from by unfold p_cl; rw [if_neg (show ¬ (if pos < n then p_wd (tx pos) else 3) = 3 by rw [if_pos hlt, ew]; decide), ew, if_pos hb8, if_pos hz, if_neg (by decide), if_pos hb11, if_neg (by rw [hb13]; decide)]]
                exact q_KK_f hQ4
          · rw [(p_ah_is (c := 98) ht.2.2.1 (by decide)).mpr hi98] at h50
            exact absurd h50 (by decide)
        · have hb14 : decide (0 < (p_num tx n (p_all tx n (q_str 1) pos).2).1) = false := bB_0.mp h42
          refine w_iconst (pc' := 46) 0 rfl rfl ic_0 ?_
          refine w_iret rfl rfl (by first | rfl | exact am_nbB _) ?_
          have hlt := p_is_lt hi98
          have ew : p_wd (tx pos) = 1 := by rw [show tx pos = 98 from (of_decide_eq_true hi98).2]; rfl
          have hz := of_decide_eq_false hb14
          rw [show p_cl tx n pos = (false, (p_num tx n (p_all tx n (q_str 1) pos).2).2.2, 0, 0, []) from by unfold p_cl; rw [if_neg (show ¬ (if pos < n then p_wd (tx pos) else 3) = 3 by rw [if_pos hlt, ew]; decide), ew, if_pos hb8, if_neg hz]]
          exact q_KK_f (hp2.kf (by omega))
  · have hi116 : p_is tx n 116 pos = true := (p_ah_is (c := 116) ht.2.2.1 (by decide)).mp h8
    refine w_ldc (pc' := 13) rfl rfl rfl rfl ?_
    refine w_goto (pc' := 29) rfl (by decide) ?_
    refine w_ast2 (pc' := 30) rfl rfl rfl rfl ?_
    refine w_aload_n (pc' := 31) rfl rfl rfl rfl ?_
    refine w_aload_n (pc' := 32) rfl rfl rfl rfl ?_
    refine w_cV1i (pc' := 35) (v_tx_takesAll0 xs ht hj hp.1 hn) (by decide) rfl rfl rfl (Nat.le_of_ble_eq_true rfl) sh_117 rfl (fun m9 hm' => ?_)
    have hz1 := hm'
    obtain ⟨a1, a2, a3⟩ := p_all_le (tx := tx) (n := n) (q_str 0) pos hn
    have hp1 := hp.k2 hz1 a1
    refine w_if_eq (t := 45) (pc' := 38) rfl (by decide) rfl (fun h35 => ?_) (fun h35 => ?_)
    · have hb15 : (p_all tx n (q_str 0) pos).1 = false := bB_0.mp h35
      refine w_iconst (pc' := 46) 0 rfl rfl ic_0 ?_
      refine w_iret rfl rfl (by first | rfl | exact am_nbB _) ?_
      have hlt := p_is_lt hi116
      have ew : p_wd (tx pos) = 0 := by rw [show tx pos = 116 from (of_decide_eq_true hi116).2]; rfl
      rw [show p_cl tx n pos = (false, (p_all tx n (q_str 0) pos).2, 0, 0, []) from by unfold p_cl; rw [if_neg (show ¬ (if pos < n then p_wd (tx pos) else 3) = 3 by rw [if_pos hlt, ew]; decide), ew, if_neg (by rw [hb15]; decide)]]
      exact q_KK_f (hp1.kf (by omega))
    · have hb16 : (p_all tx n (q_str 0) pos).1 = true := bB_n0.mp h35
      refine w_aload_n (pc' := 39) rfl rfl rfl rfl ?_
      refine w_cV0i (pc' := 42) (v_tx_digits xs ht hj hp1.1 a2) (by decide) rfl rfl rfl (Nat.le_of_ble_eq_true rfl) sh_117 rfl (fun m10 hm' => ?_)
      obtain ⟨hz2, hv2⟩ := hm'
      obtain ⟨z1, z2, z3, z4, z5⟩ := p_num_le (tx := tx) (n := n) (pos := (p_all tx n (q_str 0) pos).2) a2
      have hp2 := hp1.k2 hz2 z1
      refine w_if_ne (t := 47) (pc' := 45) rfl (by decide) rfl (fun h42 => ?_) (fun h42 => ?_)
      · have hb17 : decide (0 < (p_num tx n (p_all tx n (q_str 0) pos).2).1) = true := bB_n0.mp h42
        have hz := of_decide_eq_true hb17
        refine w_iload_n (pc' := 48) rfl rfl rfl ?_
        refine w_bipush (pc' := 50) 107 rfl rfl bp_107 ?_
        refine w_ic_ne (t := 66) (pc' := 53) rfl (by decide) rfl (fun h50 => ?_) (fun h50 => ?_)
        · refine w_aload_n (pc' := 67) rfl rfl rfl rfl ?_
          refine w_getI (pc' := 70) rfl rfl rfl sh_117 rfl ?_
          rw [hv2]
          refine w_ist3 (pc' := 71) rfl rfl rfl ?_
          refine w_aload_n (pc' := 72) rfl rfl rfl rfl ?_
          refine w_bipush (pc' := 74) 32 rfl rfl bp_32 ?_
          refine w_cV1i (pc' := 77) (v_tx_takes xs ht hj hp2.1 z2 (c := 32) (by decide)) (by decide) rfl rfl rfl (Nat.le_of_ble_eq_true rfl) sh_117 rfl (fun m11 hm' => ?_)
          have hz3 := hm'
          refine w_if_eq (t := 88) (pc' := 80) rfl (by decide) rfl (fun h77 => ?_) (fun h77 => ?_)
          · have hb18 : p_is tx n 32 (p_num tx n (p_all tx n (q_str 0) pos).2).2.2 = false := bB_0.mp h77
            refine w_iconst (pc' := 89) 0 rfl rfl ic_0 ?_
            refine w_iret rfl rfl (by first | rfl | exact am_nbB _) ?_
            have hlt := p_is_lt hi116
            have ew : p_wd (tx pos) = 0 := by rw [show tx pos = 116 from (of_decide_eq_true hi116).2]; rfl
            rw [hb18] at hz3
            have hp3 : q_ka m0 j (p_num tx n (p_all tx n (q_str 0) pos).2).2.2 kn ss m11 := hp2.k2 hz3 (Nat.le_refl _)
            rw [show p_cl tx n pos = (false, (p_num tx n (p_all tx n (q_str 0) pos).2).2.2, 0, 0, []) from by unfold p_cl; rw [if_neg (show ¬ (if pos < n then p_wd (tx pos) else 3) = 3 by rw [if_pos hlt, ew]; decide), ew, if_pos hb16, if_pos hz, if_neg (by decide), if_neg (by rw [hb18]; decide)]]
            exact q_KK_f (hp3.kf (by omega))
          · have hb19 : p_is tx n 32 (p_num tx n (p_all tx n (q_str 0) pos).2).2.2 = true := bB_n0.mp h77
            rw [hb19] at hz3
            have hp3 : q_ka m0 j ((p_num tx n (p_all tx n (q_str 0) pos).2).2.2 + 1) kn ss m11 := hp2.k2 hz3 (Nat.le_succ _)
            have hsp := p_is_lt hb19
            refine w_aload_n (pc' := 81) rfl rfl rfl rfl ?_
            refine w_iconst (pc' := 82) 0 rfl rfl ic_0 ?_
            refine w_cV1i (pc' := 85) ((v_tx_FE xs ht hj 4 (by omega)).2 m11 ((p_num tx n (p_all tx n (q_str 0) pos).2).2.2 + 1) kn ss hp3 hsp) (by decide) rfl rfl rfl (Nat.le_of_ble_eq_true rfl) sh_117 rfl (fun m12 hm' => ?_)
            have hQ4 := hm'
            refine w_if_ne (t := 90) (pc' := 88) rfl (by decide) rfl (fun h85 => ?_) (fun h85 => ?_)
            · have hb20 : (p_E tx n 4 ((p_num tx n (p_all tx n (q_str 0) pos).2).2.2 + 1)).1 = true := bB_n0.mp h85
              rw [if_pos hb20] at hQ4
              obtain ⟨e1, e2, e3⟩ := p_E_Gd tx n 4 ((p_num tx n (p_all tx n (q_str 0) pos).2).2.2 + 1) hsp
              obtain ⟨e4, e5⟩ := e3 hb20
              refine w_aload_n (pc' := 91) rfl rfl rfl rfl ?_
              refine w_getM (pc' := 94) rfl rfl rfl sh_117 rfl ?_
              rw [show m12.1 117 4 = nI (123 + 3 * j) from hQ4.1.2.2.2, am_dec_n (by omega)]
              refine w_iload_n (pc' := 95) rfl rfl rfl ?_
              refine w_bipush (pc' := 97) 116 rfl rfl bp_116 ?_
              refine w_ic_ne (t := 105) (pc' := 100) rfl (by decide) rfl (fun h97 => ?_) (fun h97 => ?_)
              · exact absurd ((p_ah_is (c := 116) ht.2.2.1 (by decide)).mpr hi116) h97
              · refine w_bipush (pc' := 102) 21 rfl rfl bp_21 ?_
                refine w_goto (pc' := 107) rfl (by decide) ?_
                refine w_iload_n (pc' := 108) rfl rfl rfl ?_
                refine w_cV2n (pc' := 111) (v_app_a xs hj hQ4 (by rw [List.length_append, List.length_map]; have := hp2.2.2; omega) (by omega) 21 (p_num tx n (p_all tx n (q_str 0) pos).2).2.1) (by decide) rfl rfl rfl (Nat.le_of_ble_eq_true rfl) (shO (j := j) (by omega)) rfl (fun m13 hm' => ?_)
                have hQ5 := hm'
                refine w_iconst (pc' := 112) 1 rfl rfl ic_1 ?_
                refine w_iret rfl rfl (by first | rfl | exact am_nbB _) ?_
                have hlt := p_is_lt hi116
                have ew : p_wd (tx pos) = 0 := by rw [show tx pos = 116 from (of_decide_eq_true hi116).2]; rfl
                rw [show p_cl tx n pos = (true, (p_E tx n 4 ((p_num tx n (p_all tx n (q_str 0) pos).2).2.2 + 1)).2.1, 0, (p_num tx n (p_all tx n (q_str 0) pos).2).2.1, (p_E tx n 4 ((p_num tx n (p_all tx n (q_str 0) pos).2).2.2 + 1)).2.2) from by unfold p_cl; rw [if_neg (show ¬ (if pos < n then p_wd (tx pos) else 3) = 3 by rw [if_pos hlt, ew]; decide), ew, if_pos hb16, if_pos hz, if_neg (by decide), if_pos hb19, if_pos hb20]]
                exact q_KK_t (by decide) hQ5
            · have hb21 : (p_E tx n 4 ((p_num tx n (p_all tx n (q_str 0) pos).2).2.2 + 1)).1 = false := bB_0.mp h85
              refine w_iconst (pc' := 89) 0 rfl rfl ic_0 ?_
              refine w_iret rfl rfl (by first | rfl | exact am_nbB _) ?_
              have hlt := p_is_lt hi116
              have ew : p_wd (tx pos) = 0 := by rw [show tx pos = 116 from (of_decide_eq_true hi116).2]; rfl
              rw [if_neg (by rw [hb21]; decide)] at hQ4
              rw [show p_cl tx n pos = (false, (p_E tx n 4 ((p_num tx n (p_all tx n (q_str 0) pos).2).2.2 + 1)).2.1, 0, 0, []) from by unfold p_cl; rw [if_neg (show ¬ (if pos < n then p_wd (tx pos) else 3) = 3 by rw [if_pos hlt, ew]; decide), ew, if_pos hb16, if_pos hz, if_neg (by decide), if_pos hb19, if_neg (by rw [hb21]; decide)]]
              exact q_KK_f hQ4
        · rw [(p_ah_is (c := 116) ht.2.2.1 (by decide)).mpr hi116] at h50
          exact absurd h50 (by decide)
      · have hb22 : decide (0 < (p_num tx n (p_all tx n (q_str 0) pos).2).1) = false := bB_0.mp h42
        refine w_iconst (pc' := 46) 0 rfl rfl ic_0 ?_
        refine w_iret rfl rfl (by first | rfl | exact am_nbB _) ?_
        have hlt := p_is_lt hi116
        have ew : p_wd (tx pos) = 0 := by rw [show tx pos = 116 from (of_decide_eq_true hi116).2]; rfl
        have hz := of_decide_eq_false hb22
        rw [show p_cl tx n pos = (false, (p_num tx n (p_all tx n (q_str 0) pos).2).2.2, 0, 0, []) from by unfold p_cl; rw [if_neg (show ¬ (if pos < n then p_wd (tx pos) else 3) = 3 by rw [if_pos hlt, ew]; decide), ew, if_pos hb16, if_neg hz]]
        exact q_KK_f (hp2.kf (by omega))
