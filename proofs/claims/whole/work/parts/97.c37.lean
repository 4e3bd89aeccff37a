/-- the clauses behind one that was read -/
def p_ct (tx : Nat → Nat) (n r q : Nat) (acc : List q_Cl) : q_O := if q = n then (true, q, acc) else if r = 0 then (false, q, []) else if p_is tx n 59 q = true then p_ol tx n r (q + 1) acc else (false, q, [])
theorem p_ol_ct (tx : Nat → Nat) (n r pos : Nat) (acc : List q_Cl) : p_ol tx n (r + 1) pos acc = if (p_cl tx n pos).1 = true then p_ct tx n r (p_cl tx n pos).2.1 (acc ++ [(p_cl tx n pos).2.2]) else (false, (p_cl tx n pos).2.1, []) := rfl
def q_KR (m0 : am_Mm) (j : Nat) (r : q_O) : am_Q := am_qi (if r.1 = true then -1 else nI r.2.1) (fun m' => (∃ p, p ≤ 100 ∧ q_kq m0 j p m') ∧ (r.2.1 ≤ 100 ∧ (r.1 = true → q_ks j (kno r.2.2 3) (q_sts r.2.2) m' ∧ (q_sts r.2.2).length ≤ 100)))
theorem q_KR_t {m0 m' : am_Mm} {j q : Nat} {acc : List q_Cl} (h : q_ka m0 j q (kno acc 3) (q_sts acc) m') (hq : q ≤ 100) : q_KR m0 j (true, q, acc) (some (.int (-1))) m' := ⟨rfl, ⟨q, hq, h.1⟩, hq, fun _ => ⟨h.2.1, Nat.le_trans h.2.2 hq⟩⟩
theorem q_KR_f {m0 m' : am_Mm} {j q : Nat} {acc : List q_Cl} (h : q_kq m0 j q m') (hq : q ≤ 100) : q_KR m0 j (false, q, acc) (some (.int (nI q))) m' := ⟨rfl, ⟨q, hq, h⟩, hq, fun z => absurd (show false = true from z) (by decide)⟩
theorem q_ka.cl {m0 m : am_Mm} {j q : Nat} {acc : List q_Cl} {cl : q_Cl} (h : q_ka m0 j q (if cl.1 = 2 then cl.2.1 else kno acc 3) (q_sts acc ++ q_sts [cl]) m) : q_ka m0 j q (kno (acc ++ [cl]) 3) (q_sts (acc ++ [cl])) m := by
  rw [kno_app, q_sts_app]
  exact h
set_option maxRecDepth 100000 in
set_option maxHeartbeats 4000000 in
theorem v_of_clear (xs : List Int32) (m : am_Mm) {j : Nat} (hj : j < 6) : am_V xs 1 59 [.ref (123 + 3 * j)] m (am_qn (· = am_u (am_u m (123 + 3 * j) 3 (nI 0)) (123 + 3 * j) 0 (nI 3))) := by
  refine am_V_of ky_59 (Nat.le_of_ble_eq_true rfl) ?_
  show am_P xs 0 of_clear 0 [some (.ref (123 + 3 * j))] [] m _
  refine w_aload_n (pc' := 1) rfl rfl rfl rfl ?_
  refine w_iconst (pc' := 2) 0 rfl rfl ic_0 ?_
  refine w_putI (pc' := 5) rfl rfl rfl (shO (j := j) (by omega)) rfl rfl rfl ?_
  refine w_aload_n (pc' := 6) rfl rfl rfl rfl ?_
  refine w_iconst (pc' := 7) 3 rfl rfl ic_3 ?_
  refine w_putI (pc' := 10) rfl rfl rfl (shO (j := j) (by omega)) rfl rfl rfl ?_
  refine w_vret rfl rfl ?_
  exact ⟨rfl, rfl⟩
set_option maxRecDepth 100000 in
set_option maxHeartbeats 4000000 in
theorem lp_read (xs : List Int32) {tx : Nat → Nat} {n : Nat} {m0 : am_Mm} {j : Nat} (ht : q_ty tx n m0) (hj : j < 6) : ∀ (r k : Nat), k + r = 10 → ∀ (m : am_Mm) (pos : Nat) (acc : List q_Cl), q_ka m0 j pos (kno acc 3) (q_sts acc) m → pos ≤ n → am_P xs 28 tx_readInto 24 [some (.ref 117), some (.ref (123 + 3 * j)), some (.int 1), some (.int (nI k))] [] m (q_KR m0 j (p_ct tx n r pos acc)) := by
  intro r
  induction r with
  | zero =>
    intro k hk m pos acc hp hn
    have hn1 := ht.1
    refine w_iload_n (pc' := 25) rfl rfl rfl ?_
    refine w_bipush (pc' := 27) 10 rfl rfl bp_10 ?_
    refine w_ic_ge (t := 73) (pc' := 30) rfl (by decide) rfl (fun h27 => ?_) (fun h27 => ?_)
    · have g1 : 10 ≤ k := (nI_leI (a := 10) (b := k) (by omega) (by omega)).mp h27
      refine w_iload_n (pc' := 74) rfl rfl rfl ?_
      refine w_if_eq (t := 92) (pc' := 77) rfl (by decide) rfl (fun h74 => ?_) (fun h74 => ?_)
      · exact absurd h74 (by decide)
      · refine w_aload_n (pc' := 78) rfl rfl rfl rfl ?_
        refine w_getI (pc' := 81) rfl rfl rfl sh_117 rfl ?_
        rw [show m.1 117 2 = nI pos from hp.1.2.2.1]
        refine w_aload_n (pc' := 82) rfl rfl rfl rfl ?_
        refine w_getI (pc' := 85) rfl rfl rfl sh_117 rfl ?_
        rw [show m.1 117 1 = nI n from (hp.1.1 117 1 (by omega) (by omega)).trans ht.2.1]
        refine w_ic_ne (t := 92) (pc' := 88) rfl (by decide) rfl (fun h85 => ?_) (fun h85 => ?_)
        · have g2 : ¬ pos = n := fun q => h85 ((nI_eq (a := pos) (b := n) (by omega) (by omega)).mpr q)
          refine w_aload_n (pc' := 93) rfl rfl rfl rfl ?_
          refine w_getI (pc' := 96) rfl rfl rfl sh_117 rfl ?_
          rw [show m.1 117 2 = nI pos from hp.1.2.2.1]
          refine w_iret rfl rfl rfl ?_
          rw [show p_ct tx n 0 pos acc = (false, pos, []) from (if_neg (by omega)).trans (if_pos rfl)]
          exact q_KR_f hp.1 (by omega)
        · have g3 : pos = n := (nI_eq (a := pos) (b := n) (by omega) (by omega)).mp h85
          refine w_iconst (pc' := 89) (-1) rfl rfl ic_m1 ?_
          refine w_goto (pc' := 96) rfl (by decide) ?_
          refine w_iret rfl rfl rfl ?_
          rw [show p_ct tx n 0 pos acc = (true, pos, acc) from if_pos (by omega)]
          exact q_KR_t hp (by omega)
    · have g4 : ¬ 10 ≤ k := fun q => h27 ((nI_leI (a := 10) (b := k) (by omega) (by omega)).mpr q)
      omega
  | succ r ih =>
    intro k hk m pos acc hp hn
    have hn1 := ht.1
    refine w_iload_n (pc' := 25) rfl rfl rfl ?_
    refine w_bipush (pc' := 27) 10 rfl rfl bp_10 ?_
    refine w_ic_ge (t := 73) (pc' := 30) rfl (by decide) rfl (fun h27 => ?_) (fun h27 => ?_)
    · have g1 : 10 ≤ k := (nI_leI (a := 10) (b := k) (by omega) (by omega)).mp h27
      omega
    · have g2 : ¬ 10 ≤ k := fun q => h27 ((nI_leI (a := 10) (b := k) (by omega) (by omega)).mpr q)
      refine w_iload_n (pc' := 31) rfl rfl rfl ?_
      refine w_if_eq (t := 73) (pc' := 34) rfl (by decide) rfl (fun h31 => ?_) (fun h31 => ?_)
      · exact absurd h31 (by decide)
      · refine w_aload_n (pc' := 35) rfl rfl rfl rfl ?_
        refine w_getI (pc' := 38) rfl rfl rfl sh_117 rfl ?_
        rw [show m.1 117 2 = nI pos from hp.1.2.2.1]
        refine w_aload_n (pc' := 39) rfl rfl rfl rfl ?_
        refine w_getI (pc' := 42) rfl rfl rfl sh_117 rfl ?_
        rw [show m.1 117 1 = nI n from (hp.1.1 117 1 (by omega) (by omega)).trans ht.2.1]
        refine w_ic_ge (t := 73) (pc' := 45) rfl (by decide) rfl (fun h42 => ?_) (fun h42 => ?_)
        · have g3 : n ≤ pos := (nI_leI (a := n) (b := pos) (by omega) (by omega)).mp h42
          refine w_iload_n (pc' := 74) rfl rfl rfl ?_
          refine w_if_eq (t := 92) (pc' := 77) rfl (by decide) rfl (fun h74 => ?_) (fun h74 => ?_)
          · exact absurd h74 (by decide)
          · refine w_aload_n (pc' := 78) rfl rfl rfl rfl ?_
            refine w_getI (pc' := 81) rfl rfl rfl sh_117 rfl ?_
            rw [show m.1 117 2 = nI pos from hp.1.2.2.1]
            refine w_aload_n (pc' := 82) rfl rfl rfl rfl ?_
            refine w_getI (pc' := 85) rfl rfl rfl sh_117 rfl ?_
            rw [show m.1 117 1 = nI n from (hp.1.1 117 1 (by omega) (by omega)).trans ht.2.1]
            refine w_ic_ne (t := 92) (pc' := 88) rfl (by decide) rfl (fun h85 => ?_) (fun h85 => ?_)
            · have g4 : ¬ pos = n := fun q => h85 ((nI_eq (a := pos) (b := n) (by omega) (by omega)).mpr q)
              omega
            · have g5 : pos = n := (nI_eq (a := pos) (b := n) (by omega) (by omega)).mp h85
              refine w_iconst (pc' := 89) (-1) rfl rfl ic_m1 ?_
              refine w_goto (pc' := 96) rfl (by decide) ?_
              refine w_iret rfl rfl rfl ?_
              rw [show p_ct tx n (r + 1) pos acc = (true, pos, acc) from if_pos (by omega)]
              exact q_KR_t hp (by omega)
        · have g6 : ¬ n ≤ pos := fun q => h42 ((nI_leI (a := n) (b := pos) (by omega) (by omega)).mpr q)
          refine w_aload_n (pc' := 46) rfl rfl rfl rfl ?_
          refine w_bipush (pc' := 48) 59 rfl rfl bp_59 ?_
          refine w_cV1i (pc' := 51) (v_tx_takes xs ht hj hp.1 hn (c := 59) (by decide)) (by decide) rfl rfl rfl (Nat.le_of_ble_eq_true rfl) sh_117 rfl (fun m1 hm' => ?_)
          have hz1 := hm'
          refine w_if_eq (t := 65) (pc' := 54) rfl (by decide) rfl (fun h51 => ?_) (fun h51 => ?_)
          · have hb7 : p_is tx n 59 pos = false := bB_0.mp h51
            rw [hb7] at hz1
            have hq9 : q_kq m0 j pos m1 := hp.1.k2 hz1
            refine w_iconst (pc' := 66) 0 rfl rfl ic_0 ?_
            refine w_ist2 (pc' := 67) rfl rfl rfl ?_
            refine w_iinc3 (pc' := 70) 1 rfl rfl ic_1 rfl ?_
            rw [nI_inc]
            refine w_goto (pc' := 24) rfl (by decide) ?_
            refine w_iload_n (pc' := 25) rfl rfl rfl ?_
            refine w_bipush (pc' := 27) 10 rfl rfl bp_10 ?_
            refine w_ic_ge (t := 73) (pc' := 30) rfl (by decide) rfl (fun h27 => ?_) (fun h27 => ?_)
            · have g8 : 10 ≤ (k + 1) := (nI_leI (a := 10) (b := (k + 1)) (by omega) (by omega)).mp h27
              refine w_iload_n (pc' := 74) rfl rfl rfl ?_
              refine w_if_eq (t := 92) (pc' := 77) rfl (by decide) rfl (fun h74 => ?_) (fun h74 => ?_)
              · refine w_aload_n (pc' := 93) rfl rfl rfl rfl ?_
                refine w_getI (pc' := 96) rfl rfl rfl sh_117 rfl ?_
                rw [show m1.1 117 2 = nI pos from hq9.2.2.1]
                refine w_iret rfl rfl rfl ?_
                rw [show p_ct tx n (r + 1) pos acc = (false, pos, []) from (if_neg (by omega)).trans ((if_neg (by omega)).trans (if_neg (by rw [hb7]; decide)))]
                exact q_KR_f hq9 (by omega)
              · exact absurd h74 (by decide)
            · have g9 : ¬ 10 ≤ (k + 1) := fun q => h27 ((nI_leI (a := 10) (b := (k + 1)) (by omega) (by omega)).mpr q)
              refine w_iload_n (pc' := 31) rfl rfl rfl ?_
              refine w_if_eq (t := 73) (pc' := 34) rfl (by decide) rfl (fun h31 => ?_) (fun h31 => ?_)
              · refine w_iload_n (pc' := 74) rfl rfl rfl ?_
                refine w_if_eq (t := 92) (pc' := 77) rfl (by decide) rfl (fun h74 => ?_) (fun h74 => ?_)
                · refine w_aload_n (pc' := 93) rfl rfl rfl rfl ?_
                  refine w_getI (pc' := 96) rfl rfl rfl sh_117 rfl ?_
                  rw [show m1.1 117 2 = nI pos from hq9.2.2.1]
                  refine w_iret rfl rfl rfl ?_
                  rw [show p_ct tx n (r + 1) pos acc = (false, pos, []) from (if_neg (by omega)).trans ((if_neg (by omega)).trans (if_neg (by rw [hb7]; decide)))]
                  exact q_KR_f hq9 (by omega)
                · exact absurd h74 (by decide)
              · exact absurd h31 (by decide)
          · have hb10 : p_is tx n 59 pos = true := bB_n0.mp h51
            rw [hb10] at hz1
            have hp1 : q_ka m0 j (pos + 1) (kno acc 3) (q_sts acc) m1 := hp.k2 hz1 (Nat.le_succ _)
            have hd2 := p_is_lt hb10
            obtain ⟨c1, c2, c3⟩ := p_cl_Gd tx n (pos + 1) hd2
            refine w_aload_n (pc' := 55) rfl rfl rfl rfl ?_
            refine w_cV0i (pc' := 58) (v_tx_clause xs ht hj hp1 hd2) (by decide) rfl rfl rfl (Nat.le_of_ble_eq_true rfl) sh_117 rfl (fun m2 hm' => ?_)
            have hQ2 := hm'
            refine w_if_eq (t := 65) (pc' := 61) rfl (by decide) rfl (fun h58 => ?_) (fun h58 => ?_)
            · have hb11 : (p_cl tx n (pos + 1)).1 = false := bB_0.mp h58
              rw [if_neg (by rw [hb11]; decide)] at hQ2
              have hq9 : q_kq m0 j (p_cl tx n (pos + 1)).2.1 m2 := hQ2.1
              refine w_iconst (pc' := 66) 0 rfl rfl ic_0 ?_
              refine w_ist2 (pc' := 67) rfl rfl rfl ?_
              refine w_iinc3 (pc' := 70) 1 rfl rfl ic_1 rfl ?_
              rw [nI_inc]
              refine w_goto (pc' := 24) rfl (by decide) ?_
              refine w_iload_n (pc' := 25) rfl rfl rfl ?_
              refine w_bipush (pc' := 27) 10 rfl rfl bp_10 ?_
              refine w_ic_ge (t := 73) (pc' := 30) rfl (by decide) rfl (fun h27 => ?_) (fun h27 => ?_)
              · have g12 : 10 ≤ (k + 1) := (nI_leI (a := 10) (b := (k + 1)) (by omega) (by omega)).mp h27
                refine w_iload_n (pc' := 74) rfl rfl rfl ?_
                refine w_if_eq (t := 92) (pc' := 77) rfl (by decide) rfl (fun h74 => ?_) (fun h74 => ?_)
                · refine w_aload_n (pc' := 93) rfl rfl rfl rfl ?_
                  refine w_getI (pc' := 96) rfl rfl rfl sh_117 rfl ?_
                  rw [show m2.1 117 2 = nI ((p_cl tx n (pos + 1)).2.1) from hq9.2.2.1]
                  refine w_iret rfl rfl rfl ?_
                  rw [show p_ct tx n (r + 1) pos acc = (false, (p_cl tx n (pos + 1)).2.1, []) from (if_neg (by omega)).trans ((if_neg (by omega)).trans ((if_pos hb10).trans ((p_ol_ct tx n r (pos + 1) acc).trans (if_neg (by rw [hb11]; decide)))))]
                  exact q_KR_f hq9 (by omega)
                · exact absurd h74 (by decide)
              · have g13 : ¬ 10 ≤ (k + 1) := fun q => h27 ((nI_leI (a := 10) (b := (k + 1)) (by omega) (by omega)).mpr q)
                refine w_iload_n (pc' := 31) rfl rfl rfl ?_
                refine w_if_eq (t := 73) (pc' := 34) rfl (by decide) rfl (fun h31 => ?_) (fun h31 => ?_)
                · refine w_iload_n (pc' := 74) rfl rfl rfl ?_
                  refine w_if_eq (t := 92) (pc' := 77) rfl (by decide) rfl (fun h74 => ?_) (fun h74 => ?_)
                  · refine w_aload_n (pc' := 93) rfl rfl rfl rfl ?_
                    refine w_getI (pc' := 96) rfl rfl rfl sh_117 rfl ?_
                    rw [show m2.1 117 2 = nI ((p_cl tx n (pos + 1)).2.1) from hq9.2.2.1]
                    refine w_iret rfl rfl rfl ?_
                    rw [show p_ct tx n (r + 1) pos acc = (false, (p_cl tx n (pos + 1)).2.1, []) from (if_neg (by omega)).trans ((if_neg (by omega)).trans ((if_pos hb10).trans ((p_ol_ct tx n r (pos + 1) acc).trans (if_neg (by rw [hb11]; decide)))))]
                    exact q_KR_f hq9 (by omega)
                  · exact absurd h74 (by decide)
                · exact absurd h31 (by decide)
            · have hb14 : (p_cl tx n (pos + 1)).1 = true := bB_n0.mp h58
              rw [if_pos hb14] at hQ2
              refine w_iconst (pc' := 62) 1 rfl rfl ic_1 ?_
              refine w_goto (pc' := 66) rfl (by decide) ?_
              refine w_ist2 (pc' := 67) rfl rfl rfl ?_
              refine w_iinc3 (pc' := 70) 1 rfl rfl ic_1 rfl ?_
              rw [nI_inc]
              refine w_goto (pc' := 24) rfl (by decide) ?_
              rw [show p_ct tx n (r + 1) pos acc = p_ct tx n r (p_cl tx n (pos + 1)).2.1 (acc ++ [(p_cl tx n (pos + 1)).2.2]) from (if_neg (by omega)).trans ((if_neg (by omega)).trans ((if_pos hb10).trans ((p_ol_ct tx n r (pos + 1) acc).trans (if_pos hb14))))]
              exact ih (k + 1) (by omega) m2 _ _ hQ2.cl c2
set_option maxRecDepth 100000 in
set_option maxHeartbeats 4000000 in
theorem v_tx_readInto (xs : List Int32) {tx : Nat → Nat} {n : Nat} {m : am_Mm} {j : Nat} (ht : q_ty tx n m) (hj : j < 6) : am_V xs 29 58 [.ref 117, .ref (123 + 3 * j)] m (q_KR m j (p_ol tx n 10 0 [])) := by
  have hn1 := ht.1
  refine am_V_of ky_58 (Nat.le_of_ble_eq_true rfl) ?_
  show am_P xs 28 tx_readInto 0 [some (.ref 117), some (.ref (123 + 3 * j)), none, none] [] m _
  refine w_aload_n (pc' := 1) rfl rfl rfl rfl ?_
  refine w_aload_n (pc' := 2) rfl rfl rfl rfl ?_
  refine w_putM (pc' := 5) (nI (123 + 3 * j)) rfl rfl rfl sh_117 rfl rfl (am_dec_n (by omega)) rfl ?_
  refine w_aload_n (pc' := 6) rfl rfl rfl rfl ?_
  refine w_getM (pc' := 9) rfl rfl rfl sh_117 rfl ?_
  rw [am_u_eq, am_dec_n (by omega)]
  refine w_cV0n (pc' := 12) (v_of_clear xs _ hj) (by decide) rfl rfl rfl (Nat.le_of_ble_eq_true rfl) (shO (j := j) (by omega)) rfl (fun m1 hm' => ?_)
  rw [show m1 = _ from hm']
  refine w_aload_n (pc' := 13) rfl rfl rfl rfl ?_
  refine w_iconst (pc' := 14) 0 rfl rfl ic_0 ?_
  refine w_putI (pc' := 17) rfl rfl rfl sh_117 rfl rfl rfl ?_
  refine w_any (q_ka m j 0 3 []) ⟨⟨fun c k a b => (am_u_ne (by omega)).trans ((am_u_ne (by omega)).trans ((am_u_ne (by omega)).trans (am_u_ne (by omega)))), rfl, am_u_eq, (am_u_ne (by omega)).trans ((am_u_ne (by omega)).trans ((am_u_ne (by omega)).trans am_u_eq))⟩, ⟨(am_u_ne (by omega)).trans am_u_eq, (am_u_ne (by omega)).trans ((am_u_ne (by omega)).trans am_u_eq), fun i s hs => by cases hs⟩, Nat.le_refl _⟩ (fun m2 hp => ?_)
  refine w_aload_n (pc' := 18) rfl rfl rfl rfl ?_
  refine w_cV0i (pc' := 21) (v_tx_clause xs ht hj hp (Nat.zero_le _)) (by decide) rfl rfl rfl (Nat.le_of_ble_eq_true rfl) sh_117 rfl (fun m2 hm' => ?_)
  have hQ2 := hm'
  obtain ⟨c1, c2, c3⟩ := p_cl_Gd tx n 0 (Nat.zero_le _)
  rcases hg9 : (p_cl tx n 0).1 with _ | _
  · rw [show bB false = 0 from rfl]
    rw [if_neg (by rw [hg9]; decide)] at hQ2
    refine w_ist2 (pc' := 22) rfl rfl rfl ?_
    refine w_iconst (pc' := 23) 1 rfl rfl ic_1 ?_
    refine w_ist3 (pc' := 24) rfl rfl rfl ?_
    refine w_iload_n (pc' := 25) rfl rfl rfl ?_
    refine w_bipush (pc' := 27) 10 rfl rfl bp_10 ?_
    refine w_ic_ge (t := 73) (pc' := 30) rfl (by decide) rfl (fun h27 => ?_) (fun h27 => ?_)
    · exact absurd h27 (by decide)
    · refine w_iload_n (pc' := 31) rfl rfl rfl ?_
      refine w_if_eq (t := 73) (pc' := 34) rfl (by decide) rfl (fun h31 => ?_) (fun h31 => ?_)
      · refine w_iload_n (pc' := 74) rfl rfl rfl ?_
        refine w_if_eq (t := 92) (pc' := 77) rfl (by decide) rfl (fun h74 => ?_) (fun h74 => ?_)
        · refine w_aload_n (pc' := 93) rfl rfl rfl rfl ?_
          refine w_getI (pc' := 96) rfl rfl rfl sh_117 rfl ?_
          rw [show m2.1 117 2 = nI ((p_cl tx n 0).2.1) from hQ2.1.2.2.1]
          refine w_iret rfl rfl rfl ?_
          rw [p_ol_ct, if_neg (by rw [hg9]; decide)]
          exact q_KR_f hQ2.1 (by omega)
        · exact absurd h74 (by decide)
      · exact absurd h31 (by decide)
  · rw [show bB true = 1 from rfl]
    rw [if_pos hg9] at hQ2
    refine w_ist2 (pc' := 22) rfl rfl rfl ?_
    refine w_iconst (pc' := 23) 1 rfl rfl ic_1 ?_
    refine w_ist3 (pc' := 24) rfl rfl rfl ?_
    rw [p_ol_ct, if_pos hg9]
    exact lp_read xs ht hj 9 1 (by omega) m2 _ [(p_cl tx n 0).2.2] (q_ka.cl (acc := []) hQ2) c2
theorem drO {j : Nat} (h : j < 6) : ([some 123, some 126, some 129, some 132, some 135, some 138] : List (Option Nat))[j]? = some (some (123 + 3 * j)) := by
  rcases q_p6 h with rfl | rfl | rfl | rfl | rfl | rfl <;> rfl
theorem q_pi_19 : q_pi 153 19 < 182 := by decide
theorem q_Rc.of {T T' : q_T} {m m' : am_Mm} (h : q_Rc T m) (hI : q_I T) (hL : q_Rl 1 T' m') (hO : q_Ro T' m') (hX : q_Rx T' m') (hm : ∀ c, (2 ≤ c ∧ c < 117) ∨ 153 ≤ c → m'.1 c = m.1 c) (hm2 : m'.2 = m.2) (hT : ∀ c k, ((154 ≤ c ∧ c ≤ 162) ∨ ((171 ≤ c ∧ c ≤ 177) ∨ c = 179)) ∨ (c = 153 ∧ (k = 0 ∨ k = 10 ∨ k = 11 ∨ k = 28 ∨ k = 32 ∨ k = 35 ∨ k = 40)) → T'.1 c k = T.1 c k) : q_Q T' m m' := by
  obtain ⟨h1, h2', h3, h4, h5⟩ := h
  refine ⟨⟨hL, hO, h3.eq (fun c c1 c2 => hm c (by omega)) (fun c k hc => hT c k (by omega)), hX, fun hi => ?_⟩, fun c hc => ⟨hm c (by omega), by rw [hm2]⟩⟩
  rw [hT 153 40 (by omega)] at hi
  have b1 : (q_und T).1 153 0 < 7 := (hI.2 hi).1.1 153 0
  have eu : ∀ c k, ((154 ≤ c ∧ c ≤ 162) ∨ (171 ≤ c ∧ c ≤ 177)) ∨ (c = 153 ∧ (k = 0 ∨ k = 10 ∨ k = 11 ∨ k = 19 ∨ k = 28 ∨ k = 32 ∨ k = 35)) → (q_und T').1 c k = (q_und T).1 c k := by
    intro c k hc
    show (if q_pi c k < 182 then T'.1 179 (q_pi c k) else T'.1 c k) = if q_pi c k < 182 then T.1 179 (q_pi c k) else T.1 c k
    by_cases e : q_pi c k < 182
    · rw [if_pos e, if_pos e, hT 179 _ (by omega)]
    · rw [if_neg e, if_neg e]
      by_cases e2 : c = 153 ∧ k = 19
      · obtain ⟨rfl, rfl⟩ := e2
        exact absurd q_pi_19 e
      · exact hT c k (by omega)
  exact ⟨(h5 hi).1.eq (fun c c1 c2 _ => hm c (by omega)) (fun c k hc => eu c k (by omega)) (by omega), (h5 hi).2.eq (fun c c1 c2 => hm c (by omega)) (fun c k hc => eu c k (by omega))⟩
theorem q_of_no {T : q_T} {m m1 : am_Mm} {p : Nat} (hC : q_Rc T m) (hI : q_I T) (hj : T.2.1.length < 6) (hq : q_kq m T.2.1.length p m1) : q_Q (q_Tu T 153 12 0) m (am_u m1 117 1 0) := by
  have b0 : T.1 153 0 < 7 := hI.1.1.1 153 0
  have ec : ∀ c k, c ≠ 117 → ¬ (123 + 3 * T.2.1.length ≤ c ∧ c < 126 + 3 * T.2.1.length) → (am_u m1 117 1 0).1 c k = m.1 c k := fun c k a b => (am_u_ne (by omega)).trans (hq.1 c k (by omega) b)
  have e2 : (am_u m1 117 1 0).2 = m.2 := hq.2.1
  have eT : ∀ c k, ¬ (c = 153 ∧ k = 12) → (q_Tu T 153 12 0).1 c k = T.1 c k := fun c k a => q_Tu_ne a
  refine hC.of hI ?_ ?_ ?_ (fun c hc => funext fun k => ec c k (by omega) (by omega)) e2 (fun c k hc => eT c k (by omega))
  · exact hC.1.eq (fun c c1 c2 _ => funext fun k => ec c k (by omega) (by omega)) (fun c k hc => eT c k (by omega)) (by omega)
  · intro i o ho
    have hi : i < T.2.1.length := (List.getElem?_eq_some_iff.mp (show T.2.1[i]? = some o from ho)).1
    obtain ⟨a, b, c, d⟩ := hC.2.1 i o ho
    exact ⟨(ec _ _ (by omega) (by omega)).trans a, (ec _ _ (by omega) (by omega)).trans b, c, fun t s hs => ⟨(ec _ _ (by omega) (by omega)).trans (d t s hs).1, (ec _ _ (by omega) (by omega)).trans (d t s hs).2⟩⟩
  · obtain ⟨a1, a2, a3, a4, a5, a6, a7⟩ := hC.2.2.2.1
    unfold q_Rx
    rw [eT 153 38 (by omega), eT 153 40 (by omega), show (q_Tu T 153 12 0).1 153 12 = 0 from q_Tu_eq]
    refine ⟨(ec _ _ (by omega) (by omega)).trans a1, am_u_eq, fun i hi => absurd hi (Nat.not_lt_zero _), (ec _ _ (by omega) (by omega)).trans a4, fun i h1 h2 => ?_, (ec _ _ (by omega) (by omega)).trans a6, fun t ht => ⟨?_, ?_, fun i hi => ?_⟩⟩
    · rw [eT 178 i (by omega)]
      exact (ec _ _ (by omega) (by omega)).trans (a5 i h1 h2)
    · rw [eT 182 t (by omega)]
      exact (ec _ _ (by omega) (by omega)).trans (a7 t ht).1
    · rw [eT 183 t (by omega)]
      exact (ec _ _ (by omega) (by omega)).trans (a7 t ht).2.1
    · rw [e2]
      exact (a7 t ht).2.2 i hi
theorem q_of_yes {T : q_T} {m m1 : am_Mm} {p : Nat} {o : List q_Cl} (hC : q_Rc T m) (hI : q_I T) (hj : T.2.1.length < 6) (hq : q_kq m T.2.1.length p m1) (hs : q_ks T.2.1.length (kno o 3) (q_sts o) m1) (hl : (q_sts o).length ≤ 100) : q_Q (q_Tn T o) m (am_u (am_u (am_u m1 117 1 0) 1 3 (nI (123 + 3 * T.2.1.length))) 0 8 (nI (T.2.1.length + 1))) := by
  have b0 : T.1 153 0 < 7 := hI.1.1.1 153 0
  generalize hM : am_u (am_u (am_u m1 117 1 0) 1 3 (nI (123 + 3 * T.2.1.length))) 0 8 (nI (T.2.1.length + 1)) = M
  have eM : ∀ c k, ¬ (c = 117 ∧ k = 1) → ¬ (c = 1 ∧ k = 3) → ¬ (c = 0 ∧ k = 8) → M.1 c k = m1.1 c k := fun c k x y z => by
    rw [← hM]
    exact (am_u_ne z).trans ((am_u_ne y).trans (am_u_ne x))
  have ec : ∀ c k, c ≠ 117 → ¬ (123 + 3 * T.2.1.length ≤ c ∧ c < 126 + 3 * T.2.1.length) → ¬ (c = 1 ∧ k = 3) → ¬ (c = 0 ∧ k = 8) → M.1 c k = m.1 c k := fun c k a b x y => (eM c k (by omega) x y).trans (hq.1 c k (by omega) b)
  have e2 : M.2 = m.2 := by
    rw [← hM]
    exact hq.2.1
  have eT : ∀ c k, ¬ (c = 153 ∧ (k = 12 ∨ k = 19)) → (q_Tn T o).1 c k = T.1 c k := fun c k a => show (q_Tu (q_Tu T 153 12 0) 153 19 (T.2.1.length + 1)).1 c k = _ from (q_Tu_ne (by omega)).trans (q_Tu_ne (by omega))
  have e19 : (q_Tn T o).1 153 19 = T.2.1.length + 1 := show (q_Tu (q_Tu T 153 12 0) 153 19 (T.2.1.length + 1)).1 153 19 = _ from q_Tu_eq
  have e12 : (q_Tn T o).1 153 12 = 0 := show (q_Tu (q_Tu T 153 12 0) 153 19 (T.2.1.length + 1)).1 153 12 = _ from (q_Tu_ne (by omega)).trans q_Tu_eq
  have eo : (q_Tn T o).2.1 = T.2.1 ++ [o] := rfl
  have eol : (T.2.1 ++ [o]).length = T.2.1.length + 1 := by
    rw [List.length_append]
    rfl
  refine hC.of hI ?_ ?_ ?_ (fun c hc => funext fun k => ec c k (by omega) (by omega) (by omega) (by omega)) e2 (fun c k hc => eT c k (by omega))
  · obtain ⟨h1, h2, h3, h4, h5, h6⟩ := hC.1
    unfold q_Rl
    rw [eT 153 0 (by omega), eT 153 10 (by omega), eT 153 11 (by omega), e19]
    refine ⟨(ec _ _ (by omega) (by omega) (by omega) (by omega)).trans h1, (ec _ _ (by omega) (by omega) (by omega) (by omega)).trans h2, (ec _ _ (by omega) (by omega) (by omega) (by omega)).trans h3, ?_, fun c hc => ?_, fun p hp => (h6 p hp).eq (fun c c1 c2 => funext fun k => ec c k (by omega) (by omega) (by omega) (by omega)) (fun c k c1 c2 => eT c k (by omega))⟩
    · rw [← hM]
      refine (am_u_ne (by omega)).trans (am_u_eq.trans ?_)
      unfold q_oc
      rw [if_neg (by omega)]
      exact congrArg nI (by omega)
    · rw [eT 162 c (by omega)]
      exact (ec _ _ (by omega) (by omega) (by omega) (by omega)).trans (h5 c hc)
  · intro i o' ho
    rw [eo] at ho
    have hi : i < (T.2.1 ++ [o]).length := (List.getElem?_eq_some_iff.mp ho).1
    rw [eol] at hi
    by_cases e : i = T.2.1.length
    · subst e
      rw [List.getElem?_append_right (Nat.le_refl _), Nat.sub_self] at ho
      have ho : o = o' := Option.some.inj ho
      subst ho
      exact ⟨(eM _ _ (by omega) (by omega) (by omega)).trans hs.1, (eM _ _ (by omega) (by omega) (by omega)).trans hs.2.1, hl, fun t s ht => ⟨(eM _ _ (by omega) (by omega) (by omega)).trans (hs.2.2 t s ht).1, (eM _ _ (by omega) (by omega) (by omega)).trans (hs.2.2 t s ht).2⟩⟩
    · rw [List.getElem?_append_left (by omega)] at ho
      obtain ⟨a, b, c, d⟩ := hC.2.1 i o' ho
      exact ⟨(ec _ _ (by omega) (by omega) (by omega) (by omega)).trans a, (ec _ _ (by omega) (by omega) (by omega) (by omega)).trans b, c, fun t s hs => ⟨(ec _ _ (by omega) (by omega) (by omega) (by omega)).trans (d t s hs).1, (ec _ _ (by omega) (by omega) (by omega) (by omega)).trans (d t s hs).2⟩⟩
  · obtain ⟨a1, a2, a3, a4, a5, a6, a7⟩ := hC.2.2.2.1
    unfold q_Rx
    rw [eT 153 38 (by omega), eT 153 40 (by omega), e12, eo, eol]
    refine ⟨by rw [← hM]; exact am_u_eq, by rw [← hM]; exact (am_u_ne (by omega)).trans ((am_u_ne (by omega)).trans am_u_eq), fun i hi => absurd hi (Nat.not_lt_zero _), (ec _ _ (by omega) (by omega) (by omega) (by omega)).trans a4, fun i h1 h2 => ?_, (ec _ _ (by omega) (by omega) (by omega) (by omega)).trans a6, fun t ht => ⟨?_, ?_, fun i hi => ?_⟩⟩
    · rw [eT 178 i (by omega)]
      exact (ec _ _ (by omega) (by omega) (by omega) (by omega)).trans (a5 i h1 h2)
    · rw [eT 182 t (by omega)]
      exact (ec _ _ (by omega) (by omega) (by omega) (by omega)).trans (a7 t ht).1
    · rw [eT 183 t (by omega)]
      exact (ec _ _ (by omega) (by omega) (by omega) (by omega)).trans (a7 t ht).2.1
    · rw [e2]
      exact (a7 t ht).2.2 i hi
set_option maxRecDepth 100000 in
set_option maxHeartbeats 4000000 in
theorem v_k_office (xs : List Int32) {T : q_T} {m : am_Mm} (hC : q_Rc T m) (hI : q_I T) : am_V xs 30 57 [.ref 0] m (am_qi (f_office T).1 (q_Q (f_office T).2 m)) := by
  have hY := hI.1.1
  have hB := hY.1
  have hl6 := hI.1.2.1
  have hn0 : T.1 153 0 < 7 := hB 153 0
  have b12 : T.1 153 12 < 101 := hB 153 12
  refine am_V_of ky_57 (Nat.le_of_ble_eq_true rfl) ?_
  show am_P xs 29 k_office 0 [some (.ref 0), none, none] [] m _
  refine w_aload_n (pc' := 1) rfl rfl rfl rfl ?_
  refine w_getI (pc' := 4) rfl rfl rfl sh_0 rfl ?_
  rw [show m.1 0 8 = nI T.2.1.length from hC.2.2.2.1.1]
  refine w_if_lt (t := 16) (pc' := 7) rfl (by decide) rfl (fun h4 => ?_) (fun h4 => ?_)
  · have g1 : T.2.1.length < 0 := (nI_ltI (a := T.2.1.length) (b := 0) (by omega) (by omega)).mp h4
    omega
  · have g2 : ¬ T.2.1.length < 0 := fun q => h4 ((nI_ltI (a := T.2.1.length) (b := 0) (by omega) (by omega)).mpr q)
    refine w_aload_n (pc' := 8) rfl rfl rfl rfl ?_
    refine w_getI (pc' := 11) rfl rfl rfl sh_0 rfl ?_
    rw [show m.1 0 8 = nI T.2.1.length from hC.2.2.2.1.1]
    refine w_bipush (pc' := 13) 6 rfl rfl bp_6 ?_
    refine w_ic_lt (t := 19) (pc' := 16) rfl (by decide) rfl (fun h13 => ?_) (fun h13 => ?_)
    · have g3 : T.2.1.length < 6 := (nI_ltI (a := T.2.1.length) (b := 6) (by omega) (by omega)).mp h13
      refine w_aload_n (pc' := 20) rfl rfl rfl rfl ?_
      refine w_getC (pc' := 23) rfl rfl rfl sh_0 rfl ?_
      refine w_aload_n (pc' := 24) rfl rfl rfl rfl ?_
      refine w_getI (pc' := 27) rfl rfl rfl sh_0 rfl ?_
      rw [show m.1 0 8 = nI T.2.1.length from hC.2.2.2.1.1]
      refine w_aald (j := T.2.1.length) (a := (123 + 3 * T.2.1.length)) (pc' := 28) rfl rfl sh_119 rfl (drO (by omega)) (by omega) (am_sh_lt (shO (j := T.2.1.length) (by omega))) ?_
      refine w_ast1 (pc' := 29) rfl rfl rfl rfl ?_
      refine w_aload_n (pc' := 30) rfl rfl rfl rfl ?_
      refine w_getC (pc' := 33) rfl rfl rfl sh_0 rfl ?_
      refine w_aload_n (pc' := 34) rfl rfl rfl rfl ?_
      refine w_cV1i (pc' := 37) (v_tx_readInto xs (tx := T.1 163) (n := T.1 153 12) (j := T.2.1.length) ⟨by omega, hC.2.2.2.1.2.1, fun k => hB 163 k, hC.2.2.2.1.2.2.1⟩ (by omega)) (by decide) rfl rfl rfl (Nat.le_of_ble_eq_true rfl) sh_117 rfl (fun m1 hm' => ?_)
      obtain ⟨⟨p, hp9, hq⟩, hp8, hs⟩ := hm'
      by_cases hg9 : (p_ol (T.1 163) (T.1 153 12) 10 0 []).1 = true
      · rw [if_pos hg9]
        obtain ⟨hs1, hs2⟩ := hs hg9
        refine w_ist2 (pc' := 38) rfl rfl rfl ?_
        refine w_aload_n (pc' := 39) rfl rfl rfl rfl ?_
        refine w_getC (pc' := 42) rfl rfl rfl sh_0 rfl ?_
        refine w_iconst (pc' := 43) 0 rfl rfl ic_0 ?_
        refine w_putI (pc' := 46) rfl rfl rfl sh_117 rfl rfl rfl ?_
        refine w_iload_n (pc' := 47) rfl rfl rfl ?_
        refine w_if_lt (t := 55) (pc' := 50) rfl (by decide) rfl (fun h47 => ?_) (fun h47 => ?_)
        · refine w_aload_n (pc' := 56) rfl rfl rfl rfl ?_
          refine w_getC (pc' := 59) rfl rfl rfl sh_0 rfl ?_
          refine w_aload_n (pc' := 60) rfl rfl rfl rfl ?_
          refine w_putM (pc' := 63) (nI (123 + 3 * T.2.1.length)) rfl rfl rfl (shL q_L1) rfl rfl (am_dec_n (by omega)) rfl ?_
          refine w_aload_n (pc' := 64) rfl rfl rfl rfl ?_
          refine w_dup (pc' := 65) rfl rfl rfl ?_
          refine w_getI (pc' := 68) rfl rfl rfl sh_0 rfl ?_
          rw [show (am_u (am_u m1 117 1 0) 1 3 (nI (123 + 3 * T.2.1.length))).1 0 8 = nI T.2.1.length from (am_u_ne (by omega)).trans ((am_u_ne (by omega)).trans ((hq.1 0 8 (by omega) (by omega)).trans hC.2.2.2.1.1))]
          refine w_iconst (pc' := 69) 1 rfl rfl ic_1 ?_
          refine w_iadd (pc' := 70) rfl rfl ?_
          rw [show nI (T.2.1.length) + (1 : Int32) = nI ((T.2.1.length) + 1) from nI_add _ _]
          refine w_putI (pc' := 73) rfl rfl rfl sh_0 rfl rfl rfl ?_
          refine w_aload_n (pc' := 74) rfl rfl rfl rfl ?_
          refine w_getI (pc' := 77) rfl rfl rfl sh_0 rfl ?_
          rw [am_u_eq]
          refine w_iconst (pc' := 78) 1 rfl rfl ic_1 ?_
          refine w_isub (pc' := 79) rfl rfl ?_
          rw [nI_pred]
          refine w_iret rfl rfl rfl ?_
          rw [show f_office T = (nI T.2.1.length, q_Tn T (p_ol (T.1 163) (T.1 153 12) 10 0 []).2.2) from (if_neg (by omega)).trans (if_pos hg9)]
          exact ⟨rfl, q_of_yes hC hI (by omega) hq hs1 hs2⟩
        · exact absurd h47 (by decide)
      · rw [if_neg hg9]
        refine w_ist2 (pc' := 38) rfl rfl rfl ?_
        refine w_aload_n (pc' := 39) rfl rfl rfl rfl ?_
        refine w_getC (pc' := 42) rfl rfl rfl sh_0 rfl ?_
        refine w_iconst (pc' := 43) 0 rfl rfl ic_0 ?_
        refine w_putI (pc' := 46) rfl rfl rfl sh_117 rfl rfl rfl ?_
        refine w_iload_n (pc' := 47) rfl rfl rfl ?_
        refine w_if_lt (t := 55) (pc' := 50) rfl (by decide) rfl (fun h47 => ?_) (fun h47 => ?_)
        · have g4 : ((p_ol (T.1 163) (T.1 153 12) 10 0 []).2.1) < 0 := (nI_ltI (a := ((p_ol (T.1 163) (T.1 153 12) 10 0 []).2.1)) (b := 0) (by omega) (by omega)).mp h47
          omega
        · have g5 : ¬ ((p_ol (T.1 163) (T.1 153 12) 10 0 []).2.1) < 0 := fun q => h47 ((nI_ltI (a := ((p_ol (T.1 163) (T.1 153 12) 10 0 []).2.1)) (b := 0) (by omega) (by omega)).mpr q)
          refine w_bipush (pc' := 52) (-10) rfl rfl bp_m10 ?_
          refine w_iload_n (pc' := 53) rfl rfl rfl ?_
          refine w_isub (pc' := 54) rfl rfl ?_
          skip
          refine w_iret rfl rfl rfl ?_
          rw [show f_office T = (-10 - nI (p_ol (T.1 163) (T.1 153 12) 10 0 []).2.1, q_Tu T 153 12 0) from (if_neg (by omega)).trans (if_neg hg9)]
          exact ⟨rfl, q_of_no hC hI (by omega) hq⟩
    · have g6 : ¬ T.2.1.length < 6 := fun q => h13 ((nI_ltI (a := T.2.1.length) (b := 6) (by omega) (by omega)).mpr q)
      refine w_bipush (pc' := 18) (-4) rfl rfl bp_m4 ?_
      refine w_iret rfl rfl rfl ?_
      rw [show f_office T = (-4, T) from if_pos (by omega)]
      exact ⟨rfl, hC.Q hI q_Fq.rf⟩
