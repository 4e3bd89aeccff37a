abbrev q_O : Type := Bool × (Nat × List q_Cl)
/-- the clauses of an office, from the k-th on -/
def p_ol (tx : Nat → Nat) (n : Nat) : Nat → Nat → List q_Cl → q_O
  | 0, pos, acc => (false, pos, acc)
  | r + 1, pos, acc =>
    if (p_cl tx n pos).1 = true then
      (if (p_cl tx n pos).2.1 = n then (true, (p_cl tx n pos).2.1, acc ++ [(p_cl tx n pos).2.2])
       else if r = 0 then (false, (p_cl tx n pos).2.1, [])
       else if p_is tx n 59 (p_cl tx n pos).2.1 = true then p_ol tx n r ((p_cl tx n pos).2.1 + 1) (acc ++ [(p_cl tx n pos).2.2])
       else (false, (p_cl tx n pos).2.1, []))
    else (false, (p_cl tx n pos).2.1, [])
/-- the clauses told so far: their words, numbers and codes -/
def q_rec (j cdk : Nat) (acc : List q_Cl) (m : am_Mm) : Prop := ∀ i cl, acc[i]? = some cl → m.1 165 (10 * j + i) = nI cl.1 ∧ (m.1 166 (10 * j + i) = nI cl.2.1 ∧ ∃ b : Nat, m.1 167 (10 * j + i) = nI b ∧ (m.1 168 (10 * j + i) = nI cl.2.2.length ∧ (b + cl.2.2.length ≤ cdk ∧ ∀ t x, cl.2.2[t]? = some x → m.1 169 (b + t) = nI x)))
def q_fr (m0 : am_Mm) (j cd0 : Nat) (m : am_Mm) : Prop := (∀ c k, ¬ (c = 153 ∧ ((14 ≤ k ∧ k ≤ 17) ∨ k = 26)) → ¬ (c = 169 ∧ cd0 ≤ k) → ¬ (165 ≤ c ∧ c ≤ 168 ∧ 10 * j ≤ k) → m.1 c k = m0.1 c k) ∧ m.2 = m0.2
def q_ol (m0 : am_Mm) (j cd0 pos cdk : Nat) (acc : List q_Cl) (m : am_Mm) : Prop := q_fr m0 j cd0 m ∧ (m.1 153 14 = nI pos ∧ (m.1 153 26 = nI cdk ∧ (cd0 ≤ cdk ∧ (cdk ≤ cd0 + pos ∧ q_rec j cdk acc m))))
theorem q_fr.pa {m0 m : am_Mm} {j cd0 : Nat} (h : q_fr m0 j cd0 m) {pos cdk : Nat} (h1 : m.1 153 14 = nI pos) (h2 : m.1 153 26 = nI cdk) : q_pa m cdk pos [] m := ⟨fun _ _ _ _ => rfl, rfl, h1, h2, fun i x q => by cases q⟩
theorem q_tx.fr {tx : Nat → Nat} {n : Nat} {m0 m : am_Mm} {j cd0 : Nat} (h : q_tx tx n m0) (hf : q_fr m0 j cd0 m) : q_tx tx n m := ⟨h.1, (hf.1 153 12 (by omega) (by omega) (by omega)).trans h.2.1, fun k => ⟨(hf.1 163 k (by omega) (by omega) (by omega)).trans (h.2.2 k).1, (h.2.2 k).2⟩⟩
theorem q_fr.pq {m0 m m' : am_Mm} {j cd0 cdk i pos : Nat} (h : q_fr m0 j cd0 m) (h' : q_pq m cdk i pos m') (hc : cd0 ≤ cdk) (hi : 10 * j ≤ i) : q_fr m0 j cd0 m' ∧ m'.1 153 14 = nI pos := ⟨⟨fun c k a b e => (h'.1 c k a (by omega) (by omega)).trans (h.1 c k a b e), h'.2.1.trans h.2⟩, h'.2.2⟩
/-- one more clause -/
theorem q_ol.cl {m0 m m' : am_Mm} {j cd0 pos cdk q a b : Nat} {cs : List Nat} {acc : List q_Cl} (h : q_ol m0 j cd0 pos cdk acc m) (h' : q_pa (am_u (q_w3 m (10 * j + acc.length) (nI a) (nI b) (nI cdk)) 168 (10 * j + acc.length) (nI cs.length)) cdk q cs m') (hq : pos + cs.length ≤ q) : q_ol m0 j cd0 q (cdk + cs.length) (acc ++ [(a, b, cs)]) m' := by
  obtain ⟨hf, h14, h26, hc0, hc1, hr⟩ := h
  obtain ⟨k1, k2, k3, k4, k5⟩ := h'
  have k1' : ∀ c k, ¬ (c = 153 ∧ ((14 ≤ k ∧ k ≤ 17) ∨ k = 26)) → ¬ (c = 169 ∧ cdk ≤ k) → ¬ (165 ≤ c ∧ c ≤ 168 ∧ k = 10 * j + acc.length) → m'.1 c k = m.1 c k := fun c k x y z => (k1 c k x y).trans ((am_u_ne (by omega)).trans (q_w3_o z))
  refine ⟨⟨fun c k x y z => (k1' c k x (by omega) (by omega)).trans (hf.1 c k x y z), k2.trans hf.2⟩, k3, k4, by omega, by omega, fun i cl hi => ?_⟩
  by_cases e : i = acc.length
  · subst e
    rw [List.getElem?_append_right (Nat.le_refl _), Nat.sub_self] at hi
    have hi : (a, b, cs) = cl := Option.some.inj hi
    subst hi
    refine ⟨(k1 165 _ (by omega) (by omega)).trans ((am_u_ne (by omega)).trans ((am_u_ne (by omega)).trans ((am_u_ne (by omega)).trans am_u_eq))), (k1 166 _ (by omega) (by omega)).trans ((am_u_ne (by omega)).trans ((am_u_ne (by omega)).trans am_u_eq)), cdk, (k1 167 _ (by omega) (by omega)).trans ((am_u_ne (by omega)).trans am_u_eq), (k1 168 _ (by omega) (by omega)).trans am_u_eq, Nat.le_refl _, k5⟩
  · have hl : i < (acc ++ [(a, b, cs)]).length := (List.getElem?_eq_some_iff.mp hi).1
    rw [List.length_append] at hl
    have hl2 : i < acc.length := by
      have : [(a, b, cs)].length = 1 := rfl
      omega
    rw [List.getElem?_append_left hl2] at hi
    obtain ⟨r1, r2, bb, r3, r4, r5, r6⟩ := hr i cl hi
    refine ⟨(k1' 165 _ (by omega) (by omega) (by omega)).trans r1, (k1' 166 _ (by omega) (by omega) (by omega)).trans r2, bb, (k1' 167 _ (by omega) (by omega) (by omega)).trans r3, (k1' 168 _ (by omega) (by omega) (by omega)).trans r4, by omega, fun t x ht => ?_⟩
    have ht2 : t < cl.2.2.length := (List.getElem?_eq_some_iff.mp ht).1
    exact (k1' 169 _ (by omega) (by omega) (by omega)).trans (r6 t x ht)
set_option maxRecDepth 100000 in
set_option maxHeartbeats 4000000 in
theorem lp_office (xs : List Int32) {tx : Nat → Nat} {n : Nat} {m0 : am_Mm} {j cd0 was : Nat} {Q : am_Q} (ht : q_tx tx n m0) (h18 : m0.1 153 18 = nI j) (hj : j < 6) : ∀ (N : Nat) (r : Nat), r < N → 1 ≤ r → ∀ (k : Nat), k + r = 10 → ∀ (m : am_Mm) (pos cdk : Nat) (acc : List q_Cl), q_ol m0 j cd0 pos cdk acc m → pos ≤ n → cdk + n ≤ 800 + pos → acc.length = k → (∀ (m : am_Mm) (many : Nat) (l3 : Option Value), (if (p_ol tx n r pos acc).1 = true then many = (p_ol tx n r pos acc).2.2.length ∧ ∃ cdk, q_ol m0 j cd0 (p_ol tx n r pos acc).2.1 cdk (p_ol tx n r pos acc).2.2 m else q_fr m0 j cd0 m ∧ m.1 153 14 = nI (p_ol tx n r pos acc).2.1) → am_P xs 21 m_office 123 [some (.ref 153), some (.int (nI was)), some (.int (nI many)), l3, some (.int (bB (p_ol tx n r pos acc).1))] [] m Q) → am_P xs 21 m_office 29 [some (.ref 153), some (.int (nI was)), some (.int (nI acc.length)), some (.int 1), some (.int 0)] [] m (Q) := by
  intro N
  induction N with
  | zero => intro r hN; omega
  | succ N ih =>
    intro r0 hN hr1 k hk m pos cdk acc hO0 hn hl hk9 hK
    obtain ⟨r, rfl⟩ : ∃ q, r0 = q + 1 := ⟨r0 - 1, by omega⟩
    obtain ⟨hf, h14, h26, hc0, hc1, hr⟩ := hO0
    rw [show nI acc.length = nI k from congrArg nI hk9]
    obtain ⟨gg1, gg2, gg3⟩ := p_cl_Gd tx n pos hn
    have hn1 := ht.1
    refine w_iload_n (pc' := 30) rfl rfl rfl ?_
    refine w_if_eq (t := 123) (pc' := 33) rfl (by decide) rfl (fun h30 => ?_) (fun h30 => ?_)
    · exact absurd h30 (by decide)
    · refine w_iload (pc' := 35) rfl rfl rfl ?_
      refine w_if_ne (t := 123) (pc' := 38) rfl (by decide) rfl (fun h35 => ?_) (fun h35 => ?_)
      · exact absurd h35 (by decide)
      · refine w_iload_n (pc' := 39) rfl rfl rfl ?_
        refine w_bipush (pc' := 41) 10 rfl rfl bp_10 ?_
        refine w_ic_ge (t := 64) (pc' := 44) rfl (by decide) rfl (fun h41 => ?_) (fun h41 => ?_)
        · have g1 : 10 ≤ k := (nI_leI (a := 10) (b := k) (by omega) (by omega)).mp h41
          omega
        · have g2 : ¬ 10 ≤ k := fun q => h41 ((nI_leI (a := 10) (b := k) (by omega) (by omega)).mpr q)
          refine w_aload_n (pc' := 45) rfl rfl rfl rfl ?_
          refine w_bipush (pc' := 47) 10 rfl rfl bp_10 ?_
          refine w_aload_n (pc' := 48) rfl rfl rfl rfl ?_
          refine w_getI (pc' := 51) rfl rfl rfl sh_153 rfl ?_
          rw [show m.1 153 18 = nI j from (hf.1 153 18 (by omega) (by omega) (by omega)).trans h18]
          refine w_imul (pc' := 52) rfl rfl ?_
          rw [show (10 : Int32) * nI (j) = nI (10 * j) from nI_mul _ _]
          refine w_iload_n (pc' := 53) rfl rfl rfl ?_
          refine w_iadd (pc' := 54) rfl rfl ?_
          rw [show nI (10 * j) + nI (k) = nI ((10 * j) + k) from nI_add _ _]
          rw [show nI ((10 * j) + k) = nI (10 * j + acc.length) from congrArg nI (by omega)]
          refine w_cV1i (pc' := 57) (v_m_isClause xs (ht.fr hf) (hf.pa h14 h26) hn (i := 10 * j + acc.length) (by omega) hl) (by decide) rfl rfl rfl (Nat.le_of_ble_eq_true rfl) sh_153 rfl (fun m1 hm' => ?_)
          have hQ1 := hm'
          refine w_if_eq (t := 64) (pc' := 60) rfl (by decide) rfl (fun h57 => ?_) (fun h57 => ?_)
          · have hb3 : (p_cl tx n pos).1 = false := bB_0.mp h57
            refine w_iconst (pc' := 65) 0 rfl rfl ic_0 ?_
            refine w_ist3 (pc' := 66) rfl rfl rfl ?_
            refine w_iload_n (pc' := 67) rfl rfl rfl ?_
            refine w_if_ne (t := 73) (pc' := 70) rfl (by decide) rfl (fun h67 => ?_) (fun h67 => ?_)
            · exact absurd h67 (by decide)
            · refine w_goto (pc' := 29) rfl (by decide) ?_
              refine w_iload_n (pc' := 30) rfl rfl rfl ?_
              refine w_if_eq (t := 123) (pc' := 33) rfl (by decide) rfl (fun h30 => ?_) (fun h30 => ?_)
              · have e9 : p_ol tx n (r + 1) pos acc = (false, (p_cl tx n pos).2.1, []) := if_neg (by rw [hb3]; decide)
                rw [e9] at hK
                rw [if_neg (by rw [hb3]; decide)] at hQ1
                exact hK m1 _ _ (q_fr.pq hf hQ1 hc0 (by omega))
              · exact absurd h30 (by decide)
          · have hb4 : (p_cl tx n pos).1 = true := bB_n0.mp h57
            rw [if_pos hb4] at hQ1
            have hg3 := gg3 hb4
            have hO := q_ol.cl ⟨hf, h14, h26, hc0, hc1, hr⟩ hQ1 hg3
            refine w_iconst (pc' := 61) 1 rfl rfl ic_1 ?_
            refine w_goto (pc' := 65) rfl (by decide) ?_
            refine w_ist3 (pc' := 66) rfl rfl rfl ?_
            refine w_iload_n (pc' := 67) rfl rfl rfl ?_
            refine w_if_ne (t := 73) (pc' := 70) rfl (by decide) rfl (fun h67 => ?_) (fun h67 => ?_)
            · refine w_iinc2 (pc' := 76) 1 rfl rfl ic_1 rfl ?_
              rw [nI_inc]
              refine w_aload_n (pc' := 77) rfl rfl rfl rfl ?_
              refine w_getI (pc' := 80) rfl rfl rfl sh_153 rfl ?_
              rw [hO.2.1]
              refine w_aload_n (pc' := 81) rfl rfl rfl rfl ?_
              refine w_getI (pc' := 84) rfl rfl rfl sh_153 rfl ?_
              rw [show m1.1 153 12 = nI n from (ht.fr hO.1).2.1]
              refine w_ic_ne (t := 91) (pc' := 87) rfl (by decide) rfl (fun h84 => ?_) (fun h84 => ?_)
              · have g5 : ¬ ((p_cl tx n pos).2.1) = n := fun q => h84 ((nI_eq (a := ((p_cl tx n pos).2.1)) (b := n) (by omega) (by omega)).mpr q)
                refine w_iconst (pc' := 92) 0 rfl rfl ic_0 ?_
                refine w_ist4 (pc' := 94) rfl rfl rfl ?_
                refine w_iload (pc' := 96) rfl rfl rfl ?_
                refine w_if_ne (t := 114) (pc' := 99) rfl (by decide) rfl (fun h96 => ?_) (fun h96 => ?_)
                · exact absurd h96 (by decide)
                · refine w_iload_n (pc' := 100) rfl rfl rfl ?_
                  refine w_bipush (pc' := 102) 10 rfl rfl bp_10 ?_
                  refine w_ic_ge (t := 118) (pc' := 105) rfl (by decide) rfl (fun h102 => ?_) (fun h102 => ?_)
                  · have g6 : 10 ≤ (k + 1) := (nI_leI (a := 10) (b := (k + 1)) (by omega) (by omega)).mp h102
                    refine w_iconst (pc' := 119) 0 rfl rfl ic_0 ?_
                    refine w_ist3 (pc' := 120) rfl rfl rfl ?_
                    refine w_goto (pc' := 29) rfl (by decide) ?_
                    refine w_iload_n (pc' := 30) rfl rfl rfl ?_
                    refine w_if_eq (t := 123) (pc' := 33) rfl (by decide) rfl (fun h30 => ?_) (fun h30 => ?_)
                    · have e9 : p_ol tx n (r + 1) pos acc = (false, (p_cl tx n pos).2.1, []) := (if_pos hb4).trans ((if_neg (by omega)).trans (if_pos (by omega)))
                      rw [e9] at hK
                      exact hK m1 _ _ ⟨hO.1, hO.2.1⟩
                    · exact absurd h30 (by decide)
                  · have g7 : ¬ 10 ≤ (k + 1) := fun q => h102 ((nI_leI (a := 10) (b := (k + 1)) (by omega) (by omega)).mpr q)
                    refine w_aload_n (pc' := 106) rfl rfl rfl rfl ?_
                    refine w_bipush (pc' := 108) 59 rfl rfl bp_59 ?_
                    refine w_cV1i (pc' := 111) (v_m_is xs (ht.fr hO.1) (hO.1.pa hO.2.1 hO.2.2.1) gg2 (c := 59) (by decide)) (by decide) rfl rfl rfl (Nat.le_of_ble_eq_true rfl) sh_153 rfl (fun m2 hm' => ?_)
                    obtain ⟨hp2, ho2⟩ := hm'
                    refine w_if_eq (t := 118) (pc' := 114) rfl (by decide) rfl (fun h111 => ?_) (fun h111 => ?_)
                    · have hb8 : p_is tx n 59 (p_cl tx n pos).2.1 = false := bB_0.mp h111
                      refine w_iconst (pc' := 119) 0 rfl rfl ic_0 ?_
                      refine w_ist3 (pc' := 120) rfl rfl rfl ?_
                      refine w_goto (pc' := 29) rfl (by decide) ?_
                      refine w_iload_n (pc' := 30) rfl rfl rfl ?_
                      refine w_if_eq (t := 123) (pc' := 33) rfl (by decide) rfl (fun h30 => ?_) (fun h30 => ?_)
                      · have e9 : p_ol tx n (r + 1) pos acc = (false, (p_cl tx n pos).2.1, []) := (if_pos hb4).trans ((if_neg (by omega)).trans ((if_neg (by omega)).trans (if_neg (by rw [hb8]; decide))))
                        rw [e9] at hK
                        rw [hb8] at hp2
                        exact hK m2 _ _ ⟨⟨fun c k x y z => (hp2.1 c k x (by have := hO.2.2.2.1; omega)).trans (hO.1.1 c k x y z), hp2.2.1.trans hO.1.2⟩, hp2.2.2.1⟩
                      · exact absurd h30 (by decide)
                    · have hb9 : p_is tx n 59 (p_cl tx n pos).2.1 = true := bB_n0.mp h111
                      refine w_iconst (pc' := 115) 1 rfl rfl ic_1 ?_
                      refine w_goto (pc' := 119) rfl (by decide) ?_
                      refine w_ist3 (pc' := 120) rfl rfl rfl ?_
                      refine w_goto (pc' := 29) rfl (by decide) ?_
                      have e9 : p_ol tx n (r + 1) pos acc = p_ol tx n r ((p_cl tx n pos).2.1 + 1) (acc ++ [(p_cl tx n pos).2.2]) := (if_pos hb4).trans ((if_neg (by omega)).trans ((if_neg (by omega)).trans (if_pos hb9)))
                      rw [e9] at hK
                      rw [hb9] at hp2
                      obtain ⟨f1, f2, f3, f4, f5, f6⟩ := hO
                      have hlt := p_is_lt hb9
                      have hfr : q_fr m0 j cd0 m2 := ⟨fun c k x y z => (hp2.1 c k x (by omega)).trans (f1.1 c k x y z), hp2.2.1.trans f1.2⟩
                      have e8 : nI (k + 1) = nI (acc ++ [(p_cl tx n pos).2.2]).length := congrArg nI (by rw [List.length_append, hk9]; rfl)
                      rw [e8]
                      refine ih r (by omega) (by omega) (k + 1) (by omega) m2 ((p_cl tx n pos).2.1 + 1) ((p_cl tx n pos).2.1 + 1 - ((p_cl tx n pos).2.1 + 1) + (cdk + (p_cl tx n pos).2.2.2.2.length)) (acc ++ [(p_cl tx n pos).2.2]) ?_ hlt (by omega) (by rw [List.length_append, hk9]; rfl) hK
                      refine ⟨hfr, hp2.2.2.1, ?_, by omega, by omega, ?_⟩
                      · rw [Nat.sub_self, Nat.zero_add]
                        exact hp2.2.2.2.1
                      · rw [Nat.sub_self, Nat.zero_add]
                        intro i cl hi
                        obtain ⟨r1, r2, bb, r3, r4, r5, r6⟩ := f6 i cl hi
                        refine ⟨(hp2.1 165 _ (by omega) (by omega)).trans r1, (hp2.1 166 _ (by omega) (by omega)).trans r2, bb, (hp2.1 167 _ (by omega) (by omega)).trans r3, (hp2.1 168 _ (by omega) (by omega)).trans r4, r5, fun t x ht => ?_⟩
                        have ht2 : t < cl.2.2.length := (List.getElem?_eq_some_iff.mp ht).1
                        exact (hp2.1 169 _ (by omega) (by omega)).trans (r6 t x ht)
              · have g10 : ((p_cl tx n pos).2.1) = n := (nI_eq (a := ((p_cl tx n pos).2.1)) (b := n) (by omega) (by omega)).mp h84
                refine w_iconst (pc' := 88) 1 rfl rfl ic_1 ?_
                refine w_goto (pc' := 92) rfl (by decide) ?_
                refine w_ist4 (pc' := 94) rfl rfl rfl ?_
                refine w_iload (pc' := 96) rfl rfl rfl ?_
                refine w_if_ne (t := 114) (pc' := 99) rfl (by decide) rfl (fun h96 => ?_) (fun h96 => ?_)
                · refine w_iconst (pc' := 115) 1 rfl rfl ic_1 ?_
                  refine w_goto (pc' := 119) rfl (by decide) ?_
                  refine w_ist3 (pc' := 120) rfl rfl rfl ?_
                  refine w_goto (pc' := 29) rfl (by decide) ?_
                  refine w_iload_n (pc' := 30) rfl rfl rfl ?_
                  refine w_if_eq (t := 123) (pc' := 33) rfl (by decide) rfl (fun h30 => ?_) (fun h30 => ?_)
                  · exact absurd h30 (by decide)
                  · refine w_iload (pc' := 35) rfl rfl rfl ?_
                    refine w_if_ne (t := 123) (pc' := 38) rfl (by decide) rfl (fun h35 => ?_) (fun h35 => ?_)
                    · have e9 : p_ol tx n (r + 1) pos acc = (true, (p_cl tx n pos).2.1, acc ++ [(p_cl tx n pos).2.2]) := (if_pos hb4).trans (if_pos (by omega))
                      rw [e9] at hK
                      exact hK m1 _ _ ⟨by show k + 1 = (acc ++ [(p_cl tx n pos).2.2]).length; rw [List.length_append, hk9]; rfl, _, hO⟩
                    · exact absurd h35 (by decide)
                · exact absurd h96 (by decide)
            · exact absurd h67 (by decide)
theorem p_ol_ok {tx : Nat → Nat} {n : Nat} : ∀ (r pos : Nat) (acc : List q_Cl), (p_ol tx n r pos acc).1 = true → (p_ol tx n r pos acc).2.1 = n ∧ (p_ol tx n r pos acc).2.2.length ≤ acc.length + r := by
  intro r
  induction r with
  | zero => exact fun _ _ h => absurd (show false = true from h) (by decide)
  | succ r ih =>
    intro pos acc
    rw [p_ol]
    split
    · split
      · rename_i h1
        exact fun _ => ⟨h1, by rw [List.length_append]; show acc.length + 1 ≤ _; omega⟩
      · split
        · exact fun h => absurd (show false = true from h) (by decide)
        · split
          · intro h
            obtain ⟨a, b⟩ := ih _ _ h
            rw [List.length_append] at b
            refine ⟨a, Nat.le_trans b ?_⟩
            show acc.length + 1 + r ≤ _
            omega
          · exact fun h => absurd (show false = true from h) (by decide)
    · exact fun h => absurd (show false = true from h) (by decide)
theorem q_vd_own {c k : Nat} (h : q_vd c k = true) : ¬ (c = 153 ∧ ((14 ≤ k ∧ k ≤ 17) ∨ k = 26)) ∧ (¬ (164 ≤ c ∧ c ≤ 169) ∧ ¬ (c = 153 ∧ k = 18)) := by
  refine ⟨?_, ?_, ?_⟩
  · rintro ⟨rfl, hk⟩
    rcases (show k = 14 ∨ k = 15 ∨ k = 16 ∨ k = 17 ∨ k = 26 by omega) with rfl | rfl | rfl | rfl | rfl <;> cases h
  · intro hc
    rcases (show c = 164 ∨ c = 165 ∨ c = 166 ∨ c = 167 ∨ c = 168 ∨ c = 169 by omega) with rfl | rfl | rfl | rfl | rfl | rfl <;> cases h
  · rintro ⟨rfl, rfl⟩
    cases h
/-- the offices that stand below a code -/
def q_OL (OF : List (List q_Cl)) (cd : Nat) (m : am_Mm) : Prop := ∀ j o, OF[j]? = some o → o.length ≤ 10 ∧ m.1 164 j = nI o.length ∧ ∀ i cl, o[i]? = some cl → m.1 165 (10 * j + i) = nI cl.1 ∧ m.1 166 (10 * j + i) = nI cl.2.1 ∧ ∃ b : Nat, m.1 167 (10 * j + i) = nI b ∧ m.1 168 (10 * j + i) = nI cl.2.2.length ∧ b + cl.2.2.length ≤ cd ∧ ∀ t x, cl.2.2[t]? = some x → m.1 169 (b + t) = nI x
/-- the elder offices stay -/
theorem q_OL.fr {OF : List (List q_Cl)} {m m2 : am_Mm} {cd : Nat} (hall : q_OL OF cd m) (hf : ∀ c k, 164 ≤ c → c ≤ 169 → ¬ (c = 169 ∧ cd ≤ k) → ¬ (165 ≤ c ∧ c ≤ 168 ∧ 10 * OF.length ≤ k) → ¬ (c = 164 ∧ OF.length ≤ k) → m2.1 c k = m.1 c k) {cd' : Nat} (hc : cd ≤ cd') : q_OL OF cd' m2 := by
  intro j o ho
  have hj : j < OF.length := (List.getElem?_eq_some_iff.mp ho).1
  obtain ⟨h1, h2, h3⟩ := hall j o ho
  refine ⟨h1, (hf 164 j (by omega) (by omega) (by omega) (by omega) (by omega)).trans h2, fun i cl hi => ?_⟩
  have hi2 : i < o.length := (List.getElem?_eq_some_iff.mp hi).1
  obtain ⟨r1, r2, bb, r3, r4, r5, r6⟩ := h3 i cl hi
  refine ⟨(hf 165 _ (by omega) (by omega) (by omega) (by omega) (by omega)).trans r1, (hf 166 _ (by omega) (by omega) (by omega) (by omega) (by omega)).trans r2, bb, (hf 167 _ (by omega) (by omega) (by omega) (by omega) (by omega)).trans r3, (hf 168 _ (by omega) (by omega) (by omega) (by omega) (by omega)).trans r4, by omega, fun t x ht => ?_⟩
  have ht2 : t < cl.2.2.length := (List.getElem?_eq_some_iff.mp ht).1
  exact (hf 169 _ (by omega) (by omega) (by omega) (by omega) (by omega)).trans (r6 t x ht)
theorem q_of_f {T : q_T} {m m2 : am_Mm} {cd : Nat} (h : q_Rm T m) (hcd : cd ≤ 100 * T.2.1.length) (hall : q_OL T.2.1 cd m) (hf : q_fr m T.2.1.length cd m2) : q_G (q_Tu T 153 12 0) m (am_u (am_u m2 153 12 0) 153 26 (nI cd)) := by
  refine ⟨⟨fun c k hv => ?_, ⟨h.2.1.1, ?_, cd, hcd, am_u_eq, hall.fr (fun c k a b e f g => ?_) (Nat.le_refl _)⟩, fun t i ht hi => ?_⟩, fun c hc => ⟨?_, ?_⟩⟩
  · obtain ⟨v1, v2, v3⟩ := q_vd_own hv
    by_cases e : c = 153 ∧ k = 12
    · obtain ⟨rfl, rfl⟩ := e
      exact (am_u_ne (by omega)).trans (am_u_eq.trans rfl)
    · rw [q_Tu_ne e]
      exact (am_u_ne (fun z => v1 (by omega))).trans ((am_u_ne e).trans ((hf.1 c k v1 (by omega) (by omega)).trans (h.1 c k hv)))
  · exact (am_u_ne (by omega)).trans ((am_u_ne (by omega)).trans ((hf.1 153 18 (by omega) (by omega) (by omega)).trans h.2.1.2.1))
  · exact (am_u_ne (by omega)).trans ((am_u_ne (by omega)).trans (hf.1 c k (by omega) e f))
  · show m2.2 184 _ = _
    rw [hf.2]
    exact h.2.2 t i ht hi
  · funext k
    exact (am_u_ne (by omega)).trans ((am_u_ne (by omega)).trans (hf.1 c k (by omega) (by omega) (by omega)))
  · show m2.2 c = _
    rw [hf.2]
def q_Tn (T : q_T) (o : List q_Cl) : q_T := ((q_Tu (q_Tu T 153 12 0) 153 19 (T.2.1.length + 1)).1, (T.2.1 ++ [o], T.2.2))
theorem q_of_s {T : q_T} {m m2 : am_Mm} {cd pos cdk : Nat} {o : List q_Cl} (h : q_Rm T m) (hl6 : T.2.1.length < 6) (hcd : cd ≤ 100 * T.2.1.length) (hall : q_OL T.2.1 cd m) (hf : q_ol m T.2.1.length cd pos cdk o m2) (ho : o.length ≤ 10) (hp : pos ≤ 100) : q_G (q_Tn T o) m (am_u (am_u (am_u (am_u m2 153 12 0) 164 T.2.1.length (nI o.length)) 153 19 (nI T.2.1.length)) 153 18 (nI (T.2.1.length + 1))) := by
  obtain ⟨hf, f1, f2, f3, f4, f5⟩ := hf
  have e0 : ∀ c k, ¬ (c = 153 ∧ (k = 12 ∨ k = 18 ∨ k = 19)) → ¬ (c = 164 ∧ k = T.2.1.length) → (am_u (am_u (am_u (am_u m2 153 12 0) 164 T.2.1.length (nI o.length)) 153 19 (nI T.2.1.length)) 153 18 (nI (T.2.1.length + 1))).1 c k = m2.1 c k := fun c k a b => (am_u_ne (by omega)).trans ((am_u_ne (by omega)).trans ((am_u_ne (by omega)).trans (am_u_ne (by omega))))
  refine ⟨⟨fun c k hv => ?_, ⟨?_, ?_, cdk, ?_, ?_, fun j o' hj => ?_⟩, fun t i ht hi => ?_⟩, fun c hc => ⟨?_, ?_⟩⟩
  · obtain ⟨v1, v2, v3⟩ := q_vd_own hv
    by_cases e : c = 153 ∧ k = 19
    · obtain ⟨rfl, rfl⟩ := e
      refine (am_u_ne (by omega)).trans (am_u_eq.trans ?_)
      show _ = q_enc 153 19 ((q_Tu (q_Tu T 153 12 0) 153 19 (T.2.1.length + 1)).1 153 19)
      rw [q_Tu_eq]
      exact (nI_pred _).symm
    · show _ = q_enc c k ((q_Tu (q_Tu T 153 12 0) 153 19 (T.2.1.length + 1)).1 c k)
      rw [q_Tu_ne e]
      by_cases e2 : c = 153 ∧ k = 12
      · obtain ⟨rfl, rfl⟩ := e2
        exact (am_u_ne (by omega)).trans ((am_u_ne (by omega)).trans ((am_u_ne (by omega)).trans (am_u_eq.trans rfl)))
      · rw [q_Tu_ne e2]
        exact (e0 c k (by omega) (by omega)).trans ((hf.1 c k v1 (by omega) (by omega)).trans (h.1 c k hv))
  · show (T.2.1 ++ [o]).length ≤ 6
    rw [List.length_append]
    show T.2.1.length + 1 ≤ 6
    omega
  · refine am_u_eq.trans (congrArg nI ?_)
    show _ = (T.2.1 ++ [o]).length
    rw [List.length_append]
    rfl
  · show _ ≤ 100 * (T.2.1 ++ [o]).length
    rw [List.length_append]
    show _ ≤ 100 * (T.2.1.length + 1)
    omega
  · exact (e0 _ _ (by omega) (by omega)).trans f2
  · by_cases e : j = T.2.1.length
    · subst e
      have hj : (T.2.1 ++ [o])[T.2.1.length]? = some o' := hj
      rw [List.getElem?_append_right (Nat.le_refl _), Nat.sub_self] at hj
      have hj : o = o' := Option.some.inj hj
      subst hj
      refine ⟨ho, (am_u_ne (by omega)).trans ((am_u_ne (by omega)).trans am_u_eq), fun i cl hi => ?_⟩
      obtain ⟨r1, r2, bb, r3, r4, r5, r6⟩ := f5 i cl hi
      exact ⟨(e0 _ _ (by omega) (by omega)).trans r1, (e0 _ _ (by omega) (by omega)).trans r2, bb, (e0 _ _ (by omega) (by omega)).trans r3, (e0 _ _ (by omega) (by omega)).trans r4, r5, fun t x ht => (e0 _ _ (by omega) (by omega)).trans (r6 t x ht)⟩
    · have hj : (T.2.1 ++ [o])[j]? = some o' := hj
      have hj2 : j < (T.2.1 ++ [o]).length := (List.getElem?_eq_some_iff.mp hj).1
      rw [List.length_append] at hj2
      have hj3 : j < T.2.1.length := by
        have : [o].length = 1 := rfl
        omega
      rw [List.getElem?_append_left hj3] at hj
      exact hall.fr (fun c k a b e f g => (e0 c k (by omega) (by omega)).trans (hf.1 c k (by omega) e f)) f3 j o' hj
  · show m2.2 184 _ = _
    rw [hf.2]
    exact h.2.2 t i ht hi
  · funext k
    exact (e0 c k (by omega) (by omega)).trans (hf.1 c k (by omega) (by omega) (by omega))
  · show m2.2 c = _
    rw [hf.2]
def f_office (T : q_T) : Int32 × q_T := if T.2.1.length = 6 then (-4, T) else if (p_ol (T.1 163) (T.1 153 12) 10 0 []).1 = true then (nI T.2.1.length, q_Tn T (p_ol (T.1 163) (T.1 153 12) 10 0 []).2.2) else (-10 - nI (p_ol (T.1 163) (T.1 153 12) 10 0 []).2.1, q_Tu T 153 12 0)
set_option maxRecDepth 100000 in
set_option maxHeartbeats 4000000 in
theorem v_m_office (xs : List Int32) {T : q_T} {m : am_Mm} (h : q_Rm T m) (hB : q_Bd T) : am_V xs 22 167 [.ref 153] m (am_qi (f_office T).1 (q_G (f_office T).2 m)) := by
  obtain ⟨hlen, h18, cd, hcd, h26, hall⟩ := h.2.1
  have b12 : T.1 153 12 < 101 := hB 153 12
  have ht : q_tx (T.1 163) (T.1 153 12) m := ⟨by omega, rf_12 h, fun k => ⟨rd_163 h k, hB 163 k⟩⟩
  refine am_V_of ky_167 (Nat.le_of_ble_eq_true rfl) ?_
  show am_P xs 21 m_office 0 [some (.ref 153), none, none, none, none] [] m _
  refine w_aload_n (pc' := 1) rfl rfl rfl rfl ?_
  refine w_getI (pc' := 4) rfl rfl rfl sh_153 rfl ?_
  rw [show m.1 153 18 = nI T.2.1.length from h18]
  refine w_bipush (pc' := 6) 6 rfl rfl bp_6 ?_
  refine w_ic_ne (t := 12) (pc' := 9) rfl (by decide) rfl (fun h6 => ?_) (fun h6 => ?_)
  · have g1 : ¬ T.2.1.length = 6 := fun q => h6 ((nI_eq (a := T.2.1.length) (b := 6) (by omega) (by omega)).mpr q)
    refine w_aload_n (pc' := 13) rfl rfl rfl rfl ?_
    refine w_getI (pc' := 16) rfl rfl rfl sh_153 rfl ?_
    rw [h26]
    refine w_ist1 (pc' := 17) rfl rfl rfl ?_
    refine w_aload_n (pc' := 18) rfl rfl rfl rfl ?_
    refine w_iconst (pc' := 19) 0 rfl rfl ic_0 ?_
    refine w_putI (pc' := 22) rfl rfl rfl sh_153 rfl rfl rfl ?_
    refine w_iconst (pc' := 23) 0 rfl rfl ic_0 ?_
    refine w_ist2 (pc' := 24) rfl rfl rfl ?_
    refine w_iconst (pc' := 25) 1 rfl rfl ic_1 ?_
    refine w_ist3 (pc' := 26) rfl rfl rfl ?_
    refine w_iconst (pc' := 27) 0 rfl rfl ic_0 ?_
    refine w_ist4 (pc' := 29) rfl rfl rfl ?_
    refine lp_office xs ht h18 (by omega) (was := cd) 11 10 (by omega) (by omega) 0 (by omega) _ 0 cd [] ⟨⟨fun c k a b e => am_u_ne (by omega), rfl⟩, am_u_eq, (am_u_ne (by omega)).trans h26, Nat.le_refl _, Nat.le_refl _, fun i cl q => by cases q⟩ (by omega) (by omega) rfl ?_
    intro m2 many l3 hR
    refine w_aload_n (pc' := 124) rfl rfl rfl rfl ?_
    refine w_iconst (pc' := 125) 0 rfl rfl ic_0 ?_
    refine w_putI (pc' := 128) rfl rfl rfl sh_153 rfl rfl rfl ?_
    refine w_iload (pc' := 130) rfl rfl rfl ?_
    refine w_if_ne (t := 146) (pc' := 133) rfl (by decide) rfl (fun h130 => ?_) (fun h130 => ?_)
    · have hb2 : (p_ol (T.1 163) (T.1 153 12) 10 0 []).1 = true := bB_n0.mp h130
      rw [if_pos hb2] at hR
      obtain ⟨hmany, cdk, hO⟩ := hR
      subst hmany
      obtain ⟨k1, k2⟩ := p_ol_ok 10 0 [] hb2
      have e18 : m2.1 153 18 = nI T.2.1.length := (hO.1.1 153 18 (by omega) (by omega) (by omega)).trans h18
      refine w_aload_n (pc' := 147) rfl rfl rfl rfl ?_
      refine w_getC (pc' := 150) rfl rfl rfl sh_153 rfl ?_
      refine w_aload_n (pc' := 151) rfl rfl rfl rfl ?_
      refine w_getI (pc' := 154) rfl rfl rfl sh_153 rfl ?_
      rw [am_u_ne (show ¬ (153 = 153 ∧ 18 = 12) by omega), e18]
      refine w_iload_n (pc' := 155) rfl rfl rfl ?_
      refine w_iast (j := (T.2.1.length)) (pc' := 156) rfl rfl sh_164 rfl (by omega) (by decide) ?_
      refine w_aload_n (pc' := 157) rfl rfl rfl rfl ?_
      refine w_aload_n (pc' := 158) rfl rfl rfl rfl ?_
      refine w_getI (pc' := 161) rfl rfl rfl sh_153 rfl ?_
      rw [am_u_ne (show ¬ (153 = 164 ∧ 18 = T.2.1.length) by omega), am_u_ne (show ¬ (153 = 153 ∧ 18 = 12) by omega), e18]
      refine w_putI (pc' := 164) rfl rfl rfl sh_153 rfl rfl rfl ?_
      refine w_aload_n (pc' := 165) rfl rfl rfl rfl ?_
      refine w_dup (pc' := 166) rfl rfl rfl ?_
      refine w_getI (pc' := 169) rfl rfl rfl sh_153 rfl ?_
      rw [am_u_ne (show ¬ (153 = 153 ∧ 18 = 19) by omega), am_u_ne (show ¬ (153 = 164 ∧ 18 = T.2.1.length) by omega), am_u_ne (show ¬ (153 = 153 ∧ 18 = 12) by omega), e18]
      refine w_dup_x1 (pc' := 170) rfl rfl ⟨rfl, rfl⟩ ?_
      refine w_iconst (pc' := 171) 1 rfl rfl ic_1 ?_
      refine w_iadd (pc' := 172) rfl rfl ?_
      rw [show nI (T.2.1.length) + (1 : Int32) = nI ((T.2.1.length) + 1) from nI_add _ _]
      refine w_putI (pc' := 175) rfl rfl rfl sh_153 rfl rfl rfl ?_
      refine w_iret rfl rfl rfl ?_
      rw [show f_office T = (nI T.2.1.length, q_Tn T (p_ol (T.1 163) (T.1 153 12) 10 0 []).2.2) from (if_neg (by omega)).trans (if_pos hb2)]
      exact ⟨rfl, q_of_s h (by omega) hcd hall hO (by have : ([] : List q_Cl).length = 0 := rfl; omega) (by omega)⟩
    · have hb3 : (p_ol (T.1 163) (T.1 153 12) 10 0 []).1 = false := bB_0.mp h130
      rw [if_neg (by rw [hb3]; decide)] at hR
      refine w_aload_n (pc' := 134) rfl rfl rfl rfl ?_
      refine w_iload_n (pc' := 135) rfl rfl rfl ?_
      refine w_putI (pc' := 138) rfl rfl rfl sh_153 rfl rfl rfl ?_
      refine w_bipush (pc' := 140) (-10) rfl rfl bp_m10 ?_
      refine w_aload_n (pc' := 141) rfl rfl rfl rfl ?_
      refine w_getI (pc' := 144) rfl rfl rfl sh_153 rfl ?_
      rw [am_u_ne (show ¬ (153 = 153 ∧ 14 = 26) by omega), am_u_ne (show ¬ (153 = 153 ∧ 14 = 12) by omega), hR.2]
      refine w_isub (pc' := 145) rfl rfl ?_
      refine w_iret rfl rfl rfl ?_
      rw [show f_office T = (-10 - nI (p_ol (T.1 163) (T.1 153 12) 10 0 []).2.1, q_Tu T 153 12 0) from (if_neg (by omega)).trans (if_neg (by rw [hb3]; decide))]
      exact ⟨rfl, q_of_f h hcd hall hR.1⟩
  · have g4 : T.2.1.length = 6 := (nI_eq (a := T.2.1.length) (b := 6) (by omega) (by omega)).mp h6
    refine w_bipush (pc' := 11) (-4) rfl rfl bp_m4 ?_
    refine w_iret rfl rfl rfl ?_
    rw [show f_office T = (-4, T) from if_pos (by omega)]
    exact ⟨rfl, h, q_FC.rf⟩
