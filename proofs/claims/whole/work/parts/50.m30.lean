theorem w_any {xs : List Int32} {d : Nat} {M : am_M} {pc : Nat} {L : am_L} {st : List Value} {m : am_Mm} {Q : am_Q} (P : am_Mm → Prop) (h : P m) (k : ∀ m', P m' → am_P xs d M pc L st m' Q) : am_P xs d M pc L st m Q := k m h
def p_wd (t : Nat) : Nat := if t = 116 then 0 else if t = 98 then 1 else if t = 107 then 2 else 3
abbrev q_K : Type := Bool × (Nat × q_Cl)
def p_cl (tx : Nat → Nat) (n pos : Nat) : q_K :=
  if (if pos < n then p_wd (tx pos) else 3) = 3 then (false, pos, 0, 0, [])
  else if (p_all tx n (q_str (p_wd (tx pos))) pos).1 = true then
    (if 0 < (p_num tx n (p_all tx n (q_str (p_wd (tx pos))) pos).2).1 then
      (if p_wd (tx pos) = 2 then (true, (p_num tx n (p_all tx n (q_str (p_wd (tx pos))) pos).2).2.2, 2, (p_num tx n (p_all tx n (q_str (p_wd (tx pos))) pos).2).2.1, [])
       else if p_is tx n 32 (p_num tx n (p_all tx n (q_str (p_wd (tx pos))) pos).2).2.2 = true then
        (if (p_E tx n 4 ((p_num tx n (p_all tx n (q_str (p_wd (tx pos))) pos).2).2.2 + 1)).1 = true then (true, (p_E tx n 4 ((p_num tx n (p_all tx n (q_str (p_wd (tx pos))) pos).2).2.2 + 1)).2.1, p_wd (tx pos), (p_num tx n (p_all tx n (q_str (p_wd (tx pos))) pos).2).2.1, (p_E tx n 4 ((p_num tx n (p_all tx n (q_str (p_wd (tx pos))) pos).2).2.2 + 1)).2.2)
         else (false, (p_E tx n 4 ((p_num tx n (p_all tx n (q_str (p_wd (tx pos))) pos).2).2.2 + 1)).2.1, 0, 0, []))
       else (false, (p_num tx n (p_all tx n (q_str (p_wd (tx pos))) pos).2).2.2, 0, 0, []))
     else (false, (p_num tx n (p_all tx n (q_str (p_wd (tx pos))) pos).2).2.2, 0, 0, []))
  else (false, (p_all tx n (q_str (p_wd (tx pos))) pos).2, 0, 0, [])
/-- places of the model's own -/
def q_own (c k : Nat) : Prop := c = 153 ∧ ((14 ≤ k ∧ k ≤ 17) ∨ k = 26)
def q_pq (m0 : am_Mm) (cd i pos : Nat) (m : am_Mm) : Prop :=
  (∀ c k, ¬ (c = 153 ∧ ((14 ≤ k ∧ k ≤ 17) ∨ k = 26)) → ¬ (c = 169 ∧ cd ≤ k) → ¬ (165 ≤ c ∧ c ≤ 168 ∧ k = i) → m.1 c k = m0.1 c k) ∧ (m.2 = m0.2 ∧ m.1 153 14 = nI pos)
theorem q_pf.pq {m0 m : am_Mm} {cd i pos : Nat} (h : q_pf m0 cd pos m) : q_pq m0 cd i pos m := ⟨fun c k a b _ => h.1 c k a b, h.2⟩
def q_w3 (m0 : am_Mm) (i : Nat) (a b c : Int32) : am_Mm := am_u (am_u (am_u m0 165 i a) 166 i b) 167 i c
theorem q_w3_o {m0 : am_Mm} {i c k : Nat} {x y z : Int32} (h : ¬ (165 ≤ c ∧ c ≤ 168 ∧ k = i)) : (q_w3 m0 i x y z).1 c k = m0.1 c k := (am_u_ne (by omega)).trans ((am_u_ne (by omega)).trans (am_u_ne (by omega)))
theorem q_pf.w3 {m0 m : am_Mm} {cd i pos : Nat} {x y z : Int32} (h : q_pf (q_w3 m0 i x y z) cd pos m) : q_pq m0 cd i pos m := ⟨fun c k a b e => (h.1 c k a b).trans (q_w3_o e), h.2⟩
theorem q_pa.cl {m0 m : am_Mm} {cd pos : Nat} {cs : List Nat} (h : q_pa m0 cd pos cs m) {c i : Nat} {x : Int32} (hc : 165 ≤ c ∧ c ≤ 168) : q_pa (am_u m0 c i x) cd pos cs (am_u m c i x) := by
  refine ⟨fun c' k' a b => ?_, h.2.1, (am_u_ne (by omega)).trans h.2.2.1, (am_u_ne (by omega)).trans h.2.2.2.1, fun t y q => (am_u_ne (by omega)).trans (h.2.2.2.2 t y q)⟩
  by_cases e : c' = c ∧ k' = i
  · rw [e.1, e.2, am_u_eq, am_u_eq]
  · rw [am_u_ne e, am_u_ne e]
    exact h.1 c' k' a b
theorem q_tx.w3 {tx : Nat → Nat} {n : Nat} {m0 : am_Mm} {i : Nat} {x y z : Int32} (h : q_tx tx n m0) : q_tx tx n (q_w3 m0 i x y z) := ⟨h.1, (q_w3_o (by omega)).trans h.2.1, fun k => ⟨(q_w3_o (by omega)).trans (h.2.2 k).1, (h.2.2 k).2⟩⟩
def q_PK (m0 : am_Mm) (cd i : Nat) (r : q_K) : am_Q := am_qi (bB r.1) (fun m' => if r.1 = true then q_pa (am_u (q_w3 m0 i (nI r.2.2.1) (nI r.2.2.2.1) (nI cd)) 168 i (nI r.2.2.2.2.length)) cd r.2.1 r.2.2.2.2 m' else q_pq m0 cd i r.2.1 m')
theorem q_PK_t {m0 m' : am_Mm} {cd i q a b : Nat} {c : List Nat} (h : q_pa (am_u (q_w3 m0 i (nI a) (nI b) (nI cd)) 168 i (nI c.length)) cd q c m') : q_PK m0 cd i (true, q, a, b, c) (some (.int 1)) m' := ⟨rfl, by
  show (if true = true then _ else _)
  rw [if_pos rfl]
  exact h⟩
theorem q_PK_f {m0 m' : am_Mm} {cd i q : Nat} {c : q_Cl} (h : q_pq m0 cd i q m') : q_PK m0 cd i (false, q, c) (some (.int 0)) m' := ⟨rfl, by
  show (if false = true then _ else _)
  rw [if_neg (by decide)]
  exact h⟩
theorem p_cl_Gd (tx : Nat → Nat) (n pos : Nat) (h : pos ≤ n) : pos ≤ (p_cl tx n pos).2.1 ∧ ((p_cl tx n pos).2.1 ≤ n ∧ ((p_cl tx n pos).1 = true → pos + (p_cl tx n pos).2.2.2.2.length ≤ (p_cl tx n pos).2.1)) := by
  unfold p_cl
  by_cases h0 : (if pos < n then p_wd (tx pos) else 3) = 3
  · rw [if_pos h0]
    exact ⟨Nat.le_refl _, h, fun z => absurd (show false = true from z) (by decide)⟩
  · rw [if_neg h0]
    obtain ⟨a1, a2, a3⟩ := p_all_le (tx := tx) (n := n) (q_str (p_wd (tx pos))) pos h
    generalize p_all tx n (q_str (p_wd (tx pos))) pos = A at *
    obtain ⟨z1, z2, z3, z4, z5⟩ := p_num_le (tx := tx) (n := n) (pos := A.2) a2
    generalize p_num tx n A.2 = Z at *
    by_cases h1 : A.1 = true
    · rw [if_pos h1]
      by_cases h2 : 0 < Z.1
      · rw [if_pos h2]
        by_cases h3 : p_wd (tx pos) = 2
        · rw [if_pos h3]
          exact ⟨by show pos ≤ Z.2.2; omega, z2, fun _ => by show pos + 0 ≤ Z.2.2; omega⟩
        · rw [if_neg h3]
          by_cases h4 : p_is tx n 32 Z.2.2 = true
          · rw [if_pos h4]
            have h5 := p_is_lt h4
            obtain ⟨e1, e2, e3⟩ := p_E_Gd tx n 4 (Z.2.2 + 1) h5
            generalize p_E tx n 4 (Z.2.2 + 1) = E at *
            by_cases h6 : E.1 = true
            · rw [if_pos h6]
              obtain ⟨e4, e5⟩ := e3 h6
              exact ⟨by show pos ≤ E.2.1; omega, e2, fun _ => by show pos + E.2.2.length ≤ E.2.1; omega⟩
            · rw [if_neg h6]
              exact ⟨by show pos ≤ E.2.1; omega, e2, fun z => absurd (show false = true from z) (by decide)⟩
          · rw [if_neg h4]
            exact ⟨by show pos ≤ Z.2.2; omega, z2, fun z => absurd (show false = true from z) (by decide)⟩
      · rw [if_neg h2]
        exact ⟨by show pos ≤ Z.2.2; omega, z2, fun z => absurd (show false = true from z) (by decide)⟩
    · rw [if_neg h1]
      exact ⟨a1, a2, fun z => absurd (show false = true from z) (by decide)⟩
set_option maxRecDepth 100000 in
set_option maxHeartbeats 4000000 in
theorem v_m_isClause (xs : List Int32) {tx : Nat → Nat} {n : Nat} {m0 m : am_Mm} {cd pos i : Nat} (ht : q_tx tx n m0) (hp : q_pa m0 cd pos [] m) (hn : pos ≤ n) (hi : i < 61) (hl : cd + n ≤ 800 + pos) : am_V xs 21 168 [.ref 153, .int (nI i)] m (q_PK m0 cd i (p_cl tx n pos)) := by
  have hn1 := ht.1
  have ht1 := (ht.2.2 pos).2
  refine am_V_of ky_168 (Nat.le_of_ble_eq_true rfl) ?_
  show am_P xs 20 m_isClause 0 [some (.ref 153), some (.int (nI i)), none, none] [] m _
  refine w_iconst (pc' := 1) (-1) rfl rfl ic_m1 ?_
  refine w_ist2 (pc' := 2) rfl rfl rfl ?_
  refine w_aload_n (pc' := 3) rfl rfl rfl rfl ?_
  refine w_getI (pc' := 6) rfl rfl rfl sh_153 rfl ?_
  rw [show m.1 153 14 = nI pos from hp.2.2.1]
  refine w_aload_n (pc' := 7) rfl rfl rfl rfl ?_
  refine w_getI (pc' := 10) rfl rfl rfl sh_153 rfl ?_
  rw [show m.1 153 12 = nI n from (ht.pa hp).1]
  refine w_ic_ge (t := 69) (pc' := 13) rfl (by decide) rfl (fun h10 => ?_) (fun h10 => ?_)
  · have g1 : n ≤ pos := (nI_leI (a := n) (b := pos) (by omega) (by omega)).mp h10
    refine w_iload_n (pc' := 70) rfl rfl rfl ?_
    refine w_if_ne (t := 82) (pc' := 73) rfl (by decide) rfl (fun h70 => ?_) (fun h70 => ?_)
    · refine w_iload_n (pc' := 83) rfl rfl rfl ?_
      refine w_iconst (pc' := 84) 1 rfl rfl ic_1 ?_
      refine w_ic_ne (t := 96) (pc' := 87) rfl (by decide) rfl (fun h84 => ?_) (fun h84 => ?_)
      · refine w_iload_n (pc' := 97) rfl rfl rfl ?_
        refine w_iconst (pc' := 98) 2 rfl rfl ic_2 ?_
        refine w_ic_ne (t := 114) (pc' := 101) rfl (by decide) rfl (fun h98 => ?_) (fun h98 => ?_)
        · refine w_iconst (pc' := 115) 0 rfl rfl ic_0 ?_
          refine w_ist3 (pc' := 116) rfl rfl rfl ?_
          refine w_iload_n (pc' := 117) rfl rfl rfl ?_
          refine w_if_eq (t := 127) (pc' := 120) rfl (by decide) rfl (fun h117 => ?_) (fun h117 => ?_)
          · refine w_iconst (pc' := 128) 0 rfl rfl ic_0 ?_
            refine w_iret rfl rfl (by first | rfl | exact am_nbB _) ?_
            rw [show p_cl tx n pos = (false, pos, 0, 0, []) from by unfold p_cl; rw [if_pos (show (if pos < n then p_wd (tx pos) else 3) = 3 by first | (rw [if_neg (show ¬ pos < n by omega)]) | (rw [if_pos (show pos < n by omega)]; unfold p_wd; rw [if_neg (by omega), if_neg (by omega), if_neg (by omega)]))]]
            exact q_PK_f hp.pf.pq
          · exact absurd h117 (by decide)
        · exact absurd h98 (by decide)
      · exact absurd h84 (by decide)
    · exact absurd h70 (by decide)
  · have g2 : ¬ n ≤ pos := fun q => h10 ((nI_leI (a := n) (b := pos) (by omega) (by omega)).mpr q)
    refine w_aload_n (pc' := 14) rfl rfl rfl rfl ?_
    refine w_getC (pc' := 17) rfl rfl rfl sh_153 rfl ?_
    refine w_aload_n (pc' := 18) rfl rfl rfl rfl ?_
    refine w_getI (pc' := 21) rfl rfl rfl sh_153 rfl ?_
    rw [show m.1 153 14 = nI pos from hp.2.2.1]
    refine w_iald (j := (pos)) (pc' := 22) rfl rfl sh_163 rfl (by omega) (by decide) ?_
    rw [show m.1 163 pos = nI (tx pos) from (ht.pa hp).2 _]
    refine w_bipush (pc' := 24) 116 rfl rfl bp_116 ?_
    refine w_ic_ne (t := 31) (pc' := 27) rfl (by decide) rfl (fun h24 => ?_) (fun h24 => ?_)
    · have g3 : ¬ (tx pos) = 116 := fun q => h24 ((nI_eq (a := (tx pos)) (b := 116) (by omega) (by omega)).mpr q)
      refine w_aload_n (pc' := 32) rfl rfl rfl rfl ?_
      refine w_getC (pc' := 35) rfl rfl rfl sh_153 rfl ?_
      refine w_aload_n (pc' := 36) rfl rfl rfl rfl ?_
      refine w_getI (pc' := 39) rfl rfl rfl sh_153 rfl ?_
      rw [show m.1 153 14 = nI pos from hp.2.2.1]
      refine w_iald (j := (pos)) (pc' := 40) rfl rfl sh_163 rfl (by omega) (by decide) ?_
      rw [show m.1 163 pos = nI (tx pos) from (ht.pa hp).2 _]
      refine w_bipush (pc' := 42) 98 rfl rfl bp_98 ?_
      refine w_ic_ne (t := 49) (pc' := 45) rfl (by decide) rfl (fun h42 => ?_) (fun h42 => ?_)
      · have g4 : ¬ (tx pos) = 98 := fun q => h42 ((nI_eq (a := (tx pos)) (b := 98) (by omega) (by omega)).mpr q)
        refine w_aload_n (pc' := 50) rfl rfl rfl rfl ?_
        refine w_getC (pc' := 53) rfl rfl rfl sh_153 rfl ?_
        refine w_aload_n (pc' := 54) rfl rfl rfl rfl ?_
        refine w_getI (pc' := 57) rfl rfl rfl sh_153 rfl ?_
        rw [show m.1 153 14 = nI pos from hp.2.2.1]
        refine w_iald (j := (pos)) (pc' := 58) rfl rfl sh_163 rfl (by omega) (by decide) ?_
        rw [show m.1 163 pos = nI (tx pos) from (ht.pa hp).2 _]
        refine w_bipush (pc' := 60) 107 rfl rfl bp_107 ?_
        refine w_ic_ne (t := 67) (pc' := 63) rfl (by decide) rfl (fun h60 => ?_) (fun h60 => ?_)
        · have g5 : ¬ (tx pos) = 107 := fun q => h60 ((nI_eq (a := (tx pos)) (b := 107) (by omega) (by omega)).mpr q)
          refine w_iconst (pc' := 68) (-1) rfl rfl ic_m1 ?_
          refine w_ist2 (pc' := 69) rfl rfl rfl ?_
          refine w_iload_n (pc' := 70) rfl rfl rfl ?_
          refine w_if_ne (t := 82) (pc' := 73) rfl (by decide) rfl (fun h70 => ?_) (fun h70 => ?_)
          · refine w_iload_n (pc' := 83) rfl rfl rfl ?_
            refine w_iconst (pc' := 84) 1 rfl rfl ic_1 ?_
            refine w_ic_ne (t := 96) (pc' := 87) rfl (by decide) rfl (fun h84 => ?_) (fun h84 => ?_)
            · refine w_iload_n (pc' := 97) rfl rfl rfl ?_
              refine w_iconst (pc' := 98) 2 rfl rfl ic_2 ?_
              refine w_ic_ne (t := 114) (pc' := 101) rfl (by decide) rfl (fun h98 => ?_) (fun h98 => ?_)
              · refine w_iconst (pc' := 115) 0 rfl rfl ic_0 ?_
                refine w_ist3 (pc' := 116) rfl rfl rfl ?_
                refine w_iload_n (pc' := 117) rfl rfl rfl ?_
                refine w_if_eq (t := 127) (pc' := 120) rfl (by decide) rfl (fun h117 => ?_) (fun h117 => ?_)
                · refine w_iconst (pc' := 128) 0 rfl rfl ic_0 ?_
                  refine w_iret rfl rfl (by first | rfl | exact am_nbB _) ?_
                  rw [show p_cl tx n pos = (false, pos, 0, 0, []) from by unfold p_cl; rw [if_pos (show (if pos < n then p_wd (tx pos) else 3) = 3 by first | (rw [if_neg (show ¬ pos < n by omega)]) | (rw [if_pos (show pos < n by omega)]; unfold p_wd; rw [if_neg (by omega), if_neg (by omega), if_neg (by omega)]))]]
                  exact q_PK_f hp.pf.pq
                · exact absurd h117 (by decide)
              · exact absurd h98 (by decide)
            · exact absurd h84 (by decide)
          · exact absurd h70 (by decide)
        · have g6 : (tx pos) = 107 := (nI_eq (a := (tx pos)) (b := 107) (by omega) (by omega)).mp h60
          refine w_iconst (pc' := 64) 2 rfl rfl ic_2 ?_
          refine w_goto (pc' := 68) rfl (by decide) ?_
          refine w_ist2 (pc' := 69) rfl rfl rfl ?_
          refine w_iload_n (pc' := 70) rfl rfl rfl ?_
          refine w_if_ne (t := 82) (pc' := 73) rfl (by decide) rfl (fun h70 => ?_) (fun h70 => ?_)
          · refine w_iload_n (pc' := 83) rfl rfl rfl ?_
            refine w_iconst (pc' := 84) 1 rfl rfl ic_1 ?_
            refine w_ic_ne (t := 96) (pc' := 87) rfl (by decide) rfl (fun h84 => ?_) (fun h84 => ?_)
            · refine w_iload_n (pc' := 97) rfl rfl rfl ?_
              refine w_iconst (pc' := 98) 2 rfl rfl ic_2 ?_
              refine w_ic_ne (t := 114) (pc' := 101) rfl (by decide) rfl (fun h98 => ?_) (fun h98 => ?_)
              · exact absurd h98 (by decide)
              · refine w_aload_n (pc' := 102) rfl rfl rfl rfl ?_
                refine w_ldc (pc' := 104) rfl rfl rfl rfl ?_
                refine w_cV1i (pc' := 107) (v_m_isAll2 xs ht hp hn) (by decide) rfl rfl rfl (Nat.le_of_ble_eq_true rfl) sh_153 rfl (fun m1 hm' => ?_)
                obtain ⟨hp1, ho1⟩ := hm'
                obtain ⟨a1, a2, a3⟩ := p_all_le (tx := tx) (n := n) (q_str 2) pos hn
                refine w_if_eq (t := 114) (pc' := 110) rfl (by decide) rfl (fun h107 => ?_) (fun h107 => ?_)
                · have hb7 : (p_all tx n (q_str 2) pos).1 = false := bB_0.mp h107
                  refine w_iconst (pc' := 115) 0 rfl rfl ic_0 ?_
                  refine w_ist3 (pc' := 116) rfl rfl rfl ?_
                  refine w_iload_n (pc' := 117) rfl rfl rfl ?_
                  refine w_if_eq (t := 127) (pc' := 120) rfl (by decide) rfl (fun h117 => ?_) (fun h117 => ?_)
                  · refine w_iconst (pc' := 128) 0 rfl rfl ic_0 ?_
                    refine w_iret rfl rfl (by first | rfl | exact am_nbB _) ?_
                    have ew : p_wd (tx pos) = 2 := by unfold p_wd; rw [if_neg (by omega), if_neg (by omega), if_pos (by omega)]
                    rw [show p_cl tx n pos = (false, (p_all tx n (q_str 2) pos).2, 0, 0, []) from by unfold p_cl; rw [if_neg (show ¬ (if pos < n then p_wd (tx pos) else 3) = 3 by rw [if_pos (show pos < n by omega), ew]; decide), ew, if_neg (by rw [hb7]; decide)]]
                    exact q_PK_f hp1.pf.pq
                  · exact absurd h117 (by decide)
                · have hb8 : (p_all tx n (q_str 2) pos).1 = true := bB_n0.mp h107
                  refine w_iconst (pc' := 111) 1 rfl rfl ic_1 ?_
                  refine w_goto (pc' := 115) rfl (by decide) ?_
                  refine w_ist3 (pc' := 116) rfl rfl rfl ?_
                  refine w_iload_n (pc' := 117) rfl rfl rfl ?_
                  refine w_if_eq (t := 127) (pc' := 120) rfl (by decide) rfl (fun h117 => ?_) (fun h117 => ?_)
                  · exact absurd h117 (by decide)
                  · refine w_aload_n (pc' := 121) rfl rfl rfl rfl ?_
                    refine w_cV0i (pc' := 124) (v_m_isNumber xs ht hp1 a2) (by decide) rfl rfl rfl (Nat.le_of_ble_eq_true rfl) sh_153 rfl (fun m2 hm' => ?_)
                    obtain ⟨hp2, hv2, ho2⟩ := hm'
                    obtain ⟨z1, z2, z3, z4, z5⟩ := p_num_le (tx := tx) (n := n) (pos := (p_all tx n (q_str 2) pos).2) a2
                    refine w_if_ne (t := 129) (pc' := 127) rfl (by decide) rfl (fun h124 => ?_) (fun h124 => ?_)
                    · have hb9 : decide (0 < (p_num tx n (p_all tx n (q_str 2) pos).2).1) = true := bB_n0.mp h124
                      have hz := of_decide_eq_true hb9
                      refine w_aload_n (pc' := 130) rfl rfl rfl rfl ?_
                      refine w_getC (pc' := 133) rfl rfl rfl sh_153 rfl ?_
                      refine w_iload_n (pc' := 134) rfl rfl rfl ?_
                      refine w_iload_n (pc' := 135) rfl rfl rfl ?_
                      refine w_iast (j := (i)) (pc' := 136) rfl rfl sh_165 rfl (by omega) (by decide) ?_
                      refine w_aload_n (pc' := 137) rfl rfl rfl rfl ?_
                      refine w_getC (pc' := 140) rfl rfl rfl sh_153 rfl ?_
                      refine w_iload_n (pc' := 141) rfl rfl rfl ?_
                      refine w_aload_n (pc' := 142) rfl rfl rfl rfl ?_
                      refine w_getI (pc' := 145) rfl rfl rfl sh_153 rfl ?_
                      rw [am_u_ne (show ¬ (153 = 165 ∧ 15 = i) by omega), hv2]
                      refine w_iast (j := (i)) (pc' := 146) rfl rfl sh_166 rfl (by omega) (by decide) ?_
                      refine w_aload_n (pc' := 147) rfl rfl rfl rfl ?_
                      refine w_getC (pc' := 150) rfl rfl rfl sh_153 rfl ?_
                      refine w_iload_n (pc' := 151) rfl rfl rfl ?_
                      refine w_aload_n (pc' := 152) rfl rfl rfl rfl ?_
                      refine w_getI (pc' := 155) rfl rfl rfl sh_153 rfl ?_
                      rw [am_u_ne (show ¬ (153 = 166 ∧ 26 = i) by omega), am_u_ne (show ¬ (153 = 165 ∧ 26 = i) by omega), hp2.2.2.2.1, show cd + ([] : List Nat).length = cd from rfl]
                      refine w_iast (j := (i)) (pc' := 156) rfl rfl sh_167 rfl (by omega) (by decide) ?_
                      refine w_aload_n (pc' := 157) rfl rfl rfl rfl ?_
                      refine w_iconst (pc' := 158) 0 rfl rfl ic_0 ?_
                      refine w_putI (pc' := 161) rfl rfl rfl sh_153 rfl rfl rfl ?_
                      refine w_any (fun q => q_pa (q_w3 m0 i (nI 2) (nI (p_num tx n (p_all tx n (q_str 2) pos).2).2.1) (nI cd)) cd (p_num tx n (p_all tx n (q_str 2) pos).2).2.2 [] q ∧ q.1 153 17 = nI 0) ⟨(((hp2.cl (by omega)).cl (by omega)).cl (by omega)).own (by omega), am_u_eq⟩ (fun m3 hm3 => ?_)
                      obtain ⟨hp3, ho3⟩ := hm3
                      have ht3 : q_tx tx n (q_w3 m0 i (nI 2) (nI (p_num tx n (p_all tx n (q_str 2) pos).2).2.1) (nI cd)) := ht.w3
                      refine w_iload_n (pc' := 162) rfl rfl rfl ?_
                      refine w_iconst (pc' := 163) 2 rfl rfl ic_2 ?_
                      refine w_ic_ge (t := 184) (pc' := 166) rfl (by decide) rfl (fun h163 => ?_) (fun h163 => ?_)
                      · have hp5 := hp3
                        refine id ?_
                        · refine w_aload_n (pc' := 185) rfl rfl rfl rfl ?_
                          refine w_getC (pc' := 188) rfl rfl rfl sh_153 rfl ?_
                          refine w_iload_n (pc' := 189) rfl rfl rfl ?_
                          refine w_aload_n (pc' := 190) rfl rfl rfl rfl ?_
                          refine w_getI (pc' := 193) rfl rfl rfl sh_153 rfl ?_
                          rw [show m3.1 153 26 = nI (cd + ([] : List Nat).length) from hp5.2.2.2.1]
                          refine w_aload_n (pc' := 194) rfl rfl rfl rfl ?_
                          refine w_getC (pc' := 197) rfl rfl rfl sh_153 rfl ?_
                          refine w_iload_n (pc' := 198) rfl rfl rfl ?_
                          refine w_iald (j := (i)) (pc' := 199) rfl rfl sh_167 rfl (by omega) (by decide) ?_
                          rw [show m3.1 167 i = nI cd from (hp5.1 167 i (by omega) (by omega)).trans am_u_eq]
                          refine w_isub (pc' := 200) rfl rfl ?_
                          rw [show nI (cd + ([] : List Nat).length) - nI cd = nI (([] : List Nat).length) from (nI_subN (by omega)).trans (congrArg nI (Nat.add_sub_cancel_left _ _))]
                          refine w_iast (j := (i)) (pc' := 201) rfl rfl sh_168 rfl (by omega) (by decide) ?_
                          refine w_iconst (pc' := 202) 1 rfl rfl ic_1 ?_
                          refine w_iret rfl rfl (by first | rfl | exact am_nbB _) ?_
                          have ew : p_wd (tx pos) = 2 := by unfold p_wd; rw [if_neg (by omega), if_neg (by omega), if_pos (by omega)]
                          rw [show p_cl tx n pos = (true, (p_num tx n (p_all tx n (q_str 2) pos).2).2.2, 2, (p_num tx n (p_all tx n (q_str 2) pos).2).2.1, []) from by unfold p_cl; rw [if_neg (show ¬ (if pos < n then p_wd (tx pos) else 3) = 3 by rw [if_pos (show pos < n by omega), ew]; decide), ew, if_pos hb8, if_pos hz, if_pos rfl]]
                          exact q_PK_t (hp5.cl (by omega))
                      · exact absurd h163 (by decide)
                    · have hb10 : decide (0 < (p_num tx n (p_all tx n (q_str 2) pos).2).1) = false := bB_0.mp h124
                      refine w_iconst (pc' := 128) 0 rfl rfl ic_0 ?_
                      refine w_iret rfl rfl (by first | rfl | exact am_nbB _) ?_
                      have ew : p_wd (tx pos) = 2 := by unfold p_wd; rw [if_neg (by omega), if_neg (by omega), if_pos (by omega)]
                      have hz := of_decide_eq_false hb10
                      rw [show p_cl tx n pos = (false, (p_num tx n (p_all tx n (q_str 2) pos).2).2.2, 0, 0, []) from by unfold p_cl; rw [if_neg (show ¬ (if pos < n then p_wd (tx pos) else 3) = 3 by rw [if_pos (show pos < n by omega), ew]; decide), ew, if_pos hb8, if_neg hz]]
                      exact q_PK_f hp2.pf.pq
            · exact absurd h84 (by decide)
          · exact absurd h70 (by decide)
      · have g11 : (tx pos) = 98 := (nI_eq (a := (tx pos)) (b := 98) (by omega) (by omega)).mp h42
        refine w_iconst (pc' := 46) 1 rfl rfl ic_1 ?_
        refine w_goto (pc' := 68) rfl (by decide) ?_
        refine w_ist2 (pc' := 69) rfl rfl rfl ?_
        refine w_iload_n (pc' := 70) rfl rfl rfl ?_
        refine w_if_ne (t := 82) (pc' := 73) rfl (by decide) rfl (fun h70 => ?_) (fun h70 => ?_)
        · refine w_iload_n (pc' := 83) rfl rfl rfl ?_
          refine w_iconst (pc' := 84) 1 rfl rfl ic_1 ?_
          refine w_ic_ne (t := 96) (pc' := 87) rfl (by decide) rfl (fun h84 => ?_) (fun h84 => ?_)
          · exact absurd h84 (by decide)
          · refine w_aload_n (pc' := 88) rfl rfl rfl rfl ?_
            refine w_ldc (pc' := 90) rfl rfl rfl rfl ?_
            refine w_cV1i (pc' := 93) (v_m_isAll1 xs ht hp hn) (by decide) rfl rfl rfl (Nat.le_of_ble_eq_true rfl) sh_153 rfl (fun m3 hm' => ?_)
            obtain ⟨hp1, ho1⟩ := hm'
            obtain ⟨a1, a2, a3⟩ := p_all_le (tx := tx) (n := n) (q_str 1) pos hn
            refine w_goto (pc' := 115) rfl (by decide) ?_
            refine w_ist3 (pc' := 116) rfl rfl rfl ?_
            refine w_iload_n (pc' := 117) rfl rfl rfl ?_
            refine w_if_eq (t := 127) (pc' := 120) rfl (by decide) rfl (fun h117 => ?_) (fun h117 => ?_)
            · have hb12 : (p_all tx n (q_str 1) pos).1 = false := bB_0.mp h117
              refine w_iconst (pc' := 128) 0 rfl rfl ic_0 ?_
              refine w_iret rfl rfl (by first | rfl | exact am_nbB _) ?_
              have ew : p_wd (tx pos) = 1 := by unfold p_wd; rw [if_neg (by omega), if_pos (by omega)]
              rw [show p_cl tx n pos = (false, (p_all tx n (q_str 1) pos).2, 0, 0, []) from by unfold p_cl; rw [if_neg (show ¬ (if pos < n then p_wd (tx pos) else 3) = 3 by rw [if_pos (show pos < n by omega), ew]; decide), ew, if_neg (by rw [hb12]; decide)]]
              exact q_PK_f hp1.pf.pq
            · have hb13 : (p_all tx n (q_str 1) pos).1 = true := bB_n0.mp h117
              refine w_aload_n (pc' := 121) rfl rfl rfl rfl ?_
              refine w_cV0i (pc' := 124) (v_m_isNumber xs ht hp1 a2) (by decide) rfl rfl rfl (Nat.le_of_ble_eq_true rfl) sh_153 rfl (fun m4 hm' => ?_)
              obtain ⟨hp2, hv2, ho2⟩ := hm'
              obtain ⟨z1, z2, z3, z4, z5⟩ := p_num_le (tx := tx) (n := n) (pos := (p_all tx n (q_str 1) pos).2) a2
              refine w_if_ne (t := 129) (pc' := 127) rfl (by decide) rfl (fun h124 => ?_) (fun h124 => ?_)
              · have hb14 : decide (0 < (p_num tx n (p_all tx n (q_str 1) pos).2).1) = true := bB_n0.mp h124
                have hz := of_decide_eq_true hb14
                refine w_aload_n (pc' := 130) rfl rfl rfl rfl ?_
                refine w_getC (pc' := 133) rfl rfl rfl sh_153 rfl ?_
                refine w_iload_n (pc' := 134) rfl rfl rfl ?_
                refine w_iload_n (pc' := 135) rfl rfl rfl ?_
                refine w_iast (j := (i)) (pc' := 136) rfl rfl sh_165 rfl (by omega) (by decide) ?_
                refine w_aload_n (pc' := 137) rfl rfl rfl rfl ?_
                refine w_getC (pc' := 140) rfl rfl rfl sh_153 rfl ?_
                refine w_iload_n (pc' := 141) rfl rfl rfl ?_
                refine w_aload_n (pc' := 142) rfl rfl rfl rfl ?_
                refine w_getI (pc' := 145) rfl rfl rfl sh_153 rfl ?_
                rw [am_u_ne (show ¬ (153 = 165 ∧ 15 = i) by omega), hv2]
                refine w_iast (j := (i)) (pc' := 146) rfl rfl sh_166 rfl (by omega) (by decide) ?_
                refine w_aload_n (pc' := 147) rfl rfl rfl rfl ?_
                refine w_getC (pc' := 150) rfl rfl rfl sh_153 rfl ?_
                refine w_iload_n (pc' := 151) rfl rfl rfl ?_
                refine w_aload_n (pc' := 152) rfl rfl rfl rfl ?_
                refine w_getI (pc' := 155) rfl rfl rfl sh_153 rfl ?_
                rw [am_u_ne (show ¬ (153 = 166 ∧ 26 = i) by omega), am_u_ne (show ¬ (153 = 165 ∧ 26 = i) by omega), hp2.2.2.2.1, show cd + ([] : List Nat).length = cd from rfl]
                refine w_iast (j := (i)) (pc' := 156) rfl rfl sh_167 rfl (by omega) (by decide) ?_
                refine w_aload_n (pc' := 157) rfl rfl rfl rfl ?_
                refine w_iconst (pc' := 158) 0 rfl rfl ic_0 ?_
                refine w_putI (pc' := 161) rfl rfl rfl sh_153 rfl rfl rfl ?_
                refine w_any (fun q => q_pa (q_w3 m0 i (nI 1) (nI (p_num tx n (p_all tx n (q_str 1) pos).2).2.1) (nI cd)) cd (p_num tx n (p_all tx n (q_str 1) pos).2).2.2 [] q ∧ q.1 153 17 = nI 0) ⟨(((hp2.cl (by omega)).cl (by omega)).cl (by omega)).own (by omega), am_u_eq⟩ (fun m3 hm3 => ?_)
                obtain ⟨hp3, ho3⟩ := hm3
                have ht3 : q_tx tx n (q_w3 m0 i (nI 1) (nI (p_num tx n (p_all tx n (q_str 1) pos).2).2.1) (nI cd)) := ht.w3
                refine w_iload_n (pc' := 162) rfl rfl rfl ?_
                refine w_iconst (pc' := 163) 2 rfl rfl ic_2 ?_
                refine w_ic_ge (t := 184) (pc' := 166) rfl (by decide) rfl (fun h163 => ?_) (fun h163 => ?_)
                · exact absurd h163 (by decide)
                · refine w_aload_n (pc' := 167) rfl rfl rfl rfl ?_
                  refine w_bipush (pc' := 169) 32 rfl rfl bp_32 ?_
                  refine w_cV1i (pc' := 172) (v_m_is xs ht3 hp3 z2 (c := 32) (by decide)) (by decide) rfl rfl rfl (Nat.le_of_ble_eq_true rfl) sh_153 rfl (fun m5 hm' => ?_)
                  obtain ⟨hp4, ho4⟩ := hm'
                  refine w_if_eq (t := 182) (pc' := 175) rfl (by decide) rfl (fun h172 => ?_) (fun h172 => ?_)
                  · have hb15 : p_is tx n 32 (p_num tx n (p_all tx n (q_str 1) pos).2).2.2 = false := bB_0.mp h172
                    refine w_iconst (pc' := 183) 0 rfl rfl ic_0 ?_
                    refine w_iret rfl rfl (by first | rfl | exact am_nbB _) ?_
                    have ew : p_wd (tx pos) = 1 := by unfold p_wd; rw [if_neg (by omega), if_pos (by omega)]
                    rw [hb15] at hp4
                    rw [show p_cl tx n pos = (false, (p_num tx n (p_all tx n (q_str 1) pos).2).2.2, 0, 0, []) from by unfold p_cl; rw [if_neg (show ¬ (if pos < n then p_wd (tx pos) else 3) = 3 by rw [if_pos (show pos < n by omega), ew]; decide), ew, if_pos hb13, if_pos hz, if_neg (by decide), if_neg (by rw [hb15]; decide)]]
                    exact q_PK_f (q_pf.w3 (q_pa.pf hp4))
                  · have hb16 : p_is tx n 32 (p_num tx n (p_all tx n (q_str 1) pos).2).2.2 = true := bB_n0.mp h172
                    have hsp := p_is_lt hb16
                    rw [hb16] at hp4
                    refine w_aload_n (pc' := 176) rfl rfl rfl rfl ?_
                    refine w_cV0i (pc' := 179) ((v_isFE xs ht3 4 (by omega)).2 m5 ((p_num tx n (p_all tx n (q_str 1) pos).2).2.2 + 1) [] hp4 hsp (by show cd + 0 + n ≤ _; omega) ((ho4 17 (by omega)).trans ho3)) (by decide) rfl rfl rfl (Nat.le_of_ble_eq_true rfl) sh_153 rfl (fun m6 hm' => ?_)
                    have hQ5 := hm'
                    refine w_if_ne (t := 184) (pc' := 182) rfl (by decide) rfl (fun h179 => ?_) (fun h179 => ?_)
                    · have hb17 : (p_E tx n 4 ((p_num tx n (p_all tx n (q_str 1) pos).2).2.2 + 1)).1 = true := bB_n0.mp h179
                      rw [if_pos hb17] at hQ5
                      obtain ⟨hp5, ho5⟩ := hQ5
                      have hp5 : q_pa (q_w3 m0 i (nI 1) (nI (p_num tx n (p_all tx n (q_str 1) pos).2).2.1) (nI cd)) cd (p_E tx n 4 ((p_num tx n (p_all tx n (q_str 1) pos).2).2.2 + 1)).2.1 (p_E tx n 4 ((p_num tx n (p_all tx n (q_str 1) pos).2).2.2 + 1)).2.2 m6 := hp5
                      refine id ?_
                      · refine w_aload_n (pc' := 185) rfl rfl rfl rfl ?_
                        refine w_getC (pc' := 188) rfl rfl rfl sh_153 rfl ?_
                        refine w_iload_n (pc' := 189) rfl rfl rfl ?_
                        refine w_aload_n (pc' := 190) rfl rfl rfl rfl ?_
                        refine w_getI (pc' := 193) rfl rfl rfl sh_153 rfl ?_
                        rw [show m6.1 153 26 = nI (cd + ((p_E tx n 4 ((p_num tx n (p_all tx n (q_str 1) pos).2).2.2 + 1)).2.2).length) from hp5.2.2.2.1]
                        refine w_aload_n (pc' := 194) rfl rfl rfl rfl ?_
                        refine w_getC (pc' := 197) rfl rfl rfl sh_153 rfl ?_
                        refine w_iload_n (pc' := 198) rfl rfl rfl ?_
                        refine w_iald (j := (i)) (pc' := 199) rfl rfl sh_167 rfl (by omega) (by decide) ?_
                        rw [show m6.1 167 i = nI cd from (hp5.1 167 i (by omega) (by omega)).trans am_u_eq]
                        refine w_isub (pc' := 200) rfl rfl ?_
                        rw [show nI (cd + ((p_E tx n 4 ((p_num tx n (p_all tx n (q_str 1) pos).2).2.2 + 1)).2.2).length) - nI cd = nI (((p_E tx n 4 ((p_num tx n (p_all tx n (q_str 1) pos).2).2.2 + 1)).2.2).length) from (nI_subN (by omega)).trans (congrArg nI (Nat.add_sub_cancel_left _ _))]
                        refine w_iast (j := (i)) (pc' := 201) rfl rfl sh_168 rfl (by omega) (by decide) ?_
                        refine w_iconst (pc' := 202) 1 rfl rfl ic_1 ?_
                        refine w_iret rfl rfl (by first | rfl | exact am_nbB _) ?_
                        have ew : p_wd (tx pos) = 1 := by unfold p_wd; rw [if_neg (by omega), if_pos (by omega)]
                        rw [show p_cl tx n pos = (true, (p_E tx n 4 ((p_num tx n (p_all tx n (q_str 1) pos).2).2.2 + 1)).2.1, 1, (p_num tx n (p_all tx n (q_str 1) pos).2).2.1, (p_E tx n 4 ((p_num tx n (p_all tx n (q_str 1) pos).2).2.2 + 1)).2.2) from by unfold p_cl; rw [if_neg (show ¬ (if pos < n then p_wd (tx pos) else 3) = 3 by rw [if_pos (show pos < n by omega), ew]; decide), ew, if_pos hb13, if_pos hz, if_neg (by decide), if_pos hb16, if_pos hb17]]
                        exact q_PK_t (hp5.cl (by omega))
                    · have hb18 : (p_E tx n 4 ((p_num tx n (p_all tx n (q_str 1) pos).2).2.2 + 1)).1 = false := bB_0.mp h179
                      refine w_iconst (pc' := 183) 0 rfl rfl ic_0 ?_
                      refine w_iret rfl rfl (by first | rfl | exact am_nbB _) ?_
                      have ew : p_wd (tx pos) = 1 := by unfold p_wd; rw [if_neg (by omega), if_pos (by omega)]
                      rw [if_neg (by rw [hb18]; decide)] at hQ5
                      rw [show p_cl tx n pos = (false, (p_E tx n 4 ((p_num tx n (p_all tx n (q_str 1) pos).2).2.2 + 1)).2.1, 0, 0, []) from by unfold p_cl; rw [if_neg (show ¬ (if pos < n then p_wd (tx pos) else 3) = 3 by rw [if_pos (show pos < n by omega), ew]; decide), ew, if_pos hb13, if_pos hz, if_neg (by decide), if_pos hb16, if_neg (by rw [hb18]; decide)]]
                      exact q_PK_f (q_pf.w3 hQ5)
              · have hb19 : decide (0 < (p_num tx n (p_all tx n (q_str 1) pos).2).1) = false := bB_0.mp h124
                refine w_iconst (pc' := 128) 0 rfl rfl ic_0 ?_
                refine w_iret rfl rfl (by first | rfl | exact am_nbB _) ?_
                have ew : p_wd (tx pos) = 1 := by unfold p_wd; rw [if_neg (by omega), if_pos (by omega)]
                have hz := of_decide_eq_false hb19
                rw [show p_cl tx n pos = (false, (p_num tx n (p_all tx n (q_str 1) pos).2).2.2, 0, 0, []) from by unfold p_cl; rw [if_neg (show ¬ (if pos < n then p_wd (tx pos) else 3) = 3 by rw [if_pos (show pos < n by omega), ew]; decide), ew, if_pos hb13, if_neg hz]]
                exact q_PK_f hp2.pf.pq
        · exact absurd h70 (by decide)
    · have g20 : (tx pos) = 116 := (nI_eq (a := (tx pos)) (b := 116) (by omega) (by omega)).mp h24
      refine w_iconst (pc' := 28) 0 rfl rfl ic_0 ?_
      refine w_goto (pc' := 68) rfl (by decide) ?_
      refine w_ist2 (pc' := 69) rfl rfl rfl ?_
      refine w_iload_n (pc' := 70) rfl rfl rfl ?_
      refine w_if_ne (t := 82) (pc' := 73) rfl (by decide) rfl (fun h70 => ?_) (fun h70 => ?_)
      · exact absurd h70 (by decide)
      · refine w_aload_n (pc' := 74) rfl rfl rfl rfl ?_
        refine w_ldc (pc' := 76) rfl rfl rfl rfl ?_
        refine w_cV1i (pc' := 79) (v_m_isAll0 xs ht hp hn) (by decide) rfl rfl rfl (Nat.le_of_ble_eq_true rfl) sh_153 rfl (fun m7 hm' => ?_)
        obtain ⟨hp1, ho1⟩ := hm'
        obtain ⟨a1, a2, a3⟩ := p_all_le (tx := tx) (n := n) (q_str 0) pos hn
        refine w_goto (pc' := 115) rfl (by decide) ?_
        refine w_ist3 (pc' := 116) rfl rfl rfl ?_
        refine w_iload_n (pc' := 117) rfl rfl rfl ?_
        refine w_if_eq (t := 127) (pc' := 120) rfl (by decide) rfl (fun h117 => ?_) (fun h117 => ?_)
        · have hb21 : (p_all tx n (q_str 0) pos).1 = false := bB_0.mp h117
          refine w_iconst (pc' := 128) 0 rfl rfl ic_0 ?_
          refine w_iret rfl rfl (by first | rfl | exact am_nbB _) ?_
          have ew : p_wd (tx pos) = 0 := by unfold p_wd; rw [if_pos (by omega)]
          rw [show p_cl tx n pos = (false, (p_all tx n (q_str 0) pos).2, 0, 0, []) from by unfold p_cl; rw [if_neg (show ¬ (if pos < n then p_wd (tx pos) else 3) = 3 by rw [if_pos (show pos < n by omega), ew]; decide), ew, if_neg (by rw [hb21]; decide)]]
          exact q_PK_f hp1.pf.pq
        · have hb22 : (p_all tx n (q_str 0) pos).1 = true := bB_n0.mp h117
          refine w_aload_n (pc' := 121) rfl rfl rfl rfl ?_
          refine w_cV0i (pc' := 124) (v_m_isNumber xs ht hp1 a2) (by decide) rfl rfl rfl (Nat.le_of_ble_eq_true rfl) sh_153 rfl (fun m8 hm' => ?_)
          obtain ⟨hp2, hv2, ho2⟩ := hm'
          obtain ⟨z1, z2, z3, z4, z5⟩ := p_num_le (tx := tx) (n := n) (pos := (p_all tx n (q_str 0) pos).2) a2
          refine w_if_ne (t := 129) (pc' := 127) rfl (by decide) rfl (fun h124 => ?_) (fun h124 => ?_)
          · have hb23 : decide (0 < (p_num tx n (p_all tx n (q_str 0) pos).2).1) = true := bB_n0.mp h124
            have hz := of_decide_eq_true hb23
            refine w_aload_n (pc' := 130) rfl rfl rfl rfl ?_
            refine w_getC (pc' := 133) rfl rfl rfl sh_153 rfl ?_
            refine w_iload_n (pc' := 134) rfl rfl rfl ?_
            refine w_iload_n (pc' := 135) rfl rfl rfl ?_
            refine w_iast (j := (i)) (pc' := 136) rfl rfl sh_165 rfl (by omega) (by decide) ?_
            refine w_aload_n (pc' := 137) rfl rfl rfl rfl ?_
            refine w_getC (pc' := 140) rfl rfl rfl sh_153 rfl ?_
            refine w_iload_n (pc' := 141) rfl rfl rfl ?_
            refine w_aload_n (pc' := 142) rfl rfl rfl rfl ?_
            refine w_getI (pc' := 145) rfl rfl rfl sh_153 rfl ?_
            rw [am_u_ne (show ¬ (153 = 165 ∧ 15 = i) by omega), hv2]
            refine w_iast (j := (i)) (pc' := 146) rfl rfl sh_166 rfl (by omega) (by decide) ?_
            refine w_aload_n (pc' := 147) rfl rfl rfl rfl ?_
            refine w_getC (pc' := 150) rfl rfl rfl sh_153 rfl ?_
            refine w_iload_n (pc' := 151) rfl rfl rfl ?_
            refine w_aload_n (pc' := 152) rfl rfl rfl rfl ?_
            refine w_getI (pc' := 155) rfl rfl rfl sh_153 rfl ?_
            rw [am_u_ne (show ¬ (153 = 166 ∧ 26 = i) by omega), am_u_ne (show ¬ (153 = 165 ∧ 26 = i) by omega), hp2.2.2.2.1, show cd + ([] : List Nat).length = cd from rfl]
            refine w_iast (j := (i)) (pc' := 156) rfl rfl sh_167 rfl (by omega) (by decide) ?_
            refine w_aload_n (pc' := 157) rfl rfl rfl rfl ?_
            refine w_iconst (pc' := 158) 0 rfl rfl ic_0 ?_
            refine w_putI (pc' := 161) rfl rfl rfl sh_153 rfl rfl rfl ?_
            refine w_any (fun q => q_pa (q_w3 m0 i (nI 0) (nI (p_num tx n (p_all tx n (q_str 0) pos).2).2.1) (nI cd)) cd (p_num tx n (p_all tx n (q_str 0) pos).2).2.2 [] q ∧ q.1 153 17 = nI 0) ⟨(((hp2.cl (by omega)).cl (by omega)).cl (by omega)).own (by omega), am_u_eq⟩ (fun m3 hm3 => ?_)
            obtain ⟨hp3, ho3⟩ := hm3
            have ht3 : q_tx tx n (q_w3 m0 i (nI 0) (nI (p_num tx n (p_all tx n (q_str 0) pos).2).2.1) (nI cd)) := ht.w3
            refine w_iload_n (pc' := 162) rfl rfl rfl ?_
            refine w_iconst (pc' := 163) 2 rfl rfl ic_2 ?_
            refine w_ic_ge (t := 184) (pc' := 166) rfl (by decide) rfl (fun h163 => ?_) (fun h163 => ?_)
            · exact absurd h163 (by decide)
            · refine w_aload_n (pc' := 167) rfl rfl rfl rfl ?_
              refine w_bipush (pc' := 169) 32 rfl rfl bp_32 ?_
              refine w_cV1i (pc' := 172) (v_m_is xs ht3 hp3 z2 (c := 32) (by decide)) (by decide) rfl rfl rfl (Nat.le_of_ble_eq_true rfl) sh_153 rfl (fun m9 hm' => ?_)
              obtain ⟨hp4, ho4⟩ := hm'
              refine w_if_eq (t := 182) (pc' := 175) rfl (by decide) rfl (fun h172 => ?_) (fun h172 => ?_)
              · have hb24 : p_is tx n 32 (p_num tx n (p_all tx n (q_str 0) pos).2).2.2 = false := bB_0.mp h172
                refine w_iconst (pc' := 183) 0 rfl rfl ic_0 ?_
                refine w_iret rfl rfl (by first | rfl | exact am_nbB _) ?_
                have ew : p_wd (tx pos) = 0 := by unfold p_wd; rw [if_pos (by omega)]
                rw [hb24] at hp4
                rw [show p_cl tx n pos = (false, (p_num tx n (p_all tx n (q_str 0) pos).2).2.2, 0, 0, []) from by unfold p_cl; rw [if_neg (show ¬ (if pos < n then p_wd (tx pos) else 3) = 3 by rw [if_pos (show pos < n by omega), ew]; decide), ew, if_pos hb22, if_pos hz, if_neg (by decide), if_neg (by rw [hb24]; decide)]]
                exact q_PK_f (q_pf.w3 (q_pa.pf hp4))
              · have hb25 : p_is tx n 32 (p_num tx n (p_all tx n (q_str 0) pos).2).2.2 = true := bB_n0.mp h172
                have hsp := p_is_lt hb25
                rw [hb25] at hp4
                refine w_aload_n (pc' := 176) rfl rfl rfl rfl ?_
                refine w_cV0i (pc' := 179) ((v_isFE xs ht3 4 (by omega)).2 m9 ((p_num tx n (p_all tx n (q_str 0) pos).2).2.2 + 1) [] hp4 hsp (by show cd + 0 + n ≤ _; omega) ((ho4 17 (by omega)).trans ho3)) (by decide) rfl rfl rfl (Nat.le_of_ble_eq_true rfl) sh_153 rfl (fun m10 hm' => ?_)
                have hQ5 := hm'
                refine w_if_ne (t := 184) (pc' := 182) rfl (by decide) rfl (fun h179 => ?_) (fun h179 => ?_)
                · have hb26 : (p_E tx n 4 ((p_num tx n (p_all tx n (q_str 0) pos).2).2.2 + 1)).1 = true := bB_n0.mp h179
                  rw [if_pos hb26] at hQ5
                  obtain ⟨hp5, ho5⟩ := hQ5
                  have hp5 : q_pa (q_w3 m0 i (nI 0) (nI (p_num tx n (p_all tx n (q_str 0) pos).2).2.1) (nI cd)) cd (p_E tx n 4 ((p_num tx n (p_all tx n (q_str 0) pos).2).2.2 + 1)).2.1 (p_E tx n 4 ((p_num tx n (p_all tx n (q_str 0) pos).2).2.2 + 1)).2.2 m10 := hp5
                  refine id ?_
                  · refine w_aload_n (pc' := 185) rfl rfl rfl rfl ?_
                    refine w_getC (pc' := 188) rfl rfl rfl sh_153 rfl ?_
                    refine w_iload_n (pc' := 189) rfl rfl rfl ?_
                    refine w_aload_n (pc' := 190) rfl rfl rfl rfl ?_
                    refine w_getI (pc' := 193) rfl rfl rfl sh_153 rfl ?_
                    rw [show m10.1 153 26 = nI (cd + ((p_E tx n 4 ((p_num tx n (p_all tx n (q_str 0) pos).2).2.2 + 1)).2.2).length) from hp5.2.2.2.1]
                    refine w_aload_n (pc' := 194) rfl rfl rfl rfl ?_
                    refine w_getC (pc' := 197) rfl rfl rfl sh_153 rfl ?_
                    refine w_iload_n (pc' := 198) rfl rfl rfl ?_
                    refine w_iald (j := (i)) (pc' := 199) rfl rfl sh_167 rfl (by omega) (by decide) ?_
                    rw [show m10.1 167 i = nI cd from (hp5.1 167 i (by omega) (by omega)).trans am_u_eq]
                    refine w_isub (pc' := 200) rfl rfl ?_
                    rw [show nI (cd + ((p_E tx n 4 ((p_num tx n (p_all tx n (q_str 0) pos).2).2.2 + 1)).2.2).length) - nI cd = nI (((p_E tx n 4 ((p_num tx n (p_all tx n (q_str 0) pos).2).2.2 + 1)).2.2).length) from (nI_subN (by omega)).trans (congrArg nI (Nat.add_sub_cancel_left _ _))]
                    refine w_iast (j := (i)) (pc' := 201) rfl rfl sh_168 rfl (by omega) (by decide) ?_
                    refine w_iconst (pc' := 202) 1 rfl rfl ic_1 ?_
                    refine w_iret rfl rfl (by first | rfl | exact am_nbB _) ?_
                    have ew : p_wd (tx pos) = 0 := by unfold p_wd; rw [if_pos (by omega)]
                    rw [show p_cl tx n pos = (true, (p_E tx n 4 ((p_num tx n (p_all tx n (q_str 0) pos).2).2.2 + 1)).2.1, 0, (p_num tx n (p_all tx n (q_str 0) pos).2).2.1, (p_E tx n 4 ((p_num tx n (p_all tx n (q_str 0) pos).2).2.2 + 1)).2.2) from by unfold p_cl; rw [if_neg (show ¬ (if pos < n then p_wd (tx pos) else 3) = 3 by rw [if_pos (show pos < n by omega), ew]; decide), ew, if_pos hb22, if_pos hz, if_neg (by decide), if_pos hb25, if_pos hb26]]
                    exact q_PK_t (hp5.cl (by omega))
                · have hb27 : (p_E tx n 4 ((p_num tx n (p_all tx n (q_str 0) pos).2).2.2 + 1)).1 = false := bB_0.mp h179
                  refine w_iconst (pc' := 183) 0 rfl rfl ic_0 ?_
                  refine w_iret rfl rfl (by first | rfl | exact am_nbB _) ?_
                  have ew : p_wd (tx pos) = 0 := by unfold p_wd; rw [if_pos (by omega)]
                  rw [if_neg (by rw [hb27]; decide)] at hQ5
                  rw [show p_cl tx n pos = (false, (p_E tx n 4 ((p_num tx n (p_all tx n (q_str 0) pos).2).2.2 + 1)).2.1, 0, 0, []) from by unfold p_cl; rw [if_neg (show ¬ (if pos < n then p_wd (tx pos) else 3) = 3 by rw [if_pos (show pos < n by omega), ew]; decide), ew, if_pos hb22, if_pos hz, if_neg (by decide), if_pos hb25, if_neg (by rw [hb27]; decide)]]
                  exact q_PK_f (q_pf.w3 hQ5)
          · have hb28 : decide (0 < (p_num tx n (p_all tx n (q_str 0) pos).2).1) = false := bB_0.mp h124
            refine w_iconst (pc' := 128) 0 rfl rfl ic_0 ?_
            refine w_iret rfl rfl (by first | rfl | exact am_nbB _) ?_
            have ew : p_wd (tx pos) = 0 := by unfold p_wd; rw [if_pos (by omega)]
            have hz := of_decide_eq_false hb28
            rw [show p_cl tx n pos = (false, (p_num tx n (p_all tx n (q_str 0) pos).2).2.2, 0, 0, []) from by unfold p_cl; rw [if_neg (show ¬ (if pos < n then p_wd (tx pos) else 3) = 3 by rw [if_pos (show pos < n by omega), ew]; decide), ew, if_pos hb22, if_neg hz]]
            exact q_PK_f hp2.pf.pq
