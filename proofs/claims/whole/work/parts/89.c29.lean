set_option maxRecDepth 100000 in
set_option maxHeartbeats 4000000 in
theorem v_body0_0 (xs : List Int32) (m : am_Mm) : am_V xs 2 124 [.int 0, .int 0] m (am_qi (10) (· = m)) := by
  refine am_V_of ky_124 (Nat.le_of_ble_eq_true rfl) ?_
  show am_P xs 1 tr_bodyOf 0 [some (.int 0), some (.int 0), none, none, none] [] m _
  refine w_iload_n (pc' := 1) rfl rfl rfl ?_
  refine w_ist2 (pc' := 2) rfl rfl rfl ?_
  refine w_iconst (pc' := 3) 0 rfl rfl ic_0 ?_
  refine w_ist3 (pc' := 4) rfl rfl rfl ?_
  refine w_iload_n (pc' := 5) rfl rfl rfl ?_
  refine w_bipush (pc' := 7) 7 rfl rfl bp_7 ?_
  refine w_ic_ge (t := 64) (pc' := 10) rfl (by decide) rfl (fun h7 => ?_) (fun h7 => ?_)
  · exact absurd h7 (by decide)
  · refine w_iload_n (pc' := 11) rfl rfl rfl ?_
    refine w_iconst (pc' := 12) 3 rfl rfl ic_3 ?_
    refine w_imul (pc' := 13) rfl rfl ?_
    rw [show (0 : Int32) * (3) = 0 from by decide]
    refine w_iload_n (pc' := 14) rfl rfl rfl ?_
    refine w_iadd (pc' := 15) rfl rfl ?_
    rw [show (0 : Int32) + (0) = 0 from by decide]
    refine w_ist4 (pc' := 17) rfl rfl rfl ?_
    refine w_iload_n (pc' := 18) rfl rfl rfl ?_
    refine w_if_lt (t := 35) (pc' := 21) rfl (by decide) rfl (fun h18 => ?_) (fun h18 => ?_)
    · exact absurd h18 (by decide)
    · refine w_iload (pc' := 23) rfl rfl rfl ?_
      refine w_if_lt (t := 35) (pc' := 26) rfl (by decide) rfl (fun h23 => ?_) (fun h23 => ?_)
      · exact absurd h23 (by decide)
      · refine w_iload (pc' := 28) rfl rfl rfl ?_
        refine w_gets (sid := 0) (pc' := 31) rfl rfl (fun _ => rfl) ?_
        refine w_alenR (v := 21) (pc' := 32) rfl rfl (by decide) rfl rfl ?_
        refine w_ic_lt (t := 37) (pc' := 35) rfl (by decide) rfl (fun h32 => ?_) (fun h32 => ?_)
        · refine w_gets (sid := 0) (pc' := 40) rfl rfl (fun _ => rfl) ?_
          refine w_iload (pc' := 42) rfl rfl rfl ?_
          refine w_ialdR (j := 0) (pc' := 43) rfl rfl (by decide) rfl rfl rfl (by omega) ?_
          refine w_if_eq (t := 53) (pc' := 46) rfl (by decide) rfl (fun h43 => ?_) (fun h43 => ?_)
          · exact absurd h43 (by decide)
          · refine w_gets (sid := 0) (pc' := 49) rfl rfl (fun _ => rfl) ?_
            refine w_iload (pc' := 51) rfl rfl rfl ?_
            refine w_ialdR (j := 0) (pc' := 52) rfl rfl (by decide) rfl rfl rfl (by omega) ?_
            refine w_iret rfl rfl rfl ?_
            exact ⟨rfl, rfl⟩
        · exact absurd h32 (by decide)
set_option maxRecDepth 100000 in
set_option maxHeartbeats 4000000 in
theorem v_body0_1 (xs : List Int32) (m : am_Mm) : am_V xs 2 124 [.int 0, .int 1] m (am_qi (11) (· = m)) := by
  refine am_V_of ky_124 (Nat.le_of_ble_eq_true rfl) ?_
  show am_P xs 1 tr_bodyOf 0 [some (.int 0), some (.int 1), none, none, none] [] m _
  refine w_iload_n (pc' := 1) rfl rfl rfl ?_
  refine w_ist2 (pc' := 2) rfl rfl rfl ?_
  refine w_iconst (pc' := 3) 0 rfl rfl ic_0 ?_
  refine w_ist3 (pc' := 4) rfl rfl rfl ?_
  refine w_iload_n (pc' := 5) rfl rfl rfl ?_
  refine w_bipush (pc' := 7) 7 rfl rfl bp_7 ?_
  refine w_ic_ge (t := 64) (pc' := 10) rfl (by decide) rfl (fun h7 => ?_) (fun h7 => ?_)
  · exact absurd h7 (by decide)
  · refine w_iload_n (pc' := 11) rfl rfl rfl ?_
    refine w_iconst (pc' := 12) 3 rfl rfl ic_3 ?_
    refine w_imul (pc' := 13) rfl rfl ?_
    rw [show (0 : Int32) * (3) = 0 from by decide]
    refine w_iload_n (pc' := 14) rfl rfl rfl ?_
    refine w_iadd (pc' := 15) rfl rfl ?_
    rw [show (0 : Int32) + (1) = 1 from by decide]
    refine w_ist4 (pc' := 17) rfl rfl rfl ?_
    refine w_iload_n (pc' := 18) rfl rfl rfl ?_
    refine w_if_lt (t := 35) (pc' := 21) rfl (by decide) rfl (fun h18 => ?_) (fun h18 => ?_)
    · exact absurd h18 (by decide)
    · refine w_iload (pc' := 23) rfl rfl rfl ?_
      refine w_if_lt (t := 35) (pc' := 26) rfl (by decide) rfl (fun h23 => ?_) (fun h23 => ?_)
      · exact absurd h23 (by decide)
      · refine w_iload (pc' := 28) rfl rfl rfl ?_
        refine w_gets (sid := 0) (pc' := 31) rfl rfl (fun _ => rfl) ?_
        refine w_alenR (v := 21) (pc' := 32) rfl rfl (by decide) rfl rfl ?_
        refine w_ic_lt (t := 37) (pc' := 35) rfl (by decide) rfl (fun h32 => ?_) (fun h32 => ?_)
        · refine w_gets (sid := 0) (pc' := 40) rfl rfl (fun _ => rfl) ?_
          refine w_iload (pc' := 42) rfl rfl rfl ?_
          refine w_ialdR (j := 1) (pc' := 43) rfl rfl (by decide) rfl rfl rfl (by omega) ?_
          refine w_if_eq (t := 53) (pc' := 46) rfl (by decide) rfl (fun h43 => ?_) (fun h43 => ?_)
          · exact absurd h43 (by decide)
          · refine w_gets (sid := 0) (pc' := 49) rfl rfl (fun _ => rfl) ?_
            refine w_iload (pc' := 51) rfl rfl rfl ?_
            refine w_ialdR (j := 1) (pc' := 52) rfl rfl (by decide) rfl rfl rfl (by omega) ?_
            refine w_iret rfl rfl rfl ?_
            exact ⟨rfl, rfl⟩
        · exact absurd h32 (by decide)
set_option maxRecDepth 100000 in
set_option maxHeartbeats 4000000 in
theorem v_body0_2 (xs : List Int32) (m : am_Mm) : am_V xs 2 124 [.int 0, .int 2] m (am_qi (12) (· = m)) := by
  refine am_V_of ky_124 (Nat.le_of_ble_eq_true rfl) ?_
  show am_P xs 1 tr_bodyOf 0 [some (.int 0), some (.int 2), none, none, none] [] m _
  refine w_iload_n (pc' := 1) rfl rfl rfl ?_
  refine w_ist2 (pc' := 2) rfl rfl rfl ?_
  refine w_iconst (pc' := 3) 0 rfl rfl ic_0 ?_
  refine w_ist3 (pc' := 4) rfl rfl rfl ?_
  refine w_iload_n (pc' := 5) rfl rfl rfl ?_
  refine w_bipush (pc' := 7) 7 rfl rfl bp_7 ?_
  refine w_ic_ge (t := 64) (pc' := 10) rfl (by decide) rfl (fun h7 => ?_) (fun h7 => ?_)
  · exact absurd h7 (by decide)
  · refine w_iload_n (pc' := 11) rfl rfl rfl ?_
    refine w_iconst (pc' := 12) 3 rfl rfl ic_3 ?_
    refine w_imul (pc' := 13) rfl rfl ?_
    rw [show (0 : Int32) * (3) = 0 from by decide]
    refine w_iload_n (pc' := 14) rfl rfl rfl ?_
    refine w_iadd (pc' := 15) rfl rfl ?_
    rw [show (0 : Int32) + (2) = 2 from by decide]
    refine w_ist4 (pc' := 17) rfl rfl rfl ?_
    refine w_iload_n (pc' := 18) rfl rfl rfl ?_
    refine w_if_lt (t := 35) (pc' := 21) rfl (by decide) rfl (fun h18 => ?_) (fun h18 => ?_)
    · exact absurd h18 (by decide)
    · refine w_iload (pc' := 23) rfl rfl rfl ?_
      refine w_if_lt (t := 35) (pc' := 26) rfl (by decide) rfl (fun h23 => ?_) (fun h23 => ?_)
      · exact absurd h23 (by decide)
      · refine w_iload (pc' := 28) rfl rfl rfl ?_
        refine w_gets (sid := 0) (pc' := 31) rfl rfl (fun _ => rfl) ?_
        refine w_alenR (v := 21) (pc' := 32) rfl rfl (by decide) rfl rfl ?_
        refine w_ic_lt (t := 37) (pc' := 35) rfl (by decide) rfl (fun h32 => ?_) (fun h32 => ?_)
        · refine w_gets (sid := 0) (pc' := 40) rfl rfl (fun _ => rfl) ?_
          refine w_iload (pc' := 42) rfl rfl rfl ?_
          refine w_ialdR (j := 2) (pc' := 43) rfl rfl (by decide) rfl rfl rfl (by omega) ?_
          refine w_if_eq (t := 53) (pc' := 46) rfl (by decide) rfl (fun h43 => ?_) (fun h43 => ?_)
          · exact absurd h43 (by decide)
          · refine w_gets (sid := 0) (pc' := 49) rfl rfl (fun _ => rfl) ?_
            refine w_iload (pc' := 51) rfl rfl rfl ?_
            refine w_ialdR (j := 2) (pc' := 52) rfl rfl (by decide) rfl rfl rfl (by omega) ?_
            refine w_iret rfl rfl rfl ?_
            exact ⟨rfl, rfl⟩
        · exact absurd h32 (by decide)
set_option maxRecDepth 100000 in
set_option maxHeartbeats 4000000 in
theorem v_body1_0 (xs : List Int32) (m : am_Mm) : am_V xs 2 124 [.int 1, .int 0] m (am_qi (10) (· = m)) := by
  refine am_V_of ky_124 (Nat.le_of_ble_eq_true rfl) ?_
  show am_P xs 1 tr_bodyOf 0 [some (.int 1), some (.int 0), none, none, none] [] m _
  refine w_iload_n (pc' := 1) rfl rfl rfl ?_
  refine w_ist2 (pc' := 2) rfl rfl rfl ?_
  refine w_iconst (pc' := 3) 0 rfl rfl ic_0 ?_
  refine w_ist3 (pc' := 4) rfl rfl rfl ?_
  refine w_iload_n (pc' := 5) rfl rfl rfl ?_
  refine w_bipush (pc' := 7) 7 rfl rfl bp_7 ?_
  refine w_ic_ge (t := 64) (pc' := 10) rfl (by decide) rfl (fun h7 => ?_) (fun h7 => ?_)
  · exact absurd h7 (by decide)
  · refine w_iload_n (pc' := 11) rfl rfl rfl ?_
    refine w_iconst (pc' := 12) 3 rfl rfl ic_3 ?_
    refine w_imul (pc' := 13) rfl rfl ?_
    rw [show (1 : Int32) * (3) = 3 from by decide]
    refine w_iload_n (pc' := 14) rfl rfl rfl ?_
    refine w_iadd (pc' := 15) rfl rfl ?_
    rw [show (3 : Int32) + (0) = 3 from by decide]
    refine w_ist4 (pc' := 17) rfl rfl rfl ?_
    refine w_iload_n (pc' := 18) rfl rfl rfl ?_
    refine w_if_lt (t := 35) (pc' := 21) rfl (by decide) rfl (fun h18 => ?_) (fun h18 => ?_)
    · exact absurd h18 (by decide)
    · refine w_iload (pc' := 23) rfl rfl rfl ?_
      refine w_if_lt (t := 35) (pc' := 26) rfl (by decide) rfl (fun h23 => ?_) (fun h23 => ?_)
      · exact absurd h23 (by decide)
      · refine w_iload (pc' := 28) rfl rfl rfl ?_
        refine w_gets (sid := 0) (pc' := 31) rfl rfl (fun _ => rfl) ?_
        refine w_alenR (v := 21) (pc' := 32) rfl rfl (by decide) rfl rfl ?_
        refine w_ic_lt (t := 37) (pc' := 35) rfl (by decide) rfl (fun h32 => ?_) (fun h32 => ?_)
        · refine w_gets (sid := 0) (pc' := 40) rfl rfl (fun _ => rfl) ?_
          refine w_iload (pc' := 42) rfl rfl rfl ?_
          refine w_ialdR (j := 3) (pc' := 43) rfl rfl (by decide) rfl rfl rfl (by omega) ?_
          refine w_if_eq (t := 53) (pc' := 46) rfl (by decide) rfl (fun h43 => ?_) (fun h43 => ?_)
          · refine w_iload_n (pc' := 54) rfl rfl rfl ?_
            refine w_cS1i (pc' := 57) (v_ab1 xs m) (by decide) rfl rfl rfl (Or.inr rfl) (Nat.le_of_ble_eq_true rfl) (fun m' hm' => ?_)
            rw [show m' = m from hm']
            clear hm' m'
            refine w_ist2 (pc' := 58) rfl rfl rfl ?_
            refine w_iinc3 (pc' := 61) 1 rfl rfl ic_1 rfl ?_
            rw [show (0 : Int32) + Int32.ofInt 1 = 1 from by decide]
            refine w_goto (pc' := 4) rfl (by decide) ?_
            refine w_iload_n (pc' := 5) rfl rfl rfl ?_
            refine w_bipush (pc' := 7) 7 rfl rfl bp_7 ?_
            refine w_ic_ge (t := 64) (pc' := 10) rfl (by decide) rfl (fun h7 => ?_) (fun h7 => ?_)
            · exact absurd h7 (by decide)
            · refine w_iload_n (pc' := 11) rfl rfl rfl ?_
              refine w_iconst (pc' := 12) 3 rfl rfl ic_3 ?_
              refine w_imul (pc' := 13) rfl rfl ?_
              rw [show (0 : Int32) * (3) = 0 from by decide]
              refine w_iload_n (pc' := 14) rfl rfl rfl ?_
              refine w_iadd (pc' := 15) rfl rfl ?_
              rw [show (0 : Int32) + (0) = 0 from by decide]
              refine w_ist4 (pc' := 17) rfl rfl rfl ?_
              refine w_iload_n (pc' := 18) rfl rfl rfl ?_
              refine w_if_lt (t := 35) (pc' := 21) rfl (by decide) rfl (fun h18 => ?_) (fun h18 => ?_)
              · exact absurd h18 (by decide)
              · refine w_iload (pc' := 23) rfl rfl rfl ?_
                refine w_if_lt (t := 35) (pc' := 26) rfl (by decide) rfl (fun h23 => ?_) (fun h23 => ?_)
                · exact absurd h23 (by decide)
                · refine w_iload (pc' := 28) rfl rfl rfl ?_
                  refine w_gets (sid := 0) (pc' := 31) rfl rfl (fun _ => rfl) ?_
                  refine w_alenR (v := 21) (pc' := 32) rfl rfl (by decide) rfl rfl ?_
                  refine w_ic_lt (t := 37) (pc' := 35) rfl (by decide) rfl (fun h32 => ?_) (fun h32 => ?_)
                  · refine w_gets (sid := 0) (pc' := 40) rfl rfl (fun _ => rfl) ?_
                    refine w_iload (pc' := 42) rfl rfl rfl ?_
                    refine w_ialdR (j := 0) (pc' := 43) rfl rfl (by decide) rfl rfl rfl (by omega) ?_
                    refine w_if_eq (t := 53) (pc' := 46) rfl (by decide) rfl (fun h43 => ?_) (fun h43 => ?_)
                    · exact absurd h43 (by decide)
                    · refine w_gets (sid := 0) (pc' := 49) rfl rfl (fun _ => rfl) ?_
                      refine w_iload (pc' := 51) rfl rfl rfl ?_
                      refine w_ialdR (j := 0) (pc' := 52) rfl rfl (by decide) rfl rfl rfl (by omega) ?_
                      refine w_iret rfl rfl rfl ?_
                      exact ⟨rfl, rfl⟩
                  · exact absurd h32 (by decide)
          · exact absurd h43 (by decide)
        · exact absurd h32 (by decide)
set_option maxRecDepth 100000 in
set_option maxHeartbeats 4000000 in
theorem v_body1_1 (xs : List Int32) (m : am_Mm) : am_V xs 2 124 [.int 1, .int 1] m (am_qi (20) (· = m)) := by
  refine am_V_of ky_124 (Nat.le_of_ble_eq_true rfl) ?_
  show am_P xs 1 tr_bodyOf 0 [some (.int 1), some (.int 1), none, none, none] [] m _
  refine w_iload_n (pc' := 1) rfl rfl rfl ?_
  refine w_ist2 (pc' := 2) rfl rfl rfl ?_
  refine w_iconst (pc' := 3) 0 rfl rfl ic_0 ?_
  refine w_ist3 (pc' := 4) rfl rfl rfl ?_
  refine w_iload_n (pc' := 5) rfl rfl rfl ?_
  refine w_bipush (pc' := 7) 7 rfl rfl bp_7 ?_
  refine w_ic_ge (t := 64) (pc' := 10) rfl (by decide) rfl (fun h7 => ?_) (fun h7 => ?_)
  · exact absurd h7 (by decide)
  · refine w_iload_n (pc' := 11) rfl rfl rfl ?_
    refine w_iconst (pc' := 12) 3 rfl rfl ic_3 ?_
    refine w_imul (pc' := 13) rfl rfl ?_
    rw [show (1 : Int32) * (3) = 3 from by decide]
    refine w_iload_n (pc' := 14) rfl rfl rfl ?_
    refine w_iadd (pc' := 15) rfl rfl ?_
    rw [show (3 : Int32) + (1) = 4 from by decide]
    refine w_ist4 (pc' := 17) rfl rfl rfl ?_
    refine w_iload_n (pc' := 18) rfl rfl rfl ?_
    refine w_if_lt (t := 35) (pc' := 21) rfl (by decide) rfl (fun h18 => ?_) (fun h18 => ?_)
    · exact absurd h18 (by decide)
    · refine w_iload (pc' := 23) rfl rfl rfl ?_
      refine w_if_lt (t := 35) (pc' := 26) rfl (by decide) rfl (fun h23 => ?_) (fun h23 => ?_)
      · exact absurd h23 (by decide)
      · refine w_iload (pc' := 28) rfl rfl rfl ?_
        refine w_gets (sid := 0) (pc' := 31) rfl rfl (fun _ => rfl) ?_
        refine w_alenR (v := 21) (pc' := 32) rfl rfl (by decide) rfl rfl ?_
        refine w_ic_lt (t := 37) (pc' := 35) rfl (by decide) rfl (fun h32 => ?_) (fun h32 => ?_)
        · refine w_gets (sid := 0) (pc' := 40) rfl rfl (fun _ => rfl) ?_
          refine w_iload (pc' := 42) rfl rfl rfl ?_
          refine w_ialdR (j := 4) (pc' := 43) rfl rfl (by decide) rfl rfl rfl (by omega) ?_
          refine w_if_eq (t := 53) (pc' := 46) rfl (by decide) rfl (fun h43 => ?_) (fun h43 => ?_)
          · exact absurd h43 (by decide)
          · refine w_gets (sid := 0) (pc' := 49) rfl rfl (fun _ => rfl) ?_
            refine w_iload (pc' := 51) rfl rfl rfl ?_
            refine w_ialdR (j := 4) (pc' := 52) rfl rfl (by decide) rfl rfl rfl (by omega) ?_
            refine w_iret rfl rfl rfl ?_
            exact ⟨rfl, rfl⟩
        · exact absurd h32 (by decide)
set_option maxRecDepth 100000 in
set_option maxHeartbeats 4000000 in
theorem v_body1_2 (xs : List Int32) (m : am_Mm) : am_V xs 2 124 [.int 1, .int 2] m (am_qi (12) (· = m)) := by
  refine am_V_of ky_124 (Nat.le_of_ble_eq_true rfl) ?_
  show am_P xs 1 tr_bodyOf 0 [some (.int 1), some (.int 2), none, none, none] [] m _
  refine w_iload_n (pc' := 1) rfl rfl rfl ?_
  refine w_ist2 (pc' := 2) rfl rfl rfl ?_
  refine w_iconst (pc' := 3) 0 rfl rfl ic_0 ?_
  refine w_ist3 (pc' := 4) rfl rfl rfl ?_
  refine w_iload_n (pc' := 5) rfl rfl rfl ?_
  refine w_bipush (pc' := 7) 7 rfl rfl bp_7 ?_
  refine w_ic_ge (t := 64) (pc' := 10) rfl (by decide) rfl (fun h7 => ?_) (fun h7 => ?_)
  · exact absurd h7 (by decide)
  · refine w_iload_n (pc' := 11) rfl rfl rfl ?_
    refine w_iconst (pc' := 12) 3 rfl rfl ic_3 ?_
    refine w_imul (pc' := 13) rfl rfl ?_
    rw [show (1 : Int32) * (3) = 3 from by decide]
    refine w_iload_n (pc' := 14) rfl rfl rfl ?_
    refine w_iadd (pc' := 15) rfl rfl ?_
    rw [show (3 : Int32) + (2) = 5 from by decide]
    refine w_ist4 (pc' := 17) rfl rfl rfl ?_
    refine w_iload_n (pc' := 18) rfl rfl rfl ?_
    refine w_if_lt (t := 35) (pc' := 21) rfl (by decide) rfl (fun h18 => ?_) (fun h18 => ?_)
    · exact absurd h18 (by decide)
    · refine w_iload (pc' := 23) rfl rfl rfl ?_
      refine w_if_lt (t := 35) (pc' := 26) rfl (by decide) rfl (fun h23 => ?_) (fun h23 => ?_)
      · exact absurd h23 (by decide)
      · refine w_iload (pc' := 28) rfl rfl rfl ?_
        refine w_gets (sid := 0) (pc' := 31) rfl rfl (fun _ => rfl) ?_
        refine w_alenR (v := 21) (pc' := 32) rfl rfl (by decide) rfl rfl ?_
        refine w_ic_lt (t := 37) (pc' := 35) rfl (by decide) rfl (fun h32 => ?_) (fun h32 => ?_)
        · refine w_gets (sid := 0) (pc' := 40) rfl rfl (fun _ => rfl) ?_
          refine w_iload (pc' := 42) rfl rfl rfl ?_
          refine w_ialdR (j := 5) (pc' := 43) rfl rfl (by decide) rfl rfl rfl (by omega) ?_
          refine w_if_eq (t := 53) (pc' := 46) rfl (by decide) rfl (fun h43 => ?_) (fun h43 => ?_)
          · refine w_iload_n (pc' := 54) rfl rfl rfl ?_
            refine w_cS1i (pc' := 57) (v_ab1 xs m) (by decide) rfl rfl rfl (Or.inr rfl) (Nat.le_of_ble_eq_true rfl) (fun m' hm' => ?_)
            rw [show m' = m from hm']
            clear hm' m'
            refine w_ist2 (pc' := 58) rfl rfl rfl ?_
            refine w_iinc3 (pc' := 61) 1 rfl rfl ic_1 rfl ?_
            rw [show (0 : Int32) + Int32.ofInt 1 = 1 from by decide]
            refine w_goto (pc' := 4) rfl (by decide) ?_
            refine w_iload_n (pc' := 5) rfl rfl rfl ?_
            refine w_bipush (pc' := 7) 7 rfl rfl bp_7 ?_
            refine w_ic_ge (t := 64) (pc' := 10) rfl (by decide) rfl (fun h7 => ?_) (fun h7 => ?_)
            · exact absurd h7 (by decide)
            · refine w_iload_n (pc' := 11) rfl rfl rfl ?_
              refine w_iconst (pc' := 12) 3 rfl rfl ic_3 ?_
              refine w_imul (pc' := 13) rfl rfl ?_
              rw [show (0 : Int32) * (3) = 0 from by decide]
              refine w_iload_n (pc' := 14) rfl rfl rfl ?_
              refine w_iadd (pc' := 15) rfl rfl ?_
              rw [show (0 : Int32) + (2) = 2 from by decide]
              refine w_ist4 (pc' := 17) rfl rfl rfl ?_
              refine w_iload_n (pc' := 18) rfl rfl rfl ?_
              refine w_if_lt (t := 35) (pc' := 21) rfl (by decide) rfl (fun h18 => ?_) (fun h18 => ?_)
              · exact absurd h18 (by decide)
              · refine w_iload (pc' := 23) rfl rfl rfl ?_
                refine w_if_lt (t := 35) (pc' := 26) rfl (by decide) rfl (fun h23 => ?_) (fun h23 => ?_)
                · exact absurd h23 (by decide)
                · refine w_iload (pc' := 28) rfl rfl rfl ?_
                  refine w_gets (sid := 0) (pc' := 31) rfl rfl (fun _ => rfl) ?_
                  refine w_alenR (v := 21) (pc' := 32) rfl rfl (by decide) rfl rfl ?_
                  refine w_ic_lt (t := 37) (pc' := 35) rfl (by decide) rfl (fun h32 => ?_) (fun h32 => ?_)
                  · refine w_gets (sid := 0) (pc' := 40) rfl rfl (fun _ => rfl) ?_
                    refine w_iload (pc' := 42) rfl rfl rfl ?_
                    refine w_ialdR (j := 2) (pc' := 43) rfl rfl (by decide) rfl rfl rfl (by omega) ?_
                    refine w_if_eq (t := 53) (pc' := 46) rfl (by decide) rfl (fun h43 => ?_) (fun h43 => ?_)
                    · exact absurd h43 (by decide)
                    · refine w_gets (sid := 0) (pc' := 49) rfl rfl (fun _ => rfl) ?_
                      refine w_iload (pc' := 51) rfl rfl rfl ?_
                      refine w_ialdR (j := 2) (pc' := 52) rfl rfl (by decide) rfl rfl rfl (by omega) ?_
                      refine w_iret rfl rfl rfl ?_
                      exact ⟨rfl, rfl⟩
                  · exact absurd h32 (by decide)
          · exact absurd h43 (by decide)
        · exact absurd h32 (by decide)
set_option maxRecDepth 100000 in
set_option maxHeartbeats 4000000 in
theorem v_body2_0 (xs : List Int32) (m : am_Mm) : am_V xs 2 124 [.int 2, .int 0] m (am_qi (30) (· = m)) := by
  refine am_V_of ky_124 (Nat.le_of_ble_eq_true rfl) ?_
  show am_P xs 1 tr_bodyOf 0 [some (.int 2), some (.int 0), none, none, none] [] m _
  refine w_iload_n (pc' := 1) rfl rfl rfl ?_
  refine w_ist2 (pc' := 2) rfl rfl rfl ?_
  refine w_iconst (pc' := 3) 0 rfl rfl ic_0 ?_
  refine w_ist3 (pc' := 4) rfl rfl rfl ?_
  refine w_iload_n (pc' := 5) rfl rfl rfl ?_
  refine w_bipush (pc' := 7) 7 rfl rfl bp_7 ?_
  refine w_ic_ge (t := 64) (pc' := 10) rfl (by decide) rfl (fun h7 => ?_) (fun h7 => ?_)
  · exact absurd h7 (by decide)
  · refine w_iload_n (pc' := 11) rfl rfl rfl ?_
    refine w_iconst (pc' := 12) 3 rfl rfl ic_3 ?_
    refine w_imul (pc' := 13) rfl rfl ?_
    rw [show (2 : Int32) * (3) = 6 from by decide]
    refine w_iload_n (pc' := 14) rfl rfl rfl ?_
    refine w_iadd (pc' := 15) rfl rfl ?_
    rw [show (6 : Int32) + (0) = 6 from by decide]
    refine w_ist4 (pc' := 17) rfl rfl rfl ?_
    refine w_iload_n (pc' := 18) rfl rfl rfl ?_
    refine w_if_lt (t := 35) (pc' := 21) rfl (by decide) rfl (fun h18 => ?_) (fun h18 => ?_)
    · exact absurd h18 (by decide)
    · refine w_iload (pc' := 23) rfl rfl rfl ?_
      refine w_if_lt (t := 35) (pc' := 26) rfl (by decide) rfl (fun h23 => ?_) (fun h23 => ?_)
      · exact absurd h23 (by decide)
      · refine w_iload (pc' := 28) rfl rfl rfl ?_
        refine w_gets (sid := 0) (pc' := 31) rfl rfl (fun _ => rfl) ?_
        refine w_alenR (v := 21) (pc' := 32) rfl rfl (by decide) rfl rfl ?_
        refine w_ic_lt (t := 37) (pc' := 35) rfl (by decide) rfl (fun h32 => ?_) (fun h32 => ?_)
        · refine w_gets (sid := 0) (pc' := 40) rfl rfl (fun _ => rfl) ?_
          refine w_iload (pc' := 42) rfl rfl rfl ?_
          refine w_ialdR (j := 6) (pc' := 43) rfl rfl (by decide) rfl rfl rfl (by omega) ?_
          refine w_if_eq (t := 53) (pc' := 46) rfl (by decide) rfl (fun h43 => ?_) (fun h43 => ?_)
          · exact absurd h43 (by decide)
          · refine w_gets (sid := 0) (pc' := 49) rfl rfl (fun _ => rfl) ?_
            refine w_iload (pc' := 51) rfl rfl rfl ?_
            refine w_ialdR (j := 6) (pc' := 52) rfl rfl (by decide) rfl rfl rfl (by omega) ?_
            refine w_iret rfl rfl rfl ?_
            exact ⟨rfl, rfl⟩
        · exact absurd h32 (by decide)
set_option maxRecDepth 100000 in
set_option maxHeartbeats 4000000 in
theorem v_body2_1 (xs : List Int32) (m : am_Mm) : am_V xs 2 124 [.int 2, .int 1] m (am_qi (11) (· = m)) := by
  refine am_V_of ky_124 (Nat.le_of_ble_eq_true rfl) ?_
  show am_P xs 1 tr_bodyOf 0 [some (.int 2), some (.int 1), none, none, none] [] m _
  refine w_iload_n (pc' := 1) rfl rfl rfl ?_
  refine w_ist2 (pc' := 2) rfl rfl rfl ?_
  refine w_iconst (pc' := 3) 0 rfl rfl ic_0 ?_
  refine w_ist3 (pc' := 4) rfl rfl rfl ?_
  refine w_iload_n (pc' := 5) rfl rfl rfl ?_
  refine w_bipush (pc' := 7) 7 rfl rfl bp_7 ?_
  refine w_ic_ge (t := 64) (pc' := 10) rfl (by decide) rfl (fun h7 => ?_) (fun h7 => ?_)
  · exact absurd h7 (by decide)
  · refine w_iload_n (pc' := 11) rfl rfl rfl ?_
    refine w_iconst (pc' := 12) 3 rfl rfl ic_3 ?_
    refine w_imul (pc' := 13) rfl rfl ?_
    rw [show (2 : Int32) * (3) = 6 from by decide]
    refine w_iload_n (pc' := 14) rfl rfl rfl ?_
    refine w_iadd (pc' := 15) rfl rfl ?_
    rw [show (6 : Int32) + (1) = 7 from by decide]
    refine w_ist4 (pc' := 17) rfl rfl rfl ?_
    refine w_iload_n (pc' := 18) rfl rfl rfl ?_
    refine w_if_lt (t := 35) (pc' := 21) rfl (by decide) rfl (fun h18 => ?_) (fun h18 => ?_)
    · exact absurd h18 (by decide)
    · refine w_iload (pc' := 23) rfl rfl rfl ?_
      refine w_if_lt (t := 35) (pc' := 26) rfl (by decide) rfl (fun h23 => ?_) (fun h23 => ?_)
      · exact absurd h23 (by decide)
      · refine w_iload (pc' := 28) rfl rfl rfl ?_
        refine w_gets (sid := 0) (pc' := 31) rfl rfl (fun _ => rfl) ?_
        refine w_alenR (v := 21) (pc' := 32) rfl rfl (by decide) rfl rfl ?_
        refine w_ic_lt (t := 37) (pc' := 35) rfl (by decide) rfl (fun h32 => ?_) (fun h32 => ?_)
        · refine w_gets (sid := 0) (pc' := 40) rfl rfl (fun _ => rfl) ?_
          refine w_iload (pc' := 42) rfl rfl rfl ?_
          refine w_ialdR (j := 7) (pc' := 43) rfl rfl (by decide) rfl rfl rfl (by omega) ?_
          refine w_if_eq (t := 53) (pc' := 46) rfl (by decide) rfl (fun h43 => ?_) (fun h43 => ?_)
          · refine w_iload_n (pc' := 54) rfl rfl rfl ?_
            refine w_cS1i (pc' := 57) (v_ab2 xs m) (by decide) rfl rfl rfl (Or.inr rfl) (Nat.le_of_ble_eq_true rfl) (fun m' hm' => ?_)
            rw [show m' = m from hm']
            clear hm' m'
            refine w_ist2 (pc' := 58) rfl rfl rfl ?_
            refine w_iinc3 (pc' := 61) 1 rfl rfl ic_1 rfl ?_
            rw [show (0 : Int32) + Int32.ofInt 1 = 1 from by decide]
            refine w_goto (pc' := 4) rfl (by decide) ?_
            refine w_iload_n (pc' := 5) rfl rfl rfl ?_
            refine w_bipush (pc' := 7) 7 rfl rfl bp_7 ?_
            refine w_ic_ge (t := 64) (pc' := 10) rfl (by decide) rfl (fun h7 => ?_) (fun h7 => ?_)
            · exact absurd h7 (by decide)
            · refine w_iload_n (pc' := 11) rfl rfl rfl ?_
              refine w_iconst (pc' := 12) 3 rfl rfl ic_3 ?_
              refine w_imul (pc' := 13) rfl rfl ?_
              rw [show (0 : Int32) * (3) = 0 from by decide]
              refine w_iload_n (pc' := 14) rfl rfl rfl ?_
              refine w_iadd (pc' := 15) rfl rfl ?_
              rw [show (0 : Int32) + (1) = 1 from by decide]
              refine w_ist4 (pc' := 17) rfl rfl rfl ?_
              refine w_iload_n (pc' := 18) rfl rfl rfl ?_
              refine w_if_lt (t := 35) (pc' := 21) rfl (by decide) rfl (fun h18 => ?_) (fun h18 => ?_)
              · exact absurd h18 (by decide)
              · refine w_iload (pc' := 23) rfl rfl rfl ?_
                refine w_if_lt (t := 35) (pc' := 26) rfl (by decide) rfl (fun h23 => ?_) (fun h23 => ?_)
                · exact absurd h23 (by decide)
                · refine w_iload (pc' := 28) rfl rfl rfl ?_
                  refine w_gets (sid := 0) (pc' := 31) rfl rfl (fun _ => rfl) ?_
                  refine w_alenR (v := 21) (pc' := 32) rfl rfl (by decide) rfl rfl ?_
                  refine w_ic_lt (t := 37) (pc' := 35) rfl (by decide) rfl (fun h32 => ?_) (fun h32 => ?_)
                  · refine w_gets (sid := 0) (pc' := 40) rfl rfl (fun _ => rfl) ?_
                    refine w_iload (pc' := 42) rfl rfl rfl ?_
                    refine w_ialdR (j := 1) (pc' := 43) rfl rfl (by decide) rfl rfl rfl (by omega) ?_
                    refine w_if_eq (t := 53) (pc' := 46) rfl (by decide) rfl (fun h43 => ?_) (fun h43 => ?_)
                    · exact absurd h43 (by decide)
                    · refine w_gets (sid := 0) (pc' := 49) rfl rfl (fun _ => rfl) ?_
                      refine w_iload (pc' := 51) rfl rfl rfl ?_
                      refine w_ialdR (j := 1) (pc' := 52) rfl rfl (by decide) rfl rfl rfl (by omega) ?_
                      refine w_iret rfl rfl rfl ?_
                      exact ⟨rfl, rfl⟩
                  · exact absurd h32 (by decide)
          · exact absurd h43 (by decide)
        · exact absurd h32 (by decide)
set_option maxRecDepth 100000 in
set_option maxHeartbeats 4000000 in
theorem v_body2_2 (xs : List Int32) (m : am_Mm) : am_V xs 2 124 [.int 2, .int 2] m (am_qi (12) (· = m)) := by
  refine am_V_of ky_124 (Nat.le_of_ble_eq_true rfl) ?_
  show am_P xs 1 tr_bodyOf 0 [some (.int 2), some (.int 2), none, none, none] [] m _
  refine w_iload_n (pc' := 1) rfl rfl rfl ?_
  refine w_ist2 (pc' := 2) rfl rfl rfl ?_
  refine w_iconst (pc' := 3) 0 rfl rfl ic_0 ?_
  refine w_ist3 (pc' := 4) rfl rfl rfl ?_
  refine w_iload_n (pc' := 5) rfl rfl rfl ?_
  refine w_bipush (pc' := 7) 7 rfl rfl bp_7 ?_
  refine w_ic_ge (t := 64) (pc' := 10) rfl (by decide) rfl (fun h7 => ?_) (fun h7 => ?_)
  · exact absurd h7 (by decide)
  · refine w_iload_n (pc' := 11) rfl rfl rfl ?_
    refine w_iconst (pc' := 12) 3 rfl rfl ic_3 ?_
    refine w_imul (pc' := 13) rfl rfl ?_
    rw [show (2 : Int32) * (3) = 6 from by decide]
    refine w_iload_n (pc' := 14) rfl rfl rfl ?_
    refine w_iadd (pc' := 15) rfl rfl ?_
    rw [show (6 : Int32) + (2) = 8 from by decide]
    refine w_ist4 (pc' := 17) rfl rfl rfl ?_
    refine w_iload_n (pc' := 18) rfl rfl rfl ?_
    refine w_if_lt (t := 35) (pc' := 21) rfl (by decide) rfl (fun h18 => ?_) (fun h18 => ?_)
    · exact absurd h18 (by decide)
    · refine w_iload (pc' := 23) rfl rfl rfl ?_
      refine w_if_lt (t := 35) (pc' := 26) rfl (by decide) rfl (fun h23 => ?_) (fun h23 => ?_)
      · exact absurd h23 (by decide)
      · refine w_iload (pc' := 28) rfl rfl rfl ?_
        refine w_gets (sid := 0) (pc' := 31) rfl rfl (fun _ => rfl) ?_
        refine w_alenR (v := 21) (pc' := 32) rfl rfl (by decide) rfl rfl ?_
        refine w_ic_lt (t := 37) (pc' := 35) rfl (by decide) rfl (fun h32 => ?_) (fun h32 => ?_)
        · refine w_gets (sid := 0) (pc' := 40) rfl rfl (fun _ => rfl) ?_
          refine w_iload (pc' := 42) rfl rfl rfl ?_
          refine w_ialdR (j := 8) (pc' := 43) rfl rfl (by decide) rfl rfl rfl (by omega) ?_
          refine w_if_eq (t := 53) (pc' := 46) rfl (by decide) rfl (fun h43 => ?_) (fun h43 => ?_)
          · refine w_iload_n (pc' := 54) rfl rfl rfl ?_
            refine w_cS1i (pc' := 57) (v_ab2 xs m) (by decide) rfl rfl rfl (Or.inr rfl) (Nat.le_of_ble_eq_true rfl) (fun m' hm' => ?_)
            rw [show m' = m from hm']
            clear hm' m'
            refine w_ist2 (pc' := 58) rfl rfl rfl ?_
            refine w_iinc3 (pc' := 61) 1 rfl rfl ic_1 rfl ?_
            rw [show (0 : Int32) + Int32.ofInt 1 = 1 from by decide]
            refine w_goto (pc' := 4) rfl (by decide) ?_
            refine w_iload_n (pc' := 5) rfl rfl rfl ?_
            refine w_bipush (pc' := 7) 7 rfl rfl bp_7 ?_
            refine w_ic_ge (t := 64) (pc' := 10) rfl (by decide) rfl (fun h7 => ?_) (fun h7 => ?_)
            · exact absurd h7 (by decide)
            · refine w_iload_n (pc' := 11) rfl rfl rfl ?_
              refine w_iconst (pc' := 12) 3 rfl rfl ic_3 ?_
              refine w_imul (pc' := 13) rfl rfl ?_
              rw [show (0 : Int32) * (3) = 0 from by decide]
              refine w_iload_n (pc' := 14) rfl rfl rfl ?_
              refine w_iadd (pc' := 15) rfl rfl ?_
              rw [show (0 : Int32) + (2) = 2 from by decide]
              refine w_ist4 (pc' := 17) rfl rfl rfl ?_
              refine w_iload_n (pc' := 18) rfl rfl rfl ?_
              refine w_if_lt (t := 35) (pc' := 21) rfl (by decide) rfl (fun h18 => ?_) (fun h18 => ?_)
              · exact absurd h18 (by decide)
              · refine w_iload (pc' := 23) rfl rfl rfl ?_
                refine w_if_lt (t := 35) (pc' := 26) rfl (by decide) rfl (fun h23 => ?_) (fun h23 => ?_)
                · exact absurd h23 (by decide)
                · refine w_iload (pc' := 28) rfl rfl rfl ?_
                  refine w_gets (sid := 0) (pc' := 31) rfl rfl (fun _ => rfl) ?_
                  refine w_alenR (v := 21) (pc' := 32) rfl rfl (by decide) rfl rfl ?_
                  refine w_ic_lt (t := 37) (pc' := 35) rfl (by decide) rfl (fun h32 => ?_) (fun h32 => ?_)
                  · refine w_gets (sid := 0) (pc' := 40) rfl rfl (fun _ => rfl) ?_
                    refine w_iload (pc' := 42) rfl rfl rfl ?_
                    refine w_ialdR (j := 2) (pc' := 43) rfl rfl (by decide) rfl rfl rfl (by omega) ?_
                    refine w_if_eq (t := 53) (pc' := 46) rfl (by decide) rfl (fun h43 => ?_) (fun h43 => ?_)
                    · exact absurd h43 (by decide)
                    · refine w_gets (sid := 0) (pc' := 49) rfl rfl (fun _ => rfl) ?_
                      refine w_iload (pc' := 51) rfl rfl rfl ?_
                      refine w_ialdR (j := 2) (pc' := 52) rfl rfl (by decide) rfl rfl rfl (by omega) ?_
                      refine w_iret rfl rfl rfl ?_
                      exact ⟨rfl, rfl⟩
                  · exact absurd h32 (by decide)
          · exact absurd h43 (by decide)
        · exact absurd h32 (by decide)
set_option maxRecDepth 100000 in
set_option maxHeartbeats 4000000 in
theorem v_body3_0 (xs : List Int32) (m : am_Mm) : am_V xs 2 124 [.int 3, .int 0] m (am_qi (10) (· = m)) := by
  refine am_V_of ky_124 (Nat.le_of_ble_eq_true rfl) ?_
  show am_P xs 1 tr_bodyOf 0 [some (.int 3), some (.int 0), none, none, none] [] m _
  refine w_iload_n (pc' := 1) rfl rfl rfl ?_
  refine w_ist2 (pc' := 2) rfl rfl rfl ?_
  refine w_iconst (pc' := 3) 0 rfl rfl ic_0 ?_
  refine w_ist3 (pc' := 4) rfl rfl rfl ?_
  refine w_iload_n (pc' := 5) rfl rfl rfl ?_
  refine w_bipush (pc' := 7) 7 rfl rfl bp_7 ?_
  refine w_ic_ge (t := 64) (pc' := 10) rfl (by decide) rfl (fun h7 => ?_) (fun h7 => ?_)
  · exact absurd h7 (by decide)
  · refine w_iload_n (pc' := 11) rfl rfl rfl ?_
    refine w_iconst (pc' := 12) 3 rfl rfl ic_3 ?_
    refine w_imul (pc' := 13) rfl rfl ?_
    rw [show (3 : Int32) * (3) = 9 from by decide]
    refine w_iload_n (pc' := 14) rfl rfl rfl ?_
    refine w_iadd (pc' := 15) rfl rfl ?_
    rw [show (9 : Int32) + (0) = 9 from by decide]
    refine w_ist4 (pc' := 17) rfl rfl rfl ?_
    refine w_iload_n (pc' := 18) rfl rfl rfl ?_
    refine w_if_lt (t := 35) (pc' := 21) rfl (by decide) rfl (fun h18 => ?_) (fun h18 => ?_)
    · exact absurd h18 (by decide)
    · refine w_iload (pc' := 23) rfl rfl rfl ?_
      refine w_if_lt (t := 35) (pc' := 26) rfl (by decide) rfl (fun h23 => ?_) (fun h23 => ?_)
      · exact absurd h23 (by decide)
      · refine w_iload (pc' := 28) rfl rfl rfl ?_
        refine w_gets (sid := 0) (pc' := 31) rfl rfl (fun _ => rfl) ?_
        refine w_alenR (v := 21) (pc' := 32) rfl rfl (by decide) rfl rfl ?_
        refine w_ic_lt (t := 37) (pc' := 35) rfl (by decide) rfl (fun h32 => ?_) (fun h32 => ?_)
        · refine w_gets (sid := 0) (pc' := 40) rfl rfl (fun _ => rfl) ?_
          refine w_iload (pc' := 42) rfl rfl rfl ?_
          refine w_ialdR (j := 9) (pc' := 43) rfl rfl (by decide) rfl rfl rfl (by omega) ?_
          refine w_if_eq (t := 53) (pc' := 46) rfl (by decide) rfl (fun h43 => ?_) (fun h43 => ?_)
          · refine w_iload_n (pc' := 54) rfl rfl rfl ?_
            refine w_cS1i (pc' := 57) (v_ab3 xs m) (by decide) rfl rfl rfl (Or.inr rfl) (Nat.le_of_ble_eq_true rfl) (fun m' hm' => ?_)
            rw [show m' = m from hm']
            clear hm' m'
            refine w_ist2 (pc' := 58) rfl rfl rfl ?_
            refine w_iinc3 (pc' := 61) 1 rfl rfl ic_1 rfl ?_
            rw [show (0 : Int32) + Int32.ofInt 1 = 1 from by decide]
            refine w_goto (pc' := 4) rfl (by decide) ?_
            refine w_iload_n (pc' := 5) rfl rfl rfl ?_
            refine w_bipush (pc' := 7) 7 rfl rfl bp_7 ?_
            refine w_ic_ge (t := 64) (pc' := 10) rfl (by decide) rfl (fun h7 => ?_) (fun h7 => ?_)
            · exact absurd h7 (by decide)
            · refine w_iload_n (pc' := 11) rfl rfl rfl ?_
              refine w_iconst (pc' := 12) 3 rfl rfl ic_3 ?_
              refine w_imul (pc' := 13) rfl rfl ?_
              rw [show (0 : Int32) * (3) = 0 from by decide]
              refine w_iload_n (pc' := 14) rfl rfl rfl ?_
              refine w_iadd (pc' := 15) rfl rfl ?_
              rw [show (0 : Int32) + (0) = 0 from by decide]
              refine w_ist4 (pc' := 17) rfl rfl rfl ?_
              refine w_iload_n (pc' := 18) rfl rfl rfl ?_
              refine w_if_lt (t := 35) (pc' := 21) rfl (by decide) rfl (fun h18 => ?_) (fun h18 => ?_)
              · exact absurd h18 (by decide)
              · refine w_iload (pc' := 23) rfl rfl rfl ?_
                refine w_if_lt (t := 35) (pc' := 26) rfl (by decide) rfl (fun h23 => ?_) (fun h23 => ?_)
                · exact absurd h23 (by decide)
                · refine w_iload (pc' := 28) rfl rfl rfl ?_
                  refine w_gets (sid := 0) (pc' := 31) rfl rfl (fun _ => rfl) ?_
                  refine w_alenR (v := 21) (pc' := 32) rfl rfl (by decide) rfl rfl ?_
                  refine w_ic_lt (t := 37) (pc' := 35) rfl (by decide) rfl (fun h32 => ?_) (fun h32 => ?_)
                  · refine w_gets (sid := 0) (pc' := 40) rfl rfl (fun _ => rfl) ?_
                    refine w_iload (pc' := 42) rfl rfl rfl ?_
                    refine w_ialdR (j := 0) (pc' := 43) rfl rfl (by decide) rfl rfl rfl (by omega) ?_
                    refine w_if_eq (t := 53) (pc' := 46) rfl (by decide) rfl (fun h43 => ?_) (fun h43 => ?_)
                    · exact absurd h43 (by decide)
                    · refine w_gets (sid := 0) (pc' := 49) rfl rfl (fun _ => rfl) ?_
                      refine w_iload (pc' := 51) rfl rfl rfl ?_
                      refine w_ialdR (j := 0) (pc' := 52) rfl rfl (by decide) rfl rfl rfl (by omega) ?_
                      refine w_iret rfl rfl rfl ?_
                      exact ⟨rfl, rfl⟩
                  · exact absurd h32 (by decide)
          · exact absurd h43 (by decide)
        · exact absurd h32 (by decide)
set_option maxRecDepth 100000 in
set_option maxHeartbeats 4000000 in
theorem v_body3_1 (xs : List Int32) (m : am_Mm) : am_V xs 2 124 [.int 3, .int 1] m (am_qi (11) (· = m)) := by
  refine am_V_of ky_124 (Nat.le_of_ble_eq_true rfl) ?_
  show am_P xs 1 tr_bodyOf 0 [some (.int 3), some (.int 1), none, none, none] [] m _
  refine w_iload_n (pc' := 1) rfl rfl rfl ?_
  refine w_ist2 (pc' := 2) rfl rfl rfl ?_
  refine w_iconst (pc' := 3) 0 rfl rfl ic_0 ?_
  refine w_ist3 (pc' := 4) rfl rfl rfl ?_
  refine w_iload_n (pc' := 5) rfl rfl rfl ?_
  refine w_bipush (pc' := 7) 7 rfl rfl bp_7 ?_
  refine w_ic_ge (t := 64) (pc' := 10) rfl (by decide) rfl (fun h7 => ?_) (fun h7 => ?_)
  · exact absurd h7 (by decide)
  · refine w_iload_n (pc' := 11) rfl rfl rfl ?_
    refine w_iconst (pc' := 12) 3 rfl rfl ic_3 ?_
    refine w_imul (pc' := 13) rfl rfl ?_
    rw [show (3 : Int32) * (3) = 9 from by decide]
    refine w_iload_n (pc' := 14) rfl rfl rfl ?_
    refine w_iadd (pc' := 15) rfl rfl ?_
    rw [show (9 : Int32) + (1) = 10 from by decide]
    refine w_ist4 (pc' := 17) rfl rfl rfl ?_
    refine w_iload_n (pc' := 18) rfl rfl rfl ?_
    refine w_if_lt (t := 35) (pc' := 21) rfl (by decide) rfl (fun h18 => ?_) (fun h18 => ?_)
    · exact absurd h18 (by decide)
    · refine w_iload (pc' := 23) rfl rfl rfl ?_
      refine w_if_lt (t := 35) (pc' := 26) rfl (by decide) rfl (fun h23 => ?_) (fun h23 => ?_)
      · exact absurd h23 (by decide)
      · refine w_iload (pc' := 28) rfl rfl rfl ?_
        refine w_gets (sid := 0) (pc' := 31) rfl rfl (fun _ => rfl) ?_
        refine w_alenR (v := 21) (pc' := 32) rfl rfl (by decide) rfl rfl ?_
        refine w_ic_lt (t := 37) (pc' := 35) rfl (by decide) rfl (fun h32 => ?_) (fun h32 => ?_)
        · refine w_gets (sid := 0) (pc' := 40) rfl rfl (fun _ => rfl) ?_
          refine w_iload (pc' := 42) rfl rfl rfl ?_
          refine w_ialdR (j := 10) (pc' := 43) rfl rfl (by decide) rfl rfl rfl (by omega) ?_
          refine w_if_eq (t := 53) (pc' := 46) rfl (by decide) rfl (fun h43 => ?_) (fun h43 => ?_)
          · refine w_iload_n (pc' := 54) rfl rfl rfl ?_
            refine w_cS1i (pc' := 57) (v_ab3 xs m) (by decide) rfl rfl rfl (Or.inr rfl) (Nat.le_of_ble_eq_true rfl) (fun m' hm' => ?_)
            rw [show m' = m from hm']
            clear hm' m'
            refine w_ist2 (pc' := 58) rfl rfl rfl ?_
            refine w_iinc3 (pc' := 61) 1 rfl rfl ic_1 rfl ?_
            rw [show (0 : Int32) + Int32.ofInt 1 = 1 from by decide]
            refine w_goto (pc' := 4) rfl (by decide) ?_
            refine w_iload_n (pc' := 5) rfl rfl rfl ?_
            refine w_bipush (pc' := 7) 7 rfl rfl bp_7 ?_
            refine w_ic_ge (t := 64) (pc' := 10) rfl (by decide) rfl (fun h7 => ?_) (fun h7 => ?_)
            · exact absurd h7 (by decide)
            · refine w_iload_n (pc' := 11) rfl rfl rfl ?_
              refine w_iconst (pc' := 12) 3 rfl rfl ic_3 ?_
              refine w_imul (pc' := 13) rfl rfl ?_
              rw [show (0 : Int32) * (3) = 0 from by decide]
              refine w_iload_n (pc' := 14) rfl rfl rfl ?_
              refine w_iadd (pc' := 15) rfl rfl ?_
              rw [show (0 : Int32) + (1) = 1 from by decide]
              refine w_ist4 (pc' := 17) rfl rfl rfl ?_
              refine w_iload_n (pc' := 18) rfl rfl rfl ?_
              refine w_if_lt (t := 35) (pc' := 21) rfl (by decide) rfl (fun h18 => ?_) (fun h18 => ?_)
              · exact absurd h18 (by decide)
              · refine w_iload (pc' := 23) rfl rfl rfl ?_
                refine w_if_lt (t := 35) (pc' := 26) rfl (by decide) rfl (fun h23 => ?_) (fun h23 => ?_)
                · exact absurd h23 (by decide)
                · refine w_iload (pc' := 28) rfl rfl rfl ?_
                  refine w_gets (sid := 0) (pc' := 31) rfl rfl (fun _ => rfl) ?_
                  refine w_alenR (v := 21) (pc' := 32) rfl rfl (by decide) rfl rfl ?_
                  refine w_ic_lt (t := 37) (pc' := 35) rfl (by decide) rfl (fun h32 => ?_) (fun h32 => ?_)
                  · refine w_gets (sid := 0) (pc' := 40) rfl rfl (fun _ => rfl) ?_
                    refine w_iload (pc' := 42) rfl rfl rfl ?_
                    refine w_ialdR (j := 1) (pc' := 43) rfl rfl (by decide) rfl rfl rfl (by omega) ?_
                    refine w_if_eq (t := 53) (pc' := 46) rfl (by decide) rfl (fun h43 => ?_) (fun h43 => ?_)
                    · exact absurd h43 (by decide)
                    · refine w_gets (sid := 0) (pc' := 49) rfl rfl (fun _ => rfl) ?_
                      refine w_iload (pc' := 51) rfl rfl rfl ?_
                      refine w_ialdR (j := 1) (pc' := 52) rfl rfl (by decide) rfl rfl rfl (by omega) ?_
                      refine w_iret rfl rfl rfl ?_
                      exact ⟨rfl, rfl⟩
                  · exact absurd h32 (by decide)
          · exact absurd h43 (by decide)
        · exact absurd h32 (by decide)
set_option maxRecDepth 100000 in
set_option maxHeartbeats 4000000 in
theorem v_body3_2 (xs : List Int32) (m : am_Mm) : am_V xs 2 124 [.int 3, .int 2] m (am_qi (40) (· = m)) := by
  refine am_V_of ky_124 (Nat.le_of_ble_eq_true rfl) ?_
  show am_P xs 1 tr_bodyOf 0 [some (.int 3), some (.int 2), none, none, none] [] m _
  refine w_iload_n (pc' := 1) rfl rfl rfl ?_
  refine w_ist2 (pc' := 2) rfl rfl rfl ?_
  refine w_iconst (pc' := 3) 0 rfl rfl ic_0 ?_
  refine w_ist3 (pc' := 4) rfl rfl rfl ?_
  refine w_iload_n (pc' := 5) rfl rfl rfl ?_
  refine w_bipush (pc' := 7) 7 rfl rfl bp_7 ?_
  refine w_ic_ge (t := 64) (pc' := 10) rfl (by decide) rfl (fun h7 => ?_) (fun h7 => ?_)
  · exact absurd h7 (by decide)
  · refine w_iload_n (pc' := 11) rfl rfl rfl ?_
    refine w_iconst (pc' := 12) 3 rfl rfl ic_3 ?_
    refine w_imul (pc' := 13) rfl rfl ?_
    rw [show (3 : Int32) * (3) = 9 from by decide]
    refine w_iload_n (pc' := 14) rfl rfl rfl ?_
    refine w_iadd (pc' := 15) rfl rfl ?_
    rw [show (9 : Int32) + (2) = 11 from by decide]
    refine w_ist4 (pc' := 17) rfl rfl rfl ?_
    refine w_iload_n (pc' := 18) rfl rfl rfl ?_
    refine w_if_lt (t := 35) (pc' := 21) rfl (by decide) rfl (fun h18 => ?_) (fun h18 => ?_)
    · exact absurd h18 (by decide)
    · refine w_iload (pc' := 23) rfl rfl rfl ?_
      refine w_if_lt (t := 35) (pc' := 26) rfl (by decide) rfl (fun h23 => ?_) (fun h23 => ?_)
      · exact absurd h23 (by decide)
      · refine w_iload (pc' := 28) rfl rfl rfl ?_
        refine w_gets (sid := 0) (pc' := 31) rfl rfl (fun _ => rfl) ?_
        refine w_alenR (v := 21) (pc' := 32) rfl rfl (by decide) rfl rfl ?_
        refine w_ic_lt (t := 37) (pc' := 35) rfl (by decide) rfl (fun h32 => ?_) (fun h32 => ?_)
        · refine w_gets (sid := 0) (pc' := 40) rfl rfl (fun _ => rfl) ?_
          refine w_iload (pc' := 42) rfl rfl rfl ?_
          refine w_ialdR (j := 11) (pc' := 43) rfl rfl (by decide) rfl rfl rfl (by omega) ?_
          refine w_if_eq (t := 53) (pc' := 46) rfl (by decide) rfl (fun h43 => ?_) (fun h43 => ?_)
          · exact absurd h43 (by decide)
          · refine w_gets (sid := 0) (pc' := 49) rfl rfl (fun _ => rfl) ?_
            refine w_iload (pc' := 51) rfl rfl rfl ?_
            refine w_ialdR (j := 11) (pc' := 52) rfl rfl (by decide) rfl rfl rfl (by omega) ?_
            refine w_iret rfl rfl rfl ?_
            exact ⟨rfl, rfl⟩
        · exact absurd h32 (by decide)
set_option maxRecDepth 100000 in
set_option maxHeartbeats 4000000 in
theorem v_body4_0 (xs : List Int32) (m : am_Mm) : am_V xs 2 124 [.int 4, .int 0] m (am_qi (50) (· = m)) := by
  refine am_V_of ky_124 (Nat.le_of_ble_eq_true rfl) ?_
  show am_P xs 1 tr_bodyOf 0 [some (.int 4), some (.int 0), none, none, none] [] m _
  refine w_iload_n (pc' := 1) rfl rfl rfl ?_
  refine w_ist2 (pc' := 2) rfl rfl rfl ?_
  refine w_iconst (pc' := 3) 0 rfl rfl ic_0 ?_
  refine w_ist3 (pc' := 4) rfl rfl rfl ?_
  refine w_iload_n (pc' := 5) rfl rfl rfl ?_
  refine w_bipush (pc' := 7) 7 rfl rfl bp_7 ?_
  refine w_ic_ge (t := 64) (pc' := 10) rfl (by decide) rfl (fun h7 => ?_) (fun h7 => ?_)
  · exact absurd h7 (by decide)
  · refine w_iload_n (pc' := 11) rfl rfl rfl ?_
    refine w_iconst (pc' := 12) 3 rfl rfl ic_3 ?_
    refine w_imul (pc' := 13) rfl rfl ?_
    rw [show (4 : Int32) * (3) = 12 from by decide]
    refine w_iload_n (pc' := 14) rfl rfl rfl ?_
    refine w_iadd (pc' := 15) rfl rfl ?_
    rw [show (12 : Int32) + (0) = 12 from by decide]
    refine w_ist4 (pc' := 17) rfl rfl rfl ?_
    refine w_iload_n (pc' := 18) rfl rfl rfl ?_
    refine w_if_lt (t := 35) (pc' := 21) rfl (by decide) rfl (fun h18 => ?_) (fun h18 => ?_)
    · exact absurd h18 (by decide)
    · refine w_iload (pc' := 23) rfl rfl rfl ?_
      refine w_if_lt (t := 35) (pc' := 26) rfl (by decide) rfl (fun h23 => ?_) (fun h23 => ?_)
      · exact absurd h23 (by decide)
      · refine w_iload (pc' := 28) rfl rfl rfl ?_
        refine w_gets (sid := 0) (pc' := 31) rfl rfl (fun _ => rfl) ?_
        refine w_alenR (v := 21) (pc' := 32) rfl rfl (by decide) rfl rfl ?_
        refine w_ic_lt (t := 37) (pc' := 35) rfl (by decide) rfl (fun h32 => ?_) (fun h32 => ?_)
        · refine w_gets (sid := 0) (pc' := 40) rfl rfl (fun _ => rfl) ?_
          refine w_iload (pc' := 42) rfl rfl rfl ?_
          refine w_ialdR (j := 12) (pc' := 43) rfl rfl (by decide) rfl rfl rfl (by omega) ?_
          refine w_if_eq (t := 53) (pc' := 46) rfl (by decide) rfl (fun h43 => ?_) (fun h43 => ?_)
          · exact absurd h43 (by decide)
          · refine w_gets (sid := 0) (pc' := 49) rfl rfl (fun _ => rfl) ?_
            refine w_iload (pc' := 51) rfl rfl rfl ?_
            refine w_ialdR (j := 12) (pc' := 52) rfl rfl (by decide) rfl rfl rfl (by omega) ?_
            refine w_iret rfl rfl rfl ?_
            exact ⟨rfl, rfl⟩
        · exact absurd h32 (by decide)
set_option maxRecDepth 100000 in
set_option maxHeartbeats 4000000 in
theorem v_body4_1 (xs : List Int32) (m : am_Mm) : am_V xs 2 124 [.int 4, .int 1] m (am_qi (51) (· = m)) := by
  refine am_V_of ky_124 (Nat.le_of_ble_eq_true rfl) ?_
  show am_P xs 1 tr_bodyOf 0 [some (.int 4), some (.int 1), none, none, none] [] m _
  refine w_iload_n (pc' := 1) rfl rfl rfl ?_
  refine w_ist2 (pc' := 2) rfl rfl rfl ?_
  refine w_iconst (pc' := 3) 0 rfl rfl ic_0 ?_
  refine w_ist3 (pc' := 4) rfl rfl rfl ?_
  refine w_iload_n (pc' := 5) rfl rfl rfl ?_
  refine w_bipush (pc' := 7) 7 rfl rfl bp_7 ?_
  refine w_ic_ge (t := 64) (pc' := 10) rfl (by decide) rfl (fun h7 => ?_) (fun h7 => ?_)
  · exact absurd h7 (by decide)
  · refine w_iload_n (pc' := 11) rfl rfl rfl ?_
    refine w_iconst (pc' := 12) 3 rfl rfl ic_3 ?_
    refine w_imul (pc' := 13) rfl rfl ?_
    rw [show (4 : Int32) * (3) = 12 from by decide]
    refine w_iload_n (pc' := 14) rfl rfl rfl ?_
    refine w_iadd (pc' := 15) rfl rfl ?_
    rw [show (12 : Int32) + (1) = 13 from by decide]
    refine w_ist4 (pc' := 17) rfl rfl rfl ?_
    refine w_iload_n (pc' := 18) rfl rfl rfl ?_
    refine w_if_lt (t := 35) (pc' := 21) rfl (by decide) rfl (fun h18 => ?_) (fun h18 => ?_)
    · exact absurd h18 (by decide)
    · refine w_iload (pc' := 23) rfl rfl rfl ?_
      refine w_if_lt (t := 35) (pc' := 26) rfl (by decide) rfl (fun h23 => ?_) (fun h23 => ?_)
      · exact absurd h23 (by decide)
      · refine w_iload (pc' := 28) rfl rfl rfl ?_
        refine w_gets (sid := 0) (pc' := 31) rfl rfl (fun _ => rfl) ?_
        refine w_alenR (v := 21) (pc' := 32) rfl rfl (by decide) rfl rfl ?_
        refine w_ic_lt (t := 37) (pc' := 35) rfl (by decide) rfl (fun h32 => ?_) (fun h32 => ?_)
        · refine w_gets (sid := 0) (pc' := 40) rfl rfl (fun _ => rfl) ?_
          refine w_iload (pc' := 42) rfl rfl rfl ?_
          refine w_ialdR (j := 13) (pc' := 43) rfl rfl (by decide) rfl rfl rfl (by omega) ?_
          refine w_if_eq (t := 53) (pc' := 46) rfl (by decide) rfl (fun h43 => ?_) (fun h43 => ?_)
          · exact absurd h43 (by decide)
          · refine w_gets (sid := 0) (pc' := 49) rfl rfl (fun _ => rfl) ?_
            refine w_iload (pc' := 51) rfl rfl rfl ?_
            refine w_ialdR (j := 13) (pc' := 52) rfl rfl (by decide) rfl rfl rfl (by omega) ?_
            refine w_iret rfl rfl rfl ?_
            exact ⟨rfl, rfl⟩
        · exact absurd h32 (by decide)
set_option maxRecDepth 100000 in
set_option maxHeartbeats 4000000 in
theorem v_body4_2 (xs : List Int32) (m : am_Mm) : am_V xs 2 124 [.int 4, .int 2] m (am_qi (12) (· = m)) := by
  refine am_V_of ky_124 (Nat.le_of_ble_eq_true rfl) ?_
  show am_P xs 1 tr_bodyOf 0 [some (.int 4), some (.int 2), none, none, none] [] m _
  refine w_iload_n (pc' := 1) rfl rfl rfl ?_
  refine w_ist2 (pc' := 2) rfl rfl rfl ?_
  refine w_iconst (pc' := 3) 0 rfl rfl ic_0 ?_
  refine w_ist3 (pc' := 4) rfl rfl rfl ?_
  refine w_iload_n (pc' := 5) rfl rfl rfl ?_
  refine w_bipush (pc' := 7) 7 rfl rfl bp_7 ?_
  refine w_ic_ge (t := 64) (pc' := 10) rfl (by decide) rfl (fun h7 => ?_) (fun h7 => ?_)
  · exact absurd h7 (by decide)
  · refine w_iload_n (pc' := 11) rfl rfl rfl ?_
    refine w_iconst (pc' := 12) 3 rfl rfl ic_3 ?_
    refine w_imul (pc' := 13) rfl rfl ?_
    rw [show (4 : Int32) * (3) = 12 from by decide]
    refine w_iload_n (pc' := 14) rfl rfl rfl ?_
    refine w_iadd (pc' := 15) rfl rfl ?_
    rw [show (12 : Int32) + (2) = 14 from by decide]
    refine w_ist4 (pc' := 17) rfl rfl rfl ?_
    refine w_iload_n (pc' := 18) rfl rfl rfl ?_
    refine w_if_lt (t := 35) (pc' := 21) rfl (by decide) rfl (fun h18 => ?_) (fun h18 => ?_)
    · exact absurd h18 (by decide)
    · refine w_iload (pc' := 23) rfl rfl rfl ?_
      refine w_if_lt (t := 35) (pc' := 26) rfl (by decide) rfl (fun h23 => ?_) (fun h23 => ?_)
      · exact absurd h23 (by decide)
      · refine w_iload (pc' := 28) rfl rfl rfl ?_
        refine w_gets (sid := 0) (pc' := 31) rfl rfl (fun _ => rfl) ?_
        refine w_alenR (v := 21) (pc' := 32) rfl rfl (by decide) rfl rfl ?_
        refine w_ic_lt (t := 37) (pc' := 35) rfl (by decide) rfl (fun h32 => ?_) (fun h32 => ?_)
        · refine w_gets (sid := 0) (pc' := 40) rfl rfl (fun _ => rfl) ?_
          refine w_iload (pc' := 42) rfl rfl rfl ?_
          refine w_ialdR (j := 14) (pc' := 43) rfl rfl (by decide) rfl rfl rfl (by omega) ?_
          refine w_if_eq (t := 53) (pc' := 46) rfl (by decide) rfl (fun h43 => ?_) (fun h43 => ?_)
          · refine w_iload_n (pc' := 54) rfl rfl rfl ?_
            refine w_cS1i (pc' := 57) (v_ab4 xs m) (by decide) rfl rfl rfl (Or.inr rfl) (Nat.le_of_ble_eq_true rfl) (fun m' hm' => ?_)
            rw [show m' = m from hm']
            clear hm' m'
            refine w_ist2 (pc' := 58) rfl rfl rfl ?_
            refine w_iinc3 (pc' := 61) 1 rfl rfl ic_1 rfl ?_
            rw [show (0 : Int32) + Int32.ofInt 1 = 1 from by decide]
            refine w_goto (pc' := 4) rfl (by decide) ?_
            refine w_iload_n (pc' := 5) rfl rfl rfl ?_
            refine w_bipush (pc' := 7) 7 rfl rfl bp_7 ?_
            refine w_ic_ge (t := 64) (pc' := 10) rfl (by decide) rfl (fun h7 => ?_) (fun h7 => ?_)
            · exact absurd h7 (by decide)
            · refine w_iload_n (pc' := 11) rfl rfl rfl ?_
              refine w_iconst (pc' := 12) 3 rfl rfl ic_3 ?_
              refine w_imul (pc' := 13) rfl rfl ?_
              rw [show (1 : Int32) * (3) = 3 from by decide]
              refine w_iload_n (pc' := 14) rfl rfl rfl ?_
              refine w_iadd (pc' := 15) rfl rfl ?_
              rw [show (3 : Int32) + (2) = 5 from by decide]
              refine w_ist4 (pc' := 17) rfl rfl rfl ?_
              refine w_iload_n (pc' := 18) rfl rfl rfl ?_
              refine w_if_lt (t := 35) (pc' := 21) rfl (by decide) rfl (fun h18 => ?_) (fun h18 => ?_)
              · exact absurd h18 (by decide)
              · refine w_iload (pc' := 23) rfl rfl rfl ?_
                refine w_if_lt (t := 35) (pc' := 26) rfl (by decide) rfl (fun h23 => ?_) (fun h23 => ?_)
                · exact absurd h23 (by decide)
                · refine w_iload (pc' := 28) rfl rfl rfl ?_
                  refine w_gets (sid := 0) (pc' := 31) rfl rfl (fun _ => rfl) ?_
                  refine w_alenR (v := 21) (pc' := 32) rfl rfl (by decide) rfl rfl ?_
                  refine w_ic_lt (t := 37) (pc' := 35) rfl (by decide) rfl (fun h32 => ?_) (fun h32 => ?_)
                  · refine w_gets (sid := 0) (pc' := 40) rfl rfl (fun _ => rfl) ?_
                    refine w_iload (pc' := 42) rfl rfl rfl ?_
                    refine w_ialdR (j := 5) (pc' := 43) rfl rfl (by decide) rfl rfl rfl (by omega) ?_
                    refine w_if_eq (t := 53) (pc' := 46) rfl (by decide) rfl (fun h43 => ?_) (fun h43 => ?_)
                    · refine w_iload_n (pc' := 54) rfl rfl rfl ?_
                      refine w_cS1i (pc' := 57) (v_ab1 xs m) (by decide) rfl rfl rfl (Or.inr rfl) (Nat.le_of_ble_eq_true rfl) (fun m' hm' => ?_)
                      rw [show m' = m from hm']
                      clear hm' m'
                      refine w_ist2 (pc' := 58) rfl rfl rfl ?_
                      refine w_iinc3 (pc' := 61) 1 rfl rfl ic_1 rfl ?_
                      rw [show (1 : Int32) + Int32.ofInt 1 = 2 from by decide]
                      refine w_goto (pc' := 4) rfl (by decide) ?_
                      refine w_iload_n (pc' := 5) rfl rfl rfl ?_
                      refine w_bipush (pc' := 7) 7 rfl rfl bp_7 ?_
                      refine w_ic_ge (t := 64) (pc' := 10) rfl (by decide) rfl (fun h7 => ?_) (fun h7 => ?_)
                      · exact absurd h7 (by decide)
                      · refine w_iload_n (pc' := 11) rfl rfl rfl ?_
                        refine w_iconst (pc' := 12) 3 rfl rfl ic_3 ?_
                        refine w_imul (pc' := 13) rfl rfl ?_
                        rw [show (0 : Int32) * (3) = 0 from by decide]
                        refine w_iload_n (pc' := 14) rfl rfl rfl ?_
                        refine w_iadd (pc' := 15) rfl rfl ?_
                        rw [show (0 : Int32) + (2) = 2 from by decide]
                        refine w_ist4 (pc' := 17) rfl rfl rfl ?_
                        refine w_iload_n (pc' := 18) rfl rfl rfl ?_
                        refine w_if_lt (t := 35) (pc' := 21) rfl (by decide) rfl (fun h18 => ?_) (fun h18 => ?_)
                        · exact absurd h18 (by decide)
                        · refine w_iload (pc' := 23) rfl rfl rfl ?_
                          refine w_if_lt (t := 35) (pc' := 26) rfl (by decide) rfl (fun h23 => ?_) (fun h23 => ?_)
                          · exact absurd h23 (by decide)
                          · refine w_iload (pc' := 28) rfl rfl rfl ?_
                            refine w_gets (sid := 0) (pc' := 31) rfl rfl (fun _ => rfl) ?_
                            refine w_alenR (v := 21) (pc' := 32) rfl rfl (by decide) rfl rfl ?_
                            refine w_ic_lt (t := 37) (pc' := 35) rfl (by decide) rfl (fun h32 => ?_) (fun h32 => ?_)
                            · refine w_gets (sid := 0) (pc' := 40) rfl rfl (fun _ => rfl) ?_
                              refine w_iload (pc' := 42) rfl rfl rfl ?_
                              refine w_ialdR (j := 2) (pc' := 43) rfl rfl (by decide) rfl rfl rfl (by omega) ?_
                              refine w_if_eq (t := 53) (pc' := 46) rfl (by decide) rfl (fun h43 => ?_) (fun h43 => ?_)
                              · exact absurd h43 (by decide)
                              · refine w_gets (sid := 0) (pc' := 49) rfl rfl (fun _ => rfl) ?_
                                refine w_iload (pc' := 51) rfl rfl rfl ?_
                                refine w_ialdR (j := 2) (pc' := 52) rfl rfl (by decide) rfl rfl rfl (by omega) ?_
                                refine w_iret rfl rfl rfl ?_
                                exact ⟨rfl, rfl⟩
                            · exact absurd h32 (by decide)
                    · exact absurd h43 (by decide)
                  · exact absurd h32 (by decide)
          · exact absurd h43 (by decide)
        · exact absurd h32 (by decide)
set_option maxRecDepth 100000 in
set_option maxHeartbeats 4000000 in
theorem v_body5_0 (xs : List Int32) (m : am_Mm) : am_V xs 2 124 [.int 5, .int 0] m (am_qi (30) (· = m)) := by
  refine am_V_of ky_124 (Nat.le_of_ble_eq_true rfl) ?_
  show am_P xs 1 tr_bodyOf 0 [some (.int 5), some (.int 0), none, none, none] [] m _
  refine w_iload_n (pc' := 1) rfl rfl rfl ?_
  refine w_ist2 (pc' := 2) rfl rfl rfl ?_
  refine w_iconst (pc' := 3) 0 rfl rfl ic_0 ?_
  refine w_ist3 (pc' := 4) rfl rfl rfl ?_
  refine w_iload_n (pc' := 5) rfl rfl rfl ?_
  refine w_bipush (pc' := 7) 7 rfl rfl bp_7 ?_
  refine w_ic_ge (t := 64) (pc' := 10) rfl (by decide) rfl (fun h7 => ?_) (fun h7 => ?_)
  · exact absurd h7 (by decide)
  · refine w_iload_n (pc' := 11) rfl rfl rfl ?_
    refine w_iconst (pc' := 12) 3 rfl rfl ic_3 ?_
    refine w_imul (pc' := 13) rfl rfl ?_
    rw [show (5 : Int32) * (3) = 15 from by decide]
    refine w_iload_n (pc' := 14) rfl rfl rfl ?_
    refine w_iadd (pc' := 15) rfl rfl ?_
    rw [show (15 : Int32) + (0) = 15 from by decide]
    refine w_ist4 (pc' := 17) rfl rfl rfl ?_
    refine w_iload_n (pc' := 18) rfl rfl rfl ?_
    refine w_if_lt (t := 35) (pc' := 21) rfl (by decide) rfl (fun h18 => ?_) (fun h18 => ?_)
    · exact absurd h18 (by decide)
    · refine w_iload (pc' := 23) rfl rfl rfl ?_
      refine w_if_lt (t := 35) (pc' := 26) rfl (by decide) rfl (fun h23 => ?_) (fun h23 => ?_)
      · exact absurd h23 (by decide)
      · refine w_iload (pc' := 28) rfl rfl rfl ?_
        refine w_gets (sid := 0) (pc' := 31) rfl rfl (fun _ => rfl) ?_
        refine w_alenR (v := 21) (pc' := 32) rfl rfl (by decide) rfl rfl ?_
        refine w_ic_lt (t := 37) (pc' := 35) rfl (by decide) rfl (fun h32 => ?_) (fun h32 => ?_)
        · refine w_gets (sid := 0) (pc' := 40) rfl rfl (fun _ => rfl) ?_
          refine w_iload (pc' := 42) rfl rfl rfl ?_
          refine w_ialdR (j := 15) (pc' := 43) rfl rfl (by decide) rfl rfl rfl (by omega) ?_
          refine w_if_eq (t := 53) (pc' := 46) rfl (by decide) rfl (fun h43 => ?_) (fun h43 => ?_)
          · refine w_iload_n (pc' := 54) rfl rfl rfl ?_
            refine w_cS1i (pc' := 57) (v_ab5 xs m) (by decide) rfl rfl rfl (Or.inr rfl) (Nat.le_of_ble_eq_true rfl) (fun m' hm' => ?_)
            rw [show m' = m from hm']
            clear hm' m'
            refine w_ist2 (pc' := 58) rfl rfl rfl ?_
            refine w_iinc3 (pc' := 61) 1 rfl rfl ic_1 rfl ?_
            rw [show (0 : Int32) + Int32.ofInt 1 = 1 from by decide]
            refine w_goto (pc' := 4) rfl (by decide) ?_
            refine w_iload_n (pc' := 5) rfl rfl rfl ?_
            refine w_bipush (pc' := 7) 7 rfl rfl bp_7 ?_
            refine w_ic_ge (t := 64) (pc' := 10) rfl (by decide) rfl (fun h7 => ?_) (fun h7 => ?_)
            · exact absurd h7 (by decide)
            · refine w_iload_n (pc' := 11) rfl rfl rfl ?_
              refine w_iconst (pc' := 12) 3 rfl rfl ic_3 ?_
              refine w_imul (pc' := 13) rfl rfl ?_
              rw [show (2 : Int32) * (3) = 6 from by decide]
              refine w_iload_n (pc' := 14) rfl rfl rfl ?_
              refine w_iadd (pc' := 15) rfl rfl ?_
              rw [show (6 : Int32) + (0) = 6 from by decide]
              refine w_ist4 (pc' := 17) rfl rfl rfl ?_
              refine w_iload_n (pc' := 18) rfl rfl rfl ?_
              refine w_if_lt (t := 35) (pc' := 21) rfl (by decide) rfl (fun h18 => ?_) (fun h18 => ?_)
              · exact absurd h18 (by decide)
              · refine w_iload (pc' := 23) rfl rfl rfl ?_
                refine w_if_lt (t := 35) (pc' := 26) rfl (by decide) rfl (fun h23 => ?_) (fun h23 => ?_)
                · exact absurd h23 (by decide)
                · refine w_iload (pc' := 28) rfl rfl rfl ?_
                  refine w_gets (sid := 0) (pc' := 31) rfl rfl (fun _ => rfl) ?_
                  refine w_alenR (v := 21) (pc' := 32) rfl rfl (by decide) rfl rfl ?_
                  refine w_ic_lt (t := 37) (pc' := 35) rfl (by decide) rfl (fun h32 => ?_) (fun h32 => ?_)
                  · refine w_gets (sid := 0) (pc' := 40) rfl rfl (fun _ => rfl) ?_
                    refine w_iload (pc' := 42) rfl rfl rfl ?_
                    refine w_ialdR (j := 6) (pc' := 43) rfl rfl (by decide) rfl rfl rfl (by omega) ?_
                    refine w_if_eq (t := 53) (pc' := 46) rfl (by decide) rfl (fun h43 => ?_) (fun h43 => ?_)
                    · exact absurd h43 (by decide)
                    · refine w_gets (sid := 0) (pc' := 49) rfl rfl (fun _ => rfl) ?_
                      refine w_iload (pc' := 51) rfl rfl rfl ?_
                      refine w_ialdR (j := 6) (pc' := 52) rfl rfl (by decide) rfl rfl rfl (by omega) ?_
                      refine w_iret rfl rfl rfl ?_
                      exact ⟨rfl, rfl⟩
                  · exact absurd h32 (by decide)
          · exact absurd h43 (by decide)
        · exact absurd h32 (by decide)
set_option maxRecDepth 100000 in
set_option maxHeartbeats 4000000 in
theorem v_body5_1 (xs : List Int32) (m : am_Mm) : am_V xs 2 124 [.int 5, .int 1] m (am_qi (11) (· = m)) := by
  refine am_V_of ky_124 (Nat.le_of_ble_eq_true rfl) ?_
  show am_P xs 1 tr_bodyOf 0 [some (.int 5), some (.int 1), none, none, none] [] m _
  refine w_iload_n (pc' := 1) rfl rfl rfl ?_
  refine w_ist2 (pc' := 2) rfl rfl rfl ?_
  refine w_iconst (pc' := 3) 0 rfl rfl ic_0 ?_
  refine w_ist3 (pc' := 4) rfl rfl rfl ?_
  refine w_iload_n (pc' := 5) rfl rfl rfl ?_
  refine w_bipush (pc' := 7) 7 rfl rfl bp_7 ?_
  refine w_ic_ge (t := 64) (pc' := 10) rfl (by decide) rfl (fun h7 => ?_) (fun h7 => ?_)
  · exact absurd h7 (by decide)
  · refine w_iload_n (pc' := 11) rfl rfl rfl ?_
    refine w_iconst (pc' := 12) 3 rfl rfl ic_3 ?_
    refine w_imul (pc' := 13) rfl rfl ?_
    rw [show (5 : Int32) * (3) = 15 from by decide]
    refine w_iload_n (pc' := 14) rfl rfl rfl ?_
    refine w_iadd (pc' := 15) rfl rfl ?_
    rw [show (15 : Int32) + (1) = 16 from by decide]
    refine w_ist4 (pc' := 17) rfl rfl rfl ?_
    refine w_iload_n (pc' := 18) rfl rfl rfl ?_
    refine w_if_lt (t := 35) (pc' := 21) rfl (by decide) rfl (fun h18 => ?_) (fun h18 => ?_)
    · exact absurd h18 (by decide)
    · refine w_iload (pc' := 23) rfl rfl rfl ?_
      refine w_if_lt (t := 35) (pc' := 26) rfl (by decide) rfl (fun h23 => ?_) (fun h23 => ?_)
      · exact absurd h23 (by decide)
      · refine w_iload (pc' := 28) rfl rfl rfl ?_
        refine w_gets (sid := 0) (pc' := 31) rfl rfl (fun _ => rfl) ?_
        refine w_alenR (v := 21) (pc' := 32) rfl rfl (by decide) rfl rfl ?_
        refine w_ic_lt (t := 37) (pc' := 35) rfl (by decide) rfl (fun h32 => ?_) (fun h32 => ?_)
        · refine w_gets (sid := 0) (pc' := 40) rfl rfl (fun _ => rfl) ?_
          refine w_iload (pc' := 42) rfl rfl rfl ?_
          refine w_ialdR (j := 16) (pc' := 43) rfl rfl (by decide) rfl rfl rfl (by omega) ?_
          refine w_if_eq (t := 53) (pc' := 46) rfl (by decide) rfl (fun h43 => ?_) (fun h43 => ?_)
          · refine w_iload_n (pc' := 54) rfl rfl rfl ?_
            refine w_cS1i (pc' := 57) (v_ab5 xs m) (by decide) rfl rfl rfl (Or.inr rfl) (Nat.le_of_ble_eq_true rfl) (fun m' hm' => ?_)
            rw [show m' = m from hm']
            clear hm' m'
            refine w_ist2 (pc' := 58) rfl rfl rfl ?_
            refine w_iinc3 (pc' := 61) 1 rfl rfl ic_1 rfl ?_
            rw [show (0 : Int32) + Int32.ofInt 1 = 1 from by decide]
            refine w_goto (pc' := 4) rfl (by decide) ?_
            refine w_iload_n (pc' := 5) rfl rfl rfl ?_
            refine w_bipush (pc' := 7) 7 rfl rfl bp_7 ?_
            refine w_ic_ge (t := 64) (pc' := 10) rfl (by decide) rfl (fun h7 => ?_) (fun h7 => ?_)
            · exact absurd h7 (by decide)
            · refine w_iload_n (pc' := 11) rfl rfl rfl ?_
              refine w_iconst (pc' := 12) 3 rfl rfl ic_3 ?_
              refine w_imul (pc' := 13) rfl rfl ?_
              rw [show (2 : Int32) * (3) = 6 from by decide]
              refine w_iload_n (pc' := 14) rfl rfl rfl ?_
              refine w_iadd (pc' := 15) rfl rfl ?_
              rw [show (6 : Int32) + (1) = 7 from by decide]
              refine w_ist4 (pc' := 17) rfl rfl rfl ?_
              refine w_iload_n (pc' := 18) rfl rfl rfl ?_
              refine w_if_lt (t := 35) (pc' := 21) rfl (by decide) rfl (fun h18 => ?_) (fun h18 => ?_)
              · exact absurd h18 (by decide)
              · refine w_iload (pc' := 23) rfl rfl rfl ?_
                refine w_if_lt (t := 35) (pc' := 26) rfl (by decide) rfl (fun h23 => ?_) (fun h23 => ?_)
                · exact absurd h23 (by decide)
                · refine w_iload (pc' := 28) rfl rfl rfl ?_
                  refine w_gets (sid := 0) (pc' := 31) rfl rfl (fun _ => rfl) ?_
                  refine w_alenR (v := 21) (pc' := 32) rfl rfl (by decide) rfl rfl ?_
                  refine w_ic_lt (t := 37) (pc' := 35) rfl (by decide) rfl (fun h32 => ?_) (fun h32 => ?_)
                  · refine w_gets (sid := 0) (pc' := 40) rfl rfl (fun _ => rfl) ?_
                    refine w_iload (pc' := 42) rfl rfl rfl ?_
                    refine w_ialdR (j := 7) (pc' := 43) rfl rfl (by decide) rfl rfl rfl (by omega) ?_
                    refine w_if_eq (t := 53) (pc' := 46) rfl (by decide) rfl (fun h43 => ?_) (fun h43 => ?_)
                    · refine w_iload_n (pc' := 54) rfl rfl rfl ?_
                      refine w_cS1i (pc' := 57) (v_ab2 xs m) (by decide) rfl rfl rfl (Or.inr rfl) (Nat.le_of_ble_eq_true rfl) (fun m' hm' => ?_)
                      rw [show m' = m from hm']
                      clear hm' m'
                      refine w_ist2 (pc' := 58) rfl rfl rfl ?_
                      refine w_iinc3 (pc' := 61) 1 rfl rfl ic_1 rfl ?_
                      rw [show (1 : Int32) + Int32.ofInt 1 = 2 from by decide]
                      refine w_goto (pc' := 4) rfl (by decide) ?_
                      refine w_iload_n (pc' := 5) rfl rfl rfl ?_
                      refine w_bipush (pc' := 7) 7 rfl rfl bp_7 ?_
                      refine w_ic_ge (t := 64) (pc' := 10) rfl (by decide) rfl (fun h7 => ?_) (fun h7 => ?_)
                      · exact absurd h7 (by decide)
                      · refine w_iload_n (pc' := 11) rfl rfl rfl ?_
                        refine w_iconst (pc' := 12) 3 rfl rfl ic_3 ?_
                        refine w_imul (pc' := 13) rfl rfl ?_
                        rw [show (0 : Int32) * (3) = 0 from by decide]
                        refine w_iload_n (pc' := 14) rfl rfl rfl ?_
                        refine w_iadd (pc' := 15) rfl rfl ?_
                        rw [show (0 : Int32) + (1) = 1 from by decide]
                        refine w_ist4 (pc' := 17) rfl rfl rfl ?_
                        refine w_iload_n (pc' := 18) rfl rfl rfl ?_
                        refine w_if_lt (t := 35) (pc' := 21) rfl (by decide) rfl (fun h18 => ?_) (fun h18 => ?_)
                        · exact absurd h18 (by decide)
                        · refine w_iload (pc' := 23) rfl rfl rfl ?_
                          refine w_if_lt (t := 35) (pc' := 26) rfl (by decide) rfl (fun h23 => ?_) (fun h23 => ?_)
                          · exact absurd h23 (by decide)
                          · refine w_iload (pc' := 28) rfl rfl rfl ?_
                            refine w_gets (sid := 0) (pc' := 31) rfl rfl (fun _ => rfl) ?_
                            refine w_alenR (v := 21) (pc' := 32) rfl rfl (by decide) rfl rfl ?_
                            refine w_ic_lt (t := 37) (pc' := 35) rfl (by decide) rfl (fun h32 => ?_) (fun h32 => ?_)
                            · refine w_gets (sid := 0) (pc' := 40) rfl rfl (fun _ => rfl) ?_
                              refine w_iload (pc' := 42) rfl rfl rfl ?_
                              refine w_ialdR (j := 1) (pc' := 43) rfl rfl (by decide) rfl rfl rfl (by omega) ?_
                              refine w_if_eq (t := 53) (pc' := 46) rfl (by decide) rfl (fun h43 => ?_) (fun h43 => ?_)
                              · exact absurd h43 (by decide)
                              · refine w_gets (sid := 0) (pc' := 49) rfl rfl (fun _ => rfl) ?_
                                refine w_iload (pc' := 51) rfl rfl rfl ?_
                                refine w_ialdR (j := 1) (pc' := 52) rfl rfl (by decide) rfl rfl rfl (by omega) ?_
                                refine w_iret rfl rfl rfl ?_
                                exact ⟨rfl, rfl⟩
                            · exact absurd h32 (by decide)
                    · exact absurd h43 (by decide)
                  · exact absurd h32 (by decide)
          · exact absurd h43 (by decide)
        · exact absurd h32 (by decide)
set_option maxRecDepth 100000 in
set_option maxHeartbeats 4000000 in
theorem v_body5_2 (xs : List Int32) (m : am_Mm) : am_V xs 2 124 [.int 5, .int 2] m (am_qi (60) (· = m)) := by
  refine am_V_of ky_124 (Nat.le_of_ble_eq_true rfl) ?_
  show am_P xs 1 tr_bodyOf 0 [some (.int 5), some (.int 2), none, none, none] [] m _
  refine w_iload_n (pc' := 1) rfl rfl rfl ?_
  refine w_ist2 (pc' := 2) rfl rfl rfl ?_
  refine w_iconst (pc' := 3) 0 rfl rfl ic_0 ?_
  refine w_ist3 (pc' := 4) rfl rfl rfl ?_
  refine w_iload_n (pc' := 5) rfl rfl rfl ?_
  refine w_bipush (pc' := 7) 7 rfl rfl bp_7 ?_
  refine w_ic_ge (t := 64) (pc' := 10) rfl (by decide) rfl (fun h7 => ?_) (fun h7 => ?_)
  · exact absurd h7 (by decide)
  · refine w_iload_n (pc' := 11) rfl rfl rfl ?_
    refine w_iconst (pc' := 12) 3 rfl rfl ic_3 ?_
    refine w_imul (pc' := 13) rfl rfl ?_
    rw [show (5 : Int32) * (3) = 15 from by decide]
    refine w_iload_n (pc' := 14) rfl rfl rfl ?_
    refine w_iadd (pc' := 15) rfl rfl ?_
    rw [show (15 : Int32) + (2) = 17 from by decide]
    refine w_ist4 (pc' := 17) rfl rfl rfl ?_
    refine w_iload_n (pc' := 18) rfl rfl rfl ?_
    refine w_if_lt (t := 35) (pc' := 21) rfl (by decide) rfl (fun h18 => ?_) (fun h18 => ?_)
    · exact absurd h18 (by decide)
    · refine w_iload (pc' := 23) rfl rfl rfl ?_
      refine w_if_lt (t := 35) (pc' := 26) rfl (by decide) rfl (fun h23 => ?_) (fun h23 => ?_)
      · exact absurd h23 (by decide)
      · refine w_iload (pc' := 28) rfl rfl rfl ?_
        refine w_gets (sid := 0) (pc' := 31) rfl rfl (fun _ => rfl) ?_
        refine w_alenR (v := 21) (pc' := 32) rfl rfl (by decide) rfl rfl ?_
        refine w_ic_lt (t := 37) (pc' := 35) rfl (by decide) rfl (fun h32 => ?_) (fun h32 => ?_)
        · refine w_gets (sid := 0) (pc' := 40) rfl rfl (fun _ => rfl) ?_
          refine w_iload (pc' := 42) rfl rfl rfl ?_
          refine w_ialdR (j := 17) (pc' := 43) rfl rfl (by decide) rfl rfl rfl (by omega) ?_
          refine w_if_eq (t := 53) (pc' := 46) rfl (by decide) rfl (fun h43 => ?_) (fun h43 => ?_)
          · exact absurd h43 (by decide)
          · refine w_gets (sid := 0) (pc' := 49) rfl rfl (fun _ => rfl) ?_
            refine w_iload (pc' := 51) rfl rfl rfl ?_
            refine w_ialdR (j := 17) (pc' := 52) rfl rfl (by decide) rfl rfl rfl (by omega) ?_
            refine w_iret rfl rfl rfl ?_
            exact ⟨rfl, rfl⟩
        · exact absurd h32 (by decide)
set_option maxRecDepth 100000 in
set_option maxHeartbeats 4000000 in
theorem v_body6_0 (xs : List Int32) (m : am_Mm) : am_V xs 2 124 [.int 6, .int 0] m (am_qi (71) (· = m)) := by
  refine am_V_of ky_124 (Nat.le_of_ble_eq_true rfl) ?_
  show am_P xs 1 tr_bodyOf 0 [some (.int 6), some (.int 0), none, none, none] [] m _
  refine w_iload_n (pc' := 1) rfl rfl rfl ?_
  refine w_ist2 (pc' := 2) rfl rfl rfl ?_
  refine w_iconst (pc' := 3) 0 rfl rfl ic_0 ?_
  refine w_ist3 (pc' := 4) rfl rfl rfl ?_
  refine w_iload_n (pc' := 5) rfl rfl rfl ?_
  refine w_bipush (pc' := 7) 7 rfl rfl bp_7 ?_
  refine w_ic_ge (t := 64) (pc' := 10) rfl (by decide) rfl (fun h7 => ?_) (fun h7 => ?_)
  · exact absurd h7 (by decide)
  · refine w_iload_n (pc' := 11) rfl rfl rfl ?_
    refine w_iconst (pc' := 12) 3 rfl rfl ic_3 ?_
    refine w_imul (pc' := 13) rfl rfl ?_
    rw [show (6 : Int32) * (3) = 18 from by decide]
    refine w_iload_n (pc' := 14) rfl rfl rfl ?_
    refine w_iadd (pc' := 15) rfl rfl ?_
    rw [show (18 : Int32) + (0) = 18 from by decide]
    refine w_ist4 (pc' := 17) rfl rfl rfl ?_
    refine w_iload_n (pc' := 18) rfl rfl rfl ?_
    refine w_if_lt (t := 35) (pc' := 21) rfl (by decide) rfl (fun h18 => ?_) (fun h18 => ?_)
    · exact absurd h18 (by decide)
    · refine w_iload (pc' := 23) rfl rfl rfl ?_
      refine w_if_lt (t := 35) (pc' := 26) rfl (by decide) rfl (fun h23 => ?_) (fun h23 => ?_)
      · exact absurd h23 (by decide)
      · refine w_iload (pc' := 28) rfl rfl rfl ?_
        refine w_gets (sid := 0) (pc' := 31) rfl rfl (fun _ => rfl) ?_
        refine w_alenR (v := 21) (pc' := 32) rfl rfl (by decide) rfl rfl ?_
        refine w_ic_lt (t := 37) (pc' := 35) rfl (by decide) rfl (fun h32 => ?_) (fun h32 => ?_)
        · refine w_gets (sid := 0) (pc' := 40) rfl rfl (fun _ => rfl) ?_
          refine w_iload (pc' := 42) rfl rfl rfl ?_
          refine w_ialdR (j := 18) (pc' := 43) rfl rfl (by decide) rfl rfl rfl (by omega) ?_
          refine w_if_eq (t := 53) (pc' := 46) rfl (by decide) rfl (fun h43 => ?_) (fun h43 => ?_)
          · exact absurd h43 (by decide)
          · refine w_gets (sid := 0) (pc' := 49) rfl rfl (fun _ => rfl) ?_
            refine w_iload (pc' := 51) rfl rfl rfl ?_
            refine w_ialdR (j := 18) (pc' := 52) rfl rfl (by decide) rfl rfl rfl (by omega) ?_
            refine w_iret rfl rfl rfl ?_
            exact ⟨rfl, rfl⟩
        · exact absurd h32 (by decide)
set_option maxRecDepth 100000 in
set_option maxHeartbeats 4000000 in
theorem v_body6_1 (xs : List Int32) (m : am_Mm) : am_V xs 2 124 [.int 6, .int 1] m (am_qi (70) (· = m)) := by
  refine am_V_of ky_124 (Nat.le_of_ble_eq_true rfl) ?_
  show am_P xs 1 tr_bodyOf 0 [some (.int 6), some (.int 1), none, none, none] [] m _
  refine w_iload_n (pc' := 1) rfl rfl rfl ?_
  refine w_ist2 (pc' := 2) rfl rfl rfl ?_
  refine w_iconst (pc' := 3) 0 rfl rfl ic_0 ?_
  refine w_ist3 (pc' := 4) rfl rfl rfl ?_
  refine w_iload_n (pc' := 5) rfl rfl rfl ?_
  refine w_bipush (pc' := 7) 7 rfl rfl bp_7 ?_
  refine w_ic_ge (t := 64) (pc' := 10) rfl (by decide) rfl (fun h7 => ?_) (fun h7 => ?_)
  · exact absurd h7 (by decide)
  · refine w_iload_n (pc' := 11) rfl rfl rfl ?_
    refine w_iconst (pc' := 12) 3 rfl rfl ic_3 ?_
    refine w_imul (pc' := 13) rfl rfl ?_
    rw [show (6 : Int32) * (3) = 18 from by decide]
    refine w_iload_n (pc' := 14) rfl rfl rfl ?_
    refine w_iadd (pc' := 15) rfl rfl ?_
    rw [show (18 : Int32) + (1) = 19 from by decide]
    refine w_ist4 (pc' := 17) rfl rfl rfl ?_
    refine w_iload_n (pc' := 18) rfl rfl rfl ?_
    refine w_if_lt (t := 35) (pc' := 21) rfl (by decide) rfl (fun h18 => ?_) (fun h18 => ?_)
    · exact absurd h18 (by decide)
    · refine w_iload (pc' := 23) rfl rfl rfl ?_
      refine w_if_lt (t := 35) (pc' := 26) rfl (by decide) rfl (fun h23 => ?_) (fun h23 => ?_)
      · exact absurd h23 (by decide)
      · refine w_iload (pc' := 28) rfl rfl rfl ?_
        refine w_gets (sid := 0) (pc' := 31) rfl rfl (fun _ => rfl) ?_
        refine w_alenR (v := 21) (pc' := 32) rfl rfl (by decide) rfl rfl ?_
        refine w_ic_lt (t := 37) (pc' := 35) rfl (by decide) rfl (fun h32 => ?_) (fun h32 => ?_)
        · refine w_gets (sid := 0) (pc' := 40) rfl rfl (fun _ => rfl) ?_
          refine w_iload (pc' := 42) rfl rfl rfl ?_
          refine w_ialdR (j := 19) (pc' := 43) rfl rfl (by decide) rfl rfl rfl (by omega) ?_
          refine w_if_eq (t := 53) (pc' := 46) rfl (by decide) rfl (fun h43 => ?_) (fun h43 => ?_)
          · exact absurd h43 (by decide)
          · refine w_gets (sid := 0) (pc' := 49) rfl rfl (fun _ => rfl) ?_
            refine w_iload (pc' := 51) rfl rfl rfl ?_
            refine w_ialdR (j := 19) (pc' := 52) rfl rfl (by decide) rfl rfl rfl (by omega) ?_
            refine w_iret rfl rfl rfl ?_
            exact ⟨rfl, rfl⟩
        · exact absurd h32 (by decide)
set_option maxRecDepth 100000 in
set_option maxHeartbeats 4000000 in
theorem v_body6_2 (xs : List Int32) (m : am_Mm) : am_V xs 2 124 [.int 6, .int 2] m (am_qi (40) (· = m)) := by
  refine am_V_of ky_124 (Nat.le_of_ble_eq_true rfl) ?_
  show am_P xs 1 tr_bodyOf 0 [some (.int 6), some (.int 2), none, none, none] [] m _
  refine w_iload_n (pc' := 1) rfl rfl rfl ?_
  refine w_ist2 (pc' := 2) rfl rfl rfl ?_
  refine w_iconst (pc' := 3) 0 rfl rfl ic_0 ?_
  refine w_ist3 (pc' := 4) rfl rfl rfl ?_
  refine w_iload_n (pc' := 5) rfl rfl rfl ?_
  refine w_bipush (pc' := 7) 7 rfl rfl bp_7 ?_
  refine w_ic_ge (t := 64) (pc' := 10) rfl (by decide) rfl (fun h7 => ?_) (fun h7 => ?_)
  · exact absurd h7 (by decide)
  · refine w_iload_n (pc' := 11) rfl rfl rfl ?_
    refine w_iconst (pc' := 12) 3 rfl rfl ic_3 ?_
    refine w_imul (pc' := 13) rfl rfl ?_
    rw [show (6 : Int32) * (3) = 18 from by decide]
    refine w_iload_n (pc' := 14) rfl rfl rfl ?_
    refine w_iadd (pc' := 15) rfl rfl ?_
    rw [show (18 : Int32) + (2) = 20 from by decide]
    refine w_ist4 (pc' := 17) rfl rfl rfl ?_
    refine w_iload_n (pc' := 18) rfl rfl rfl ?_
    refine w_if_lt (t := 35) (pc' := 21) rfl (by decide) rfl (fun h18 => ?_) (fun h18 => ?_)
    · exact absurd h18 (by decide)
    · refine w_iload (pc' := 23) rfl rfl rfl ?_
      refine w_if_lt (t := 35) (pc' := 26) rfl (by decide) rfl (fun h23 => ?_) (fun h23 => ?_)
      · exact absurd h23 (by decide)
      · refine w_iload (pc' := 28) rfl rfl rfl ?_
        refine w_gets (sid := 0) (pc' := 31) rfl rfl (fun _ => rfl) ?_
        refine w_alenR (v := 21) (pc' := 32) rfl rfl (by decide) rfl rfl ?_
        refine w_ic_lt (t := 37) (pc' := 35) rfl (by decide) rfl (fun h32 => ?_) (fun h32 => ?_)
        · refine w_gets (sid := 0) (pc' := 40) rfl rfl (fun _ => rfl) ?_
          refine w_iload (pc' := 42) rfl rfl rfl ?_
          refine w_ialdR (j := 20) (pc' := 43) rfl rfl (by decide) rfl rfl rfl (by omega) ?_
          refine w_if_eq (t := 53) (pc' := 46) rfl (by decide) rfl (fun h43 => ?_) (fun h43 => ?_)
          · refine w_iload_n (pc' := 54) rfl rfl rfl ?_
            refine w_cS1i (pc' := 57) (v_ab6 xs m) (by decide) rfl rfl rfl (Or.inr rfl) (Nat.le_of_ble_eq_true rfl) (fun m' hm' => ?_)
            rw [show m' = m from hm']
            clear hm' m'
            refine w_ist2 (pc' := 58) rfl rfl rfl ?_
            refine w_iinc3 (pc' := 61) 1 rfl rfl ic_1 rfl ?_
            rw [show (0 : Int32) + Int32.ofInt 1 = 1 from by decide]
            refine w_goto (pc' := 4) rfl (by decide) ?_
            refine w_iload_n (pc' := 5) rfl rfl rfl ?_
            refine w_bipush (pc' := 7) 7 rfl rfl bp_7 ?_
            refine w_ic_ge (t := 64) (pc' := 10) rfl (by decide) rfl (fun h7 => ?_) (fun h7 => ?_)
            · exact absurd h7 (by decide)
            · refine w_iload_n (pc' := 11) rfl rfl rfl ?_
              refine w_iconst (pc' := 12) 3 rfl rfl ic_3 ?_
              refine w_imul (pc' := 13) rfl rfl ?_
              rw [show (3 : Int32) * (3) = 9 from by decide]
              refine w_iload_n (pc' := 14) rfl rfl rfl ?_
              refine w_iadd (pc' := 15) rfl rfl ?_
              rw [show (9 : Int32) + (2) = 11 from by decide]
              refine w_ist4 (pc' := 17) rfl rfl rfl ?_
              refine w_iload_n (pc' := 18) rfl rfl rfl ?_
              refine w_if_lt (t := 35) (pc' := 21) rfl (by decide) rfl (fun h18 => ?_) (fun h18 => ?_)
              · exact absurd h18 (by decide)
              · refine w_iload (pc' := 23) rfl rfl rfl ?_
                refine w_if_lt (t := 35) (pc' := 26) rfl (by decide) rfl (fun h23 => ?_) (fun h23 => ?_)
                · exact absurd h23 (by decide)
                · refine w_iload (pc' := 28) rfl rfl rfl ?_
                  refine w_gets (sid := 0) (pc' := 31) rfl rfl (fun _ => rfl) ?_
                  refine w_alenR (v := 21) (pc' := 32) rfl rfl (by decide) rfl rfl ?_
                  refine w_ic_lt (t := 37) (pc' := 35) rfl (by decide) rfl (fun h32 => ?_) (fun h32 => ?_)
                  · refine w_gets (sid := 0) (pc' := 40) rfl rfl (fun _ => rfl) ?_
                    refine w_iload (pc' := 42) rfl rfl rfl ?_
                    refine w_ialdR (j := 11) (pc' := 43) rfl rfl (by decide) rfl rfl rfl (by omega) ?_
                    refine w_if_eq (t := 53) (pc' := 46) rfl (by decide) rfl (fun h43 => ?_) (fun h43 => ?_)
                    · exact absurd h43 (by decide)
                    · refine w_gets (sid := 0) (pc' := 49) rfl rfl (fun _ => rfl) ?_
                      refine w_iload (pc' := 51) rfl rfl rfl ?_
                      refine w_ialdR (j := 11) (pc' := 52) rfl rfl (by decide) rfl rfl rfl (by omega) ?_
                      refine w_iret rfl rfl rfl ?_
                      exact ⟨rfl, rfl⟩
                  · exact absurd h32 (by decide)
          · exact absurd h43 (by decide)
        · exact absurd h32 (by decide)
/-- THE TRACE as it is -/
def q_Rt (T : q_T) (m : am_Mm) : Prop := m.1 120 1 = nI (T.1 153 38) ∧ ∀ i, i < 20 → i < T.1 153 38 → m.1 121 i = nI (T.1 178 i)
def q_Ft (m m' : am_Mm) : Prop := (∀ c, c ≠ 120 → c ≠ 121 → m'.1 c = m.1 c) ∧ ((∀ k, k ≠ 1 → m'.1 120 k = m.1 120 k) ∧ m'.2 = m.2)
theorem q_Ft.rf {m : am_Mm} : q_Ft m m := ⟨fun _ _ _ => rfl, fun _ _ => rfl, rfl⟩
theorem q_Ft.tr {m m' m'' : am_Mm} (h : q_Ft m m') (h' : q_Ft m' m'') : q_Ft m m'' := ⟨fun c a b => (h'.1 c a b).trans (h.1 c a b), fun k a => (h'.2.1 k a).trans (h.2.1 k a), h'.2.2.trans h.2.2⟩
theorem q_Rt.ran {T : q_T} {m : am_Mm} {b : Nat} (h : q_Rt T m) : q_Rt (q_ran T b) (am_u (if T.1 153 38 < 20 then am_u m 121 (T.1 153 38) (nI b) else m) 120 1 (nI (T.1 153 38 + 1))) ∧ q_Ft m (am_u (if T.1 153 38 < 20 then am_u m 121 (T.1 153 38) (nI b) else m) 120 1 (nI (T.1 153 38 + 1))) := by
  have e38 : (q_ran T b).1 153 38 = T.1 153 38 + 1 := q_Tu_eq
  by_cases g : T.1 153 38 < 20
  · have er : q_ran T b = q_Tu (q_Tu T 178 (T.1 153 38) b) 153 38 (T.1 153 38 + 1) := by
      unfold q_ran
      rw [if_pos g]
    rw [if_pos g]
    refine ⟨⟨?_, fun i h1 h2 => ?_⟩, fun c a b => (am_u_nc a).trans (am_u_nc b), fun k a => (am_u_ne (by omega)).trans (am_u_ne (by omega)), rfl⟩
    · rw [e38]
      exact am_u_eq
    · rw [e38] at h2
      rw [er]
      by_cases e : i = T.1 153 38
      · subst e
        exact ((am_u_ne (by omega)).trans am_u_eq).trans (congrArg nI ((q_Tu_ne (by omega)).trans q_Tu_eq).symm)
      · exact ((am_u_ne (by omega)).trans (am_u_ne (by omega))).trans ((h.2 i h1 (by omega)).trans (congrArg nI ((q_Tu_ne (by omega)).trans (q_Tu_ne (by omega))).symm))
  · have er : q_ran T b = q_Tu T 153 38 (T.1 153 38 + 1) := by
      unfold q_ran
      rw [if_neg g]
    rw [if_neg g]
    refine ⟨⟨?_, fun i h1 h2 => ?_⟩, fun c a b => am_u_nc a, fun k a => am_u_ne (by omega), rfl⟩
    · rw [e38]
      exact am_u_eq
    · rw [er]
      exact (am_u_ne (by omega)).trans ((h.2 i h1 (by omega)).trans (congrArg nI (q_Tu_ne (by omega)).symm))
set_option maxRecDepth 100000 in
set_option maxHeartbeats 4000000 in
theorem v_begins (xs : List Int32) {T : q_T} {m : am_Mm} (h : q_Rt T m) (h38 : T.1 153 38 < 2 ^ 20) {b : Nat} (hb : b < 100) : am_V xs 1 126 [.ref 120, .int (nI b)] m (am_qn (fun m' => q_Rt (q_ran T b) m' ∧ q_Ft m m')) := by
  refine am_V_of ky_126 (Nat.le_of_ble_eq_true rfl) ?_
  show am_P xs 0 tr_begins 0 [some (.ref 120), some (.int (nI b))] [] m _
  refine w_aload_n (pc' := 1) rfl rfl rfl rfl ?_
  refine w_getI (pc' := 4) rfl rfl rfl sh_120 rfl ?_
  rw [show m.1 120 1 = nI (T.1 153 38) from h.1]
  refine w_if_lt (t := 26) (pc' := 7) rfl (by decide) rfl (fun h4 => ?_) (fun h4 => ?_)
  · exact (nI_pos (by omega) h4).elim
  · have g2 : ¬ (T.1 153 38) < 0 := fun q => h4 ((nI_ltI (a := (T.1 153 38)) (b := 0) (by omega) (by omega)).mpr q)
    refine w_aload_n (pc' := 8) rfl rfl rfl rfl ?_
    refine w_getI (pc' := 11) rfl rfl rfl sh_120 rfl ?_
    rw [show m.1 120 1 = nI (T.1 153 38) from h.1]
    refine w_bipush (pc' := 13) 20 rfl rfl bp_20 ?_
    refine w_ic_ge (t := 26) (pc' := 16) rfl (by decide) rfl (fun h13 => ?_) (fun h13 => ?_)
    · have g3 : 20 ≤ (T.1 153 38) := (nI_leI (a := 20) (b := (T.1 153 38)) (by omega) (by omega)).mp h13
      refine w_aload_n (pc' := 27) rfl rfl rfl rfl ?_
      refine w_dup (pc' := 28) rfl rfl rfl ?_
      refine w_getI (pc' := 31) rfl rfl rfl sh_120 rfl ?_
      rw [show m.1 120 1 = nI (T.1 153 38) from h.1]
      refine w_iconst (pc' := 32) 1 rfl rfl ic_1 ?_
      refine w_iadd (pc' := 33) rfl rfl ?_
      rw [show nI ((T.1 153 38)) + (1 : Int32) = nI ((T.1 153 38) + 1) from nI_add _ _]
      refine w_putI (pc' := 36) rfl rfl rfl sh_120 rfl rfl rfl ?_
      refine w_vret rfl rfl ?_
      have e0 := h.ran (b := b)
      rw [if_neg (show ¬ T.1 153 38 < 20 by omega)] at e0
      exact ⟨rfl, e0⟩
    · have g4 : ¬ 20 ≤ (T.1 153 38) := fun q => h13 ((nI_leI (a := 20) (b := (T.1 153 38)) (by omega) (by omega)).mpr q)
      refine w_aload_n (pc' := 17) rfl rfl rfl rfl ?_
      refine w_getC (pc' := 20) rfl rfl rfl sh_120 rfl ?_
      refine w_aload_n (pc' := 21) rfl rfl rfl rfl ?_
      refine w_getI (pc' := 24) rfl rfl rfl sh_120 rfl ?_
      rw [show m.1 120 1 = nI (T.1 153 38) from h.1]
      refine w_iload_n (pc' := 25) rfl rfl rfl ?_
      refine w_iast (j := ((T.1 153 38))) (pc' := 26) rfl rfl sh_121 rfl (by omega) (by decide) ?_
      refine w_aload_n (pc' := 27) rfl rfl rfl rfl ?_
      refine w_dup (pc' := 28) rfl rfl rfl ?_
      refine w_getI (pc' := 31) rfl rfl rfl sh_120 rfl ?_
      rw [show (am_u m 121 (T.1 153 38) (nI b)).1 120 1 = nI (T.1 153 38) from (am_u_ne (by omega)).trans h.1]
      refine w_iconst (pc' := 32) 1 rfl rfl ic_1 ?_
      refine w_iadd (pc' := 33) rfl rfl ?_
      rw [show nI ((T.1 153 38)) + (1 : Int32) = nI ((T.1 153 38) + 1) from nI_add _ _]
      refine w_putI (pc' := 36) rfl rfl rfl sh_120 rfl rfl rfl ?_
      refine w_vret rfl rfl ?_
      have e0 := h.ran (b := b)
      rw [if_pos (show T.1 153 38 < 20 by omega)] at e0
      exact ⟨rfl, e0⟩
