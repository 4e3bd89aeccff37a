set_option maxRecDepth 100000 in
set_option maxHeartbeats 4000000 in
theorem v_enc (xs : List Int32) (m : am_Mm) {t : Nat} (ht : t < 128) : am_V xs 1 182 [.int (nI t)] m (am_qi 1 (· = m)) := by
  refine am_V_of ky_182 (Nat.le_of_ble_eq_true rfl) ?_
  show am_P xs 0 jl_canEncode 0 [some (.int (nI t))] [] m _
  refine w_iload_n (pc' := 1) rfl rfl rfl ?_
  refine w_if_lt (t := 15) (pc' := 4) rfl (by decide) rfl (fun h1 => ?_) (fun h1 => ?_)
  · have g1 : t < 0 := (nI_ltI (a := t) (b := 0) (by omega) (by omega)).mp h1
    omega
  · have g2 : ¬ t < 0 := fun q => h1 ((nI_ltI (a := t) (b := 0) (by omega) (by omega)).mpr q)
    refine w_iload_n (pc' := 5) rfl rfl rfl ?_
    refine w_sipush (pc' := 8) 255 rfl rfl sp_255 ?_
    refine w_ic_gt (t := 15) (pc' := 11) rfl (by decide) rfl (fun h8 => ?_) (fun h8 => ?_)
    · have g3 : 255 < t := (nI_ltI (a := 255) (b := t) (by omega) (by omega)).mp h8
      omega
    · have g4 : ¬ 255 < t := fun q => h8 ((nI_ltI (a := 255) (b := t) (by omega) (by omega)).mpr q)
      refine w_iconst (pc' := 12) 1 rfl rfl ic_1 ?_
      refine w_goto (pc' := 16) rfl (by decide) ?_
      refine w_iret rfl rfl (by first | rfl | exact am_nbB _) ?_
      exact ⟨rfl, rfl⟩
set_option maxRecDepth 100000 in
set_option maxHeartbeats 4000000 in
theorem lp_ix3 (xs : List Int32) {m : am_Mm} {t : Nat} (ht : t < 128) : ∀ (r k : Nat), k + r = 6 → am_P xs 0 jl_indexOfChar 7 [some (.ref 1000103), some (.int (nI t)), some (.int 0), some (.int (nI 6)), some (.int (nI t)), some (.int (nI k))] [] m (am_qi (ixo ((q_str 3).drop k) t k) (· = m)) := by
  intro r
  induction r with
  | zero =>
    intro k hk
    refine w_iload (pc' := 9) rfl rfl rfl ?_
    refine w_iload_n (pc' := 10) rfl rfl rfl ?_
    refine w_ic_ge (t := 31) (pc' := 13) rfl (by decide) rfl (fun h10 => ?_) (fun h10 => ?_)
    · have g1 : 6 ≤ k := (nI_leI (a := 6) (b := k) (by omega) (by omega)).mp h10
      refine w_iconst (pc' := 32) (-1) rfl rfl ic_m1 ?_
      refine w_iret rfl rfl rfl ?_
      obtain rfl : k = 6 := by omega
      exact ⟨rfl, rfl⟩
    · have g2 : ¬ 6 ≤ k := fun q => h10 ((nI_leI (a := 6) (b := k) (by omega) (by omega)).mpr q)
      omega
  | succ r ih =>
    intro k hk
    refine w_iload (pc' := 9) rfl rfl rfl ?_
    refine w_iload_n (pc' := 10) rfl rfl rfl ?_
    refine w_ic_ge (t := 31) (pc' := 13) rfl (by decide) rfl (fun h10 => ?_) (fun h10 => ?_)
    · have g1 : 6 ≤ k := (nI_leI (a := 6) (b := k) (by omega) (by omega)).mp h10
      omega
    · have g2 : ¬ 6 ≤ k := fun q => h10 ((nI_leI (a := 6) (b := k) (by omega) (by omega)).mpr q)
      obtain ⟨v, hv⟩ : ∃ v, (q_str 3)[k]? = some v := ⟨(q_str 3)[k]'(by show k < 6; omega), List.getElem?_eq_getElem _⟩
      have ed : (q_str 3).drop k = v :: (q_str 3).drop (k + 1) := by
        have hk2 : k < (q_str 3).length := by show k < 6; omega
        rw [List.getElem?_eq_getElem hk2] at hv
        rw [← Option.some.inj hv]
        exact List.drop_eq_getElem_cons hk2
      have hv2 : v < 128 := (show ∀ x, x ∈ q_str 3 → x < 128 by decide) v (List.mem_of_getElem? hv)
      refine id ?_
      · refine w_aload_n (pc' := 14) rfl rfl rfl rfl ?_
        refine w_iload (pc' := 16) rfl rfl rfl ?_
        refine w_baldR (j := k) (pc' := 17) rfl rfl (by decide) rfl rfl (show ((q_str 3).map nI)[k]? = some (nI v) from by rw [List.getElem?_map, hv]; rfl) (by omega) ?_
        skip
        refine w_iload (pc' := 19) rfl rfl rfl ?_
        refine w_ic_ne (t := 25) (pc' := 22) rfl (by decide) rfl (fun h19 => ?_) (fun h19 => ?_)
        · have g3 : ¬ v = t := fun q => h19 ((nI_eq (a := v) (b := t) (by omega) (by omega)).mpr q)
          refine w_iinc5 (pc' := 28) 1 rfl rfl ic_1 rfl ?_
          rw [nI_inc]
          refine w_goto (pc' := 7) rfl (by decide) ?_
          rw [ed, show ixo (v :: (q_str 3).drop (k + 1)) t k = ixo ((q_str 3).drop (k + 1)) t (k + 1) from if_neg g3]
          exact ih (k + 1) (by omega)
        · have g4 : v = t := (nI_eq (a := v) (b := t) (by omega) (by omega)).mp h19
          refine w_iload (pc' := 24) rfl rfl rfl ?_
          refine w_iret rfl rfl rfl ?_
          rw [ed, show ixo (v :: (q_str 3).drop (k + 1)) t k = nI k from if_pos g4]
          exact ⟨rfl, rfl⟩
set_option maxRecDepth 100000 in
set_option maxHeartbeats 4000000 in
theorem v_ioc3 (xs : List Int32) (m : am_Mm) {t : Nat} (ht : t < 128) : am_V xs 1 183 [.ref 1000103, .int (nI t), .int 0, .int (nI 6)] m (am_qi (ixo (q_str 3) t 0) (· = m)) := by
  refine am_V_of ky_183 (Nat.le_of_ble_eq_true rfl) ?_
  show am_P xs 0 jl_indexOfChar 0 [some (.ref 1000103), some (.int (nI t)), some (.int 0), some (.int (nI 6)), none, none] [] m _
  refine w_iload_n (pc' := 1) rfl rfl rfl ?_
  refine w_i2b (pc' := 2) rfl rfl ?_
  rw [(ch_w t ht).2.2.2]
  refine w_ist4 (pc' := 4) rfl rfl rfl ?_
  refine w_iload_n (pc' := 5) rfl rfl rfl ?_
  refine w_ist5 (pc' := 7) rfl rfl rfl ?_
  exact lp_ix3 xs ht 6 0 (by omega)
set_option maxRecDepth 100000 in
set_option maxHeartbeats 4000000 in
theorem v_jio3 (xs : List Int32) (m : am_Mm) {t : Nat} (ht : t < 128) : am_V xs 2 181 [.ref 1000103, .int (nI t), .int 0, .int (nI 6)] m (am_qi (ixo (q_str 3) t 0) (· = m)) := by
  refine am_V_of ky_181 (Nat.le_of_ble_eq_true rfl) ?_
  show am_P xs 1 jl_indexOf 0 [some (.ref 1000103), some (.int (nI t)), some (.int 0), some (.int (nI 6))] [] m _
  refine w_iload_n (pc' := 1) rfl rfl rfl ?_
  refine w_cS1i (pc' := 4) (v_enc xs m ht) (by decide) rfl rfl rfl (Or.inl rfl) (Nat.le_of_ble_eq_true rfl) (fun m' hm' => ?_)
  rw [show m' = m from hm']
  clear hm' m'
  refine w_if_ne (t := 9) (pc' := 7) rfl (by decide) rfl (fun h4 => ?_) (fun h4 => ?_)
  · refine w_iload_n (pc' := 10) rfl rfl rfl ?_
    refine w_iconst (pc' := 11) 0 rfl rfl ic_0 ?_
    refine w_cS2i (pc' := 14) (v_jm_max0 xs m (a := 0) (b := 0) (by omega) (by omega)) (by decide) rfl rfl rfl (Or.inl rfl) (Nat.le_of_ble_eq_true rfl) (fun m' hm' => ?_)
    rw [show m' = m from hm']
    clear hm' m'
    rw [show nI (max 0 0) = 0 from rfl]
    refine w_ist2 (pc' := 15) rfl rfl rfl ?_
    refine w_iload_n (pc' := 16) rfl rfl rfl ?_
    refine w_aload_n (pc' := 17) rfl rfl rfl rfl ?_
    refine w_alenR (v := 6) (pc' := 18) rfl rfl (by decide) rfl rfl ?_
    refine w_cS2i (pc' := 21) (v_jm_min0 xs m (a := 6) (b := 6) (by omega) (by omega)) (by decide) rfl rfl rfl (Or.inl rfl) (Nat.le_of_ble_eq_true rfl) (fun m' hm' => ?_)
    rw [show m' = m from hm']
    clear hm' m'
    rw [show nI (min 6 6) = nI 6 from rfl]
    refine w_ist3 (pc' := 22) rfl rfl rfl ?_
    refine w_iload_n (pc' := 23) rfl rfl rfl ?_
    refine w_iload_n (pc' := 24) rfl rfl rfl ?_
    refine w_ic_lt (t := 29) (pc' := 27) rfl (by decide) rfl (fun h24 => ?_) (fun h24 => ?_)
    · have g1 : 0 < 6 := (nI_ltI (a := 0) (b := 6) (by omega) (by omega)).mp h24
      refine w_aload_n (pc' := 30) rfl rfl rfl rfl ?_
      refine w_iload_n (pc' := 31) rfl rfl rfl ?_
      refine w_iload_n (pc' := 32) rfl rfl rfl ?_
      refine w_iload_n (pc' := 33) rfl rfl rfl ?_
      refine w_cS4i (pc' := 36) (v_ioc3 xs m ht) (by decide) rfl rfl rfl (Or.inl rfl) (Nat.le_of_ble_eq_true rfl) (fun m' hm' => ?_)
      rw [show m' = m from hm']
      clear hm' m'
      refine w_iret rfl rfl rfl ?_
      exact ⟨rfl, rfl⟩
    · exact absurd h24 (by decide)
  · exact absurd h4 (by decide)
set_option maxRecDepth 100000 in
set_option maxHeartbeats 4000000 in
theorem v_io23 (xs : List Int32) (m : am_Mm) {t : Nat} (ht : t < 128) : am_V xs 3 180 [.ref 1000003, .int (nI t), .int 0] m (am_qi (ixo (q_str 3) t 0) (· = m)) := by
  refine am_V_of ky_180 (Nat.le_of_ble_eq_true rfl) ?_
  show am_P xs 2 js_indexOf2 0 [some (.ref 1000003), some (.int (nI t)), some (.int 0)] [] m _
  refine w_aload_n (pc' := 1) rfl rfl rfl rfl ?_
  refine w_cT0i (pc' := 4) (v_lat3 xs m) (by decide) rfl rfl rfl (Nat.le_of_ble_eq_true rfl) (by decide) (by decide) rfl (fun m' hm' => ?_)
  rw [show m' = m from hm']
  clear hm' m'
  refine w_if_eq (t := 23) (pc' := 7) rfl (by decide) rfl (fun h4 => ?_) (fun h4 => ?_)
  · exact absurd h4 (by decide)
  · refine w_aload_n (pc' := 8) rfl rfl rfl rfl ?_
    refine w_getS (pc' := 11) rfl rfl (fun _ => rfl) ?_
    refine w_iload_n (pc' := 12) rfl rfl rfl ?_
    refine w_iload_n (pc' := 13) rfl rfl rfl ?_
    refine w_aload_n (pc' := 14) rfl rfl rfl rfl ?_
    refine w_cT0i (pc' := 17) (v_len3 xs m) (by decide) rfl rfl rfl (Nat.le_of_ble_eq_true rfl) (by decide) (by decide) rfl (fun m' hm' => ?_)
    rw [show m' = m from hm']
    clear hm' m'
    refine w_cS4i (pc' := 20) (v_jio3 xs m ht) (by decide) rfl rfl rfl (Or.inl rfl) (Nat.le_of_ble_eq_true rfl) (fun m' hm' => ?_)
    rw [show m' = m from hm']
    clear hm' m'
    refine w_goto (pc' := 36) rfl (by decide) ?_
    refine w_iret rfl rfl rfl ?_
    exact ⟨rfl, rfl⟩
set_option maxRecDepth 100000 in
set_option maxHeartbeats 4000000 in
theorem v_io3 (xs : List Int32) (m : am_Mm) {t : Nat} (ht : t < 128) : am_V xs 4 179 [.ref 1000003, .int (nI t)] m (am_qi (ixo (q_str 3) t 0) (· = m)) := by
  refine am_V_of ky_179 (Nat.le_of_ble_eq_true rfl) ?_
  show am_P xs 3 js_indexOf 0 [some (.ref 1000003), some (.int (nI t))] [] m _
  refine w_aload_n (pc' := 1) rfl rfl rfl rfl ?_
  refine w_iload_n (pc' := 2) rfl rfl rfl ?_
  refine w_iconst (pc' := 3) 0 rfl rfl ic_0 ?_
  refine w_cT2i (pc' := 6) (v_io23 xs m ht) (by decide) rfl rfl rfl (Nat.le_of_ble_eq_true rfl) (by decide) (by decide) rfl (fun m' hm' => ?_)
  rw [show m' = m from hm']
  clear hm' m'
  refine w_iret rfl rfl rfl ?_
  exact ⟨rfl, rfl⟩
set_option maxRecDepth 100000 in
set_option maxHeartbeats 4000000 in
theorem lp_ix4 (xs : List Int32) {m : am_Mm} {t : Nat} (ht : t < 128) : ∀ (r k : Nat), k + r = 3 → am_P xs 0 jl_indexOfChar 7 [some (.ref 1000104), some (.int (nI t)), some (.int 0), some (.int (nI 3)), some (.int (nI t)), some (.int (nI k))] [] m (am_qi (ixo ((q_str 4).drop k) t k) (· = m)) := by
  intro r
  induction r with
  | zero =>
    intro k hk
    refine w_iload (pc' := 9) rfl rfl rfl ?_
    refine w_iload_n (pc' := 10) rfl rfl rfl ?_
    refine w_ic_ge (t := 31) (pc' := 13) rfl (by decide) rfl (fun h10 => ?_) (fun h10 => ?_)
    · have g1 : 3 ≤ k := (nI_leI (a := 3) (b := k) (by omega) (by omega)).mp h10
      refine w_iconst (pc' := 32) (-1) rfl rfl ic_m1 ?_
      refine w_iret rfl rfl rfl ?_
      obtain rfl : k = 3 := by omega
      exact ⟨rfl, rfl⟩
    · have g2 : ¬ 3 ≤ k := fun q => h10 ((nI_leI (a := 3) (b := k) (by omega) (by omega)).mpr q)
      omega
  | succ r ih =>
    intro k hk
    refine w_iload (pc' := 9) rfl rfl rfl ?_
    refine w_iload_n (pc' := 10) rfl rfl rfl ?_
    refine w_ic_ge (t := 31) (pc' := 13) rfl (by decide) rfl (fun h10 => ?_) (fun h10 => ?_)
    · have g1 : 3 ≤ k := (nI_leI (a := 3) (b := k) (by omega) (by omega)).mp h10
      omega
    · have g2 : ¬ 3 ≤ k := fun q => h10 ((nI_leI (a := 3) (b := k) (by omega) (by omega)).mpr q)
      obtain ⟨v, hv⟩ : ∃ v, (q_str 4)[k]? = some v := ⟨(q_str 4)[k]'(by show k < 3; omega), List.getElem?_eq_getElem _⟩
      have ed : (q_str 4).drop k = v :: (q_str 4).drop (k + 1) := by
        have hk2 : k < (q_str 4).length := by show k < 3; omega
        rw [List.getElem?_eq_getElem hk2] at hv
        rw [← Option.some.inj hv]
        exact List.drop_eq_getElem_cons hk2
      have hv2 : v < 128 := (show ∀ x, x ∈ q_str 4 → x < 128 by decide) v (List.mem_of_getElem? hv)
      refine id ?_
      · refine w_aload_n (pc' := 14) rfl rfl rfl rfl ?_
        refine w_iload (pc' := 16) rfl rfl rfl ?_
        refine w_baldR (j := k) (pc' := 17) rfl rfl (by decide) rfl rfl (show ((q_str 4).map nI)[k]? = some (nI v) from by rw [List.getElem?_map, hv]; rfl) (by omega) ?_
        skip
        refine w_iload (pc' := 19) rfl rfl rfl ?_
        refine w_ic_ne (t := 25) (pc' := 22) rfl (by decide) rfl (fun h19 => ?_) (fun h19 => ?_)
        · have g3 : ¬ v = t := fun q => h19 ((nI_eq (a := v) (b := t) (by omega) (by omega)).mpr q)
          refine w_iinc5 (pc' := 28) 1 rfl rfl ic_1 rfl ?_
          rw [nI_inc]
          refine w_goto (pc' := 7) rfl (by decide) ?_
          rw [ed, show ixo (v :: (q_str 4).drop (k + 1)) t k = ixo ((q_str 4).drop (k + 1)) t (k + 1) from if_neg g3]
          exact ih (k + 1) (by omega)
        · have g4 : v = t := (nI_eq (a := v) (b := t) (by omega) (by omega)).mp h19
          refine w_iload (pc' := 24) rfl rfl rfl ?_
          refine w_iret rfl rfl rfl ?_
          rw [ed, show ixo (v :: (q_str 4).drop (k + 1)) t k = nI k from if_pos g4]
          exact ⟨rfl, rfl⟩
set_option maxRecDepth 100000 in
set_option maxHeartbeats 4000000 in
theorem v_ioc4 (xs : List Int32) (m : am_Mm) {t : Nat} (ht : t < 128) : am_V xs 1 183 [.ref 1000104, .int (nI t), .int 0, .int (nI 3)] m (am_qi (ixo (q_str 4) t 0) (· = m)) := by
  refine am_V_of ky_183 (Nat.le_of_ble_eq_true rfl) ?_
  show am_P xs 0 jl_indexOfChar 0 [some (.ref 1000104), some (.int (nI t)), some (.int 0), some (.int (nI 3)), none, none] [] m _
  refine w_iload_n (pc' := 1) rfl rfl rfl ?_
  refine w_i2b (pc' := 2) rfl rfl ?_
  rw [(ch_w t ht).2.2.2]
  refine w_ist4 (pc' := 4) rfl rfl rfl ?_
  refine w_iload_n (pc' := 5) rfl rfl rfl ?_
  refine w_ist5 (pc' := 7) rfl rfl rfl ?_
  exact lp_ix4 xs ht 3 0 (by omega)
set_option maxRecDepth 100000 in
set_option maxHeartbeats 4000000 in
theorem v_jio4 (xs : List Int32) (m : am_Mm) {t : Nat} (ht : t < 128) : am_V xs 2 181 [.ref 1000104, .int (nI t), .int 0, .int (nI 3)] m (am_qi (ixo (q_str 4) t 0) (· = m)) := by
  refine am_V_of ky_181 (Nat.le_of_ble_eq_true rfl) ?_
  show am_P xs 1 jl_indexOf 0 [some (.ref 1000104), some (.int (nI t)), some (.int 0), some (.int (nI 3))] [] m _
  refine w_iload_n (pc' := 1) rfl rfl rfl ?_
  refine w_cS1i (pc' := 4) (v_enc xs m ht) (by decide) rfl rfl rfl (Or.inl rfl) (Nat.le_of_ble_eq_true rfl) (fun m' hm' => ?_)
  rw [show m' = m from hm']
  clear hm' m'
  refine w_if_ne (t := 9) (pc' := 7) rfl (by decide) rfl (fun h4 => ?_) (fun h4 => ?_)
  · refine w_iload_n (pc' := 10) rfl rfl rfl ?_
    refine w_iconst (pc' := 11) 0 rfl rfl ic_0 ?_
    refine w_cS2i (pc' := 14) (v_jm_max0 xs m (a := 0) (b := 0) (by omega) (by omega)) (by decide) rfl rfl rfl (Or.inl rfl) (Nat.le_of_ble_eq_true rfl) (fun m' hm' => ?_)
    rw [show m' = m from hm']
    clear hm' m'
    rw [show nI (max 0 0) = 0 from rfl]
    refine w_ist2 (pc' := 15) rfl rfl rfl ?_
    refine w_iload_n (pc' := 16) rfl rfl rfl ?_
    refine w_aload_n (pc' := 17) rfl rfl rfl rfl ?_
    refine w_alenR (v := 3) (pc' := 18) rfl rfl (by decide) rfl rfl ?_
    refine w_cS2i (pc' := 21) (v_jm_min0 xs m (a := 3) (b := 3) (by omega) (by omega)) (by decide) rfl rfl rfl (Or.inl rfl) (Nat.le_of_ble_eq_true rfl) (fun m' hm' => ?_)
    rw [show m' = m from hm']
    clear hm' m'
    rw [show nI (min 3 3) = nI 3 from rfl]
    refine w_ist3 (pc' := 22) rfl rfl rfl ?_
    refine w_iload_n (pc' := 23) rfl rfl rfl ?_
    refine w_iload_n (pc' := 24) rfl rfl rfl ?_
    refine w_ic_lt (t := 29) (pc' := 27) rfl (by decide) rfl (fun h24 => ?_) (fun h24 => ?_)
    · have g1 : 0 < 3 := (nI_ltI (a := 0) (b := 3) (by omega) (by omega)).mp h24
      refine w_aload_n (pc' := 30) rfl rfl rfl rfl ?_
      refine w_iload_n (pc' := 31) rfl rfl rfl ?_
      refine w_iload_n (pc' := 32) rfl rfl rfl ?_
      refine w_iload_n (pc' := 33) rfl rfl rfl ?_
      refine w_cS4i (pc' := 36) (v_ioc4 xs m ht) (by decide) rfl rfl rfl (Or.inl rfl) (Nat.le_of_ble_eq_true rfl) (fun m' hm' => ?_)
      rw [show m' = m from hm']
      clear hm' m'
      refine w_iret rfl rfl rfl ?_
      exact ⟨rfl, rfl⟩
    · exact absurd h24 (by decide)
  · exact absurd h4 (by decide)
set_option maxRecDepth 100000 in
set_option maxHeartbeats 4000000 in
theorem v_io24 (xs : List Int32) (m : am_Mm) {t : Nat} (ht : t < 128) : am_V xs 3 180 [.ref 1000004, .int (nI t), .int 0] m (am_qi (ixo (q_str 4) t 0) (· = m)) := by
  refine am_V_of ky_180 (Nat.le_of_ble_eq_true rfl) ?_
  show am_P xs 2 js_indexOf2 0 [some (.ref 1000004), some (.int (nI t)), some (.int 0)] [] m _
  refine w_aload_n (pc' := 1) rfl rfl rfl rfl ?_
  refine w_cT0i (pc' := 4) (v_lat4 xs m) (by decide) rfl rfl rfl (Nat.le_of_ble_eq_true rfl) (by decide) (by decide) rfl (fun m' hm' => ?_)
  rw [show m' = m from hm']
  clear hm' m'
  refine w_if_eq (t := 23) (pc' := 7) rfl (by decide) rfl (fun h4 => ?_) (fun h4 => ?_)
  · exact absurd h4 (by decide)
  · refine w_aload_n (pc' := 8) rfl rfl rfl rfl ?_
    refine w_getS (pc' := 11) rfl rfl (fun _ => rfl) ?_
    refine w_iload_n (pc' := 12) rfl rfl rfl ?_
    refine w_iload_n (pc' := 13) rfl rfl rfl ?_
    refine w_aload_n (pc' := 14) rfl rfl rfl rfl ?_
    refine w_cT0i (pc' := 17) (v_len4 xs m) (by decide) rfl rfl rfl (Nat.le_of_ble_eq_true rfl) (by decide) (by decide) rfl (fun m' hm' => ?_)
    rw [show m' = m from hm']
    clear hm' m'
    refine w_cS4i (pc' := 20) (v_jio4 xs m ht) (by decide) rfl rfl rfl (Or.inl rfl) (Nat.le_of_ble_eq_true rfl) (fun m' hm' => ?_)
    rw [show m' = m from hm']
    clear hm' m'
    refine w_goto (pc' := 36) rfl (by decide) ?_
    refine w_iret rfl rfl rfl ?_
    exact ⟨rfl, rfl⟩
set_option maxRecDepth 100000 in
set_option maxHeartbeats 4000000 in
theorem v_io4 (xs : List Int32) (m : am_Mm) {t : Nat} (ht : t < 128) : am_V xs 4 179 [.ref 1000004, .int (nI t)] m (am_qi (ixo (q_str 4) t 0) (· = m)) := by
  refine am_V_of ky_179 (Nat.le_of_ble_eq_true rfl) ?_
  show am_P xs 3 js_indexOf 0 [some (.ref 1000004), some (.int (nI t))] [] m _
  refine w_aload_n (pc' := 1) rfl rfl rfl rfl ?_
  refine w_iload_n (pc' := 2) rfl rfl rfl ?_
  refine w_iconst (pc' := 3) 0 rfl rfl ic_0 ?_
  refine w_cT2i (pc' := 6) (v_io24 xs m ht) (by decide) rfl rfl rfl (Nat.le_of_ble_eq_true rfl) (by decide) (by decide) rfl (fun m' hm' => ?_)
  rw [show m' = m from hm']
  clear hm' m'
  refine w_iret rfl rfl rfl ?_
  exact ⟨rfl, rfl⟩
/-- the model while it reads THE TEXT: at a place, with codes from a place on; all else as at the start -/
def q_pa (m0 : am_Mm) (cd pos : Nat) (cs : List Nat) (m : am_Mm) : Prop :=
  (∀ c k, ¬ (c = 153 ∧ ((14 ≤ k ∧ k ≤ 17) ∨ k = 26)) → ¬ (c = 169 ∧ cd ≤ k) → m.1 c k = m0.1 c k) ∧ (m.2 = m0.2 ∧ (m.1 153 14 = nI pos ∧ (m.1 153 26 = nI (cd + cs.length) ∧ ∀ i x, cs[i]? = some x → m.1 169 (cd + i) = nI x)))
/-- the same where it has stopped -/
def q_pf (m0 : am_Mm) (cd pos : Nat) (m : am_Mm) : Prop :=
  (∀ c k, ¬ (c = 153 ∧ ((14 ≤ k ∧ k ≤ 17) ∨ k = 26)) → ¬ (c = 169 ∧ cd ≤ k) → m.1 c k = m0.1 c k) ∧ (m.2 = m0.2 ∧ m.1 153 14 = nI pos)
theorem q_pa.pf {m0 m : am_Mm} {cd pos : Nat} {cs : List Nat} (h : q_pa m0 cd pos cs m) : q_pf m0 cd pos m := ⟨h.1, h.2.1, h.2.2.1⟩
/-- THE TEXT is a row of n signs -/
def q_tx (tx : Nat → Nat) (n : Nat) (m : am_Mm) : Prop := n ≤ 100 ∧ (m.1 153 12 = nI n ∧ ∀ k, m.1 163 k = nI (tx k) ∧ tx k < 128)
theorem q_tx.pa {tx : Nat → Nat} {n : Nat} {m0 m : am_Mm} {cd pos : Nat} {cs : List Nat} (h : q_tx tx n m0) (hp : q_pa m0 cd pos cs m) : m.1 153 12 = nI n ∧ ∀ k, m.1 163 k = nI (tx k) := ⟨(hp.1 153 12 (by omega) (by omega)).trans h.2.1, fun k => (hp.1 163 k (by omega) (by omega)).trans (h.2.2 k).1⟩
/-- a place of the model's own is written -/
theorem q_pa.own {m0 m : am_Mm} {cd pos : Nat} {cs : List Nat} (h : q_pa m0 cd pos cs m) {k : Nat} {x : Int32} (hk : 15 ≤ k ∧ k ≤ 17) : q_pa m0 cd pos cs (am_u m 153 k x) :=
  ⟨fun c k' a b => (am_u_ne (by omega)).trans (h.1 c k' a b), h.2.1, (am_u_ne (by omega)).trans h.2.2.1, (am_u_ne (by omega)).trans h.2.2.2.1, fun i y q => (am_u_ne (by omega)).trans (h.2.2.2.2 i y q)⟩
theorem q_pa.at {m0 m : am_Mm} {cd pos q : Nat} {cs : List Nat} (h : q_pa m0 cd pos cs m) : q_pa m0 cd q cs (am_u m 153 14 (nI q)) :=
  ⟨fun c k' a b => (am_u_ne (by omega)).trans (h.1 c k' a b), h.2.1, am_u_eq, (am_u_ne (by omega)).trans h.2.2.2.1, fun i y q => (am_u_ne (by omega)).trans (h.2.2.2.2 i y q)⟩
theorem q_pa.code {m0 m : am_Mm} {cd pos : Nat} {cs : List Nat} (h : q_pa m0 cd pos cs m) {x : Nat} : q_pa m0 cd pos (cs ++ [x]) (am_u (am_u m 153 26 (nI (cd + cs.length + 1))) 169 (cd + cs.length) (nI x)) := by
  refine ⟨fun c k' a b => (am_u_ne (by omega)).trans ((am_u_ne (by omega)).trans (h.1 c k' a b)), h.2.1, (am_u_ne (by omega)).trans ((am_u_ne (by omega)).trans h.2.2.1), (am_u_ne (by omega)).trans (am_u_eq.trans (by rw [List.length_append]; rfl)), fun i y q => ?_⟩
  by_cases e : i = cs.length
  · subst e
    rw [List.getElem?_append_right (Nat.le_refl _), Nat.sub_self] at q
    rw [am_u_eq]
    exact congrArg nI (Option.some.inj q)
  · have hi : i < (cs ++ [x]).length := (List.getElem?_eq_some_iff.mp q).1
    rw [List.length_append] at hi
    have hi2 : i < cs.length := by
      have : [x].length = 1 := rfl
      omega
    rw [List.getElem?_append_left hi2] at q
    exact (am_u_ne (by omega)).trans ((am_u_ne (by omega)).trans (h.2.2.2.2 i y q))
def p_is (tx : Nat → Nat) (n c pos : Nat) : Bool := decide (pos < n ∧ tx pos = c)
def p_dg (tx : Nat → Nat) (n pos : Nat) : Bool := decide (pos < n ∧ (48 ≤ tx pos ∧ tx pos ≤ 57))
/-- how many digits, the number, and where they end -/
def p_num (tx : Nat → Nat) (n pos : Nat) : Nat × (Nat × Nat) := if p_dg tx n pos = true then (if p_dg tx n (pos + 1) = true then (2, 10 * (tx pos - 48) + (tx (pos + 1) - 48), pos + 2) else (1, tx pos - 48, pos + 1)) else (0, 0, pos)
theorem p_num_le {tx : Nat → Nat} {n pos : Nat} (h : pos ≤ n) : pos ≤ (p_num tx n pos).2.2 ∧ ((p_num tx n pos).2.2 ≤ n ∧ ((p_num tx n pos).2.1 < 100 ∧ ((p_num tx n pos).1 ≤ 2 ∧ (0 < (p_num tx n pos).1 → pos < (p_num tx n pos).2.2)))) := by
  unfold p_num
  split
  · rename_i h1
    have h1 := of_decide_eq_true h1
    split
    · rename_i h2
      have h2 := of_decide_eq_true h2
      dsimp only
      omega
    · dsimp only
      omega
  · dsimp only
    omega
set_option maxRecDepth 100000 in
set_option maxHeartbeats 4000000 in
theorem v_m_is (xs : List Int32) {tx : Nat → Nat} {n : Nat} {m0 m : am_Mm} {cd pos : Nat} {cs : List Nat} (ht : q_tx tx n m0) (hp : q_pa m0 cd pos cs m) (hn : pos ≤ n) {c : Nat} (hc : c < 256) : am_V xs 1 170 [.ref 153, .int (nI c)] m (am_qi (bB (p_is tx n c pos)) (fun m' => q_pa m0 cd (if p_is tx n c pos = true then pos + 1 else pos) cs m' ∧ ∀ k, 15 ≤ k ∧ k ≤ 17 → m'.1 153 k = m.1 153 k)) := by
  have hn1 := ht.1
  have ht1 := (ht.2.2 pos).2
  refine am_V_of ky_170 (Nat.le_of_ble_eq_true rfl) ?_
  show am_P xs 0 m_is 0 [some (.ref 153), some (.int (nI c))] [] m _
  refine w_aload_n (pc' := 1) rfl rfl rfl rfl ?_
  refine w_getI (pc' := 4) rfl rfl rfl sh_153 rfl ?_
  rw [show m.1 153 14 = nI pos from hp.2.2.1]
  refine w_aload_n (pc' := 5) rfl rfl rfl rfl ?_
  refine w_getI (pc' := 8) rfl rfl rfl sh_153 rfl ?_
  rw [show m.1 153 12 = nI n from (ht.pa hp).1]
  refine w_ic_eq (t := 24) (pc' := 11) rfl (by decide) rfl (fun h8 => ?_) (fun h8 => ?_)
  · have g1 : pos = n := (nI_eq (a := pos) (b := n) (by omega) (by omega)).mp h8
    refine w_iconst (pc' := 25) 0 rfl rfl ic_0 ?_
    refine w_iret rfl rfl (by first | rfl | exact am_nbB _) ?_
    rw [show p_is tx n c pos = false from decide_eq_false (fun z => by omega)]
    exact ⟨rfl, hp, fun _ _ => rfl⟩
  · have g2 : ¬ pos = n := fun q => h8 ((nI_eq (a := pos) (b := n) (by omega) (by omega)).mpr q)
    refine w_aload_n (pc' := 12) rfl rfl rfl rfl ?_
    refine w_getC (pc' := 15) rfl rfl rfl sh_153 rfl ?_
    refine w_aload_n (pc' := 16) rfl rfl rfl rfl ?_
    refine w_getI (pc' := 19) rfl rfl rfl sh_153 rfl ?_
    rw [show m.1 153 14 = nI pos from hp.2.2.1]
    refine w_iald (j := (pos)) (pc' := 20) rfl rfl sh_163 rfl (by omega) (by decide) ?_
    rw [show m.1 163 pos = nI (tx pos) from (ht.pa hp).2 _]
    refine w_iload_n (pc' := 21) rfl rfl rfl ?_
    refine w_ic_eq (t := 26) (pc' := 24) rfl (by decide) rfl (fun h21 => ?_) (fun h21 => ?_)
    · have g3 : (tx pos) = c := (nI_eq (a := (tx pos)) (b := c) (by omega) (by omega)).mp h21
      refine w_aload_n (pc' := 27) rfl rfl rfl rfl ?_
      refine w_dup (pc' := 28) rfl rfl rfl ?_
      refine w_getI (pc' := 31) rfl rfl rfl sh_153 rfl ?_
      rw [show m.1 153 14 = nI pos from hp.2.2.1]
      refine w_iconst (pc' := 32) 1 rfl rfl ic_1 ?_
      refine w_iadd (pc' := 33) rfl rfl ?_
      rw [show nI (pos) + (1 : Int32) = nI (pos + 1) from nI_add _ _]
      refine w_putI (pc' := 36) rfl rfl rfl sh_153 rfl rfl rfl ?_
      refine w_iconst (pc' := 37) 1 rfl rfl ic_1 ?_
      refine w_iret rfl rfl (by first | rfl | exact am_nbB _) ?_
      rw [show p_is tx n c pos = true from decide_eq_true ⟨by omega, by omega⟩]
      exact ⟨rfl, hp.at, fun k hk => am_u_ne (by omega)⟩
    · have g4 : ¬ (tx pos) = c := fun q => h21 ((nI_eq (a := (tx pos)) (b := c) (by omega) (by omega)).mpr q)
      refine w_iconst (pc' := 25) 0 rfl rfl ic_0 ?_
      refine w_iret rfl rfl (by first | rfl | exact am_nbB _) ?_
      rw [show p_is tx n c pos = false from decide_eq_false (fun z => by omega)]
      exact ⟨rfl, hp, fun _ _ => rfl⟩
set_option maxRecDepth 100000 in
set_option maxHeartbeats 4000000 in
theorem v_m_isDigit (xs : List Int32) {tx : Nat → Nat} {n : Nat} {m0 m : am_Mm} {cd pos : Nat} {cs : List Nat} (ht : q_tx tx n m0) (hp : q_pa m0 cd pos cs m) (hn : pos ≤ n) : am_V xs 1 172 [.ref 153] m (am_qi (bB (p_dg tx n pos)) (· = m)) := by
  have hn1 := ht.1
  have ht1 := (ht.2.2 pos).2
  refine am_V_of ky_172 (Nat.le_of_ble_eq_true rfl) ?_
  show am_P xs 0 m_isDigit 0 [some (.ref 153)] [] m _
  refine w_aload_n (pc' := 1) rfl rfl rfl rfl ?_
  refine w_getI (pc' := 4) rfl rfl rfl sh_153 rfl ?_
  rw [show m.1 153 14 = nI pos from hp.2.2.1]
  refine w_aload_n (pc' := 5) rfl rfl rfl rfl ?_
  refine w_getI (pc' := 8) rfl rfl rfl sh_153 rfl ?_
  rw [show m.1 153 12 = nI n from (ht.pa hp).1]
  refine w_ic_ge (t := 43) (pc' := 11) rfl (by decide) rfl (fun h8 => ?_) (fun h8 => ?_)
  · have g1 : n ≤ pos := (nI_leI (a := n) (b := pos) (by omega) (by omega)).mp h8
    refine w_iconst (pc' := 44) 0 rfl rfl ic_0 ?_
    refine w_iret rfl rfl (by first | rfl | exact am_nbB _) ?_
    rw [show p_dg tx n pos = false from decide_eq_false (fun z => by omega)]
    exact ⟨rfl, rfl⟩
  · have g2 : ¬ n ≤ pos := fun q => h8 ((nI_leI (a := n) (b := pos) (by omega) (by omega)).mpr q)
    refine w_aload_n (pc' := 12) rfl rfl rfl rfl ?_
    refine w_getC (pc' := 15) rfl rfl rfl sh_153 rfl ?_
    refine w_aload_n (pc' := 16) rfl rfl rfl rfl ?_
    refine w_getI (pc' := 19) rfl rfl rfl sh_153 rfl ?_
    rw [show m.1 153 14 = nI pos from hp.2.2.1]
    refine w_iald (j := (pos)) (pc' := 20) rfl rfl sh_163 rfl (by omega) (by decide) ?_
    rw [show m.1 163 pos = nI (tx pos) from (ht.pa hp).2 _]
    refine w_bipush (pc' := 22) 48 rfl rfl bp_48 ?_
    refine w_ic_lt (t := 43) (pc' := 25) rfl (by decide) rfl (fun h22 => ?_) (fun h22 => ?_)
    · have g3 : (tx pos) < 48 := (nI_ltI (a := (tx pos)) (b := 48) (by omega) (by omega)).mp h22
      refine w_iconst (pc' := 44) 0 rfl rfl ic_0 ?_
      refine w_iret rfl rfl (by first | rfl | exact am_nbB _) ?_
      rw [show p_dg tx n pos = false from decide_eq_false (fun z => by omega)]
      exact ⟨rfl, rfl⟩
    · have g4 : ¬ (tx pos) < 48 := fun q => h22 ((nI_ltI (a := (tx pos)) (b := 48) (by omega) (by omega)).mpr q)
      refine w_aload_n (pc' := 26) rfl rfl rfl rfl ?_
      refine w_getC (pc' := 29) rfl rfl rfl sh_153 rfl ?_
      refine w_aload_n (pc' := 30) rfl rfl rfl rfl ?_
      refine w_getI (pc' := 33) rfl rfl rfl sh_153 rfl ?_
      rw [show m.1 153 14 = nI pos from hp.2.2.1]
      refine w_iald (j := (pos)) (pc' := 34) rfl rfl sh_163 rfl (by omega) (by decide) ?_
      rw [show m.1 163 pos = nI (tx pos) from (ht.pa hp).2 _]
      refine w_bipush (pc' := 36) 57 rfl rfl bp_57 ?_
      refine w_ic_gt (t := 43) (pc' := 39) rfl (by decide) rfl (fun h36 => ?_) (fun h36 => ?_)
      · have g5 : 57 < (tx pos) := (nI_ltI (a := 57) (b := (tx pos)) (by omega) (by omega)).mp h36
        refine w_iconst (pc' := 44) 0 rfl rfl ic_0 ?_
        refine w_iret rfl rfl (by first | rfl | exact am_nbB _) ?_
        rw [show p_dg tx n pos = false from decide_eq_false (fun z => by omega)]
        exact ⟨rfl, rfl⟩
      · have g6 : ¬ 57 < (tx pos) := fun q => h36 ((nI_ltI (a := 57) (b := (tx pos)) (by omega) (by omega)).mpr q)
        refine w_iconst (pc' := 40) 1 rfl rfl ic_1 ?_
        refine w_goto (pc' := 44) rfl (by decide) ?_
        refine w_iret rfl rfl (by first | rfl | exact am_nbB _) ?_
        rw [show p_dg tx n pos = true from decide_eq_true ⟨by omega, by omega, by omega⟩]
        exact ⟨rfl, rfl⟩
set_option maxRecDepth 100000 in
set_option maxHeartbeats 4000000 in
theorem v_m_codes (xs : List Int32) {m0 m : am_Mm} {cd pos : Nat} {cs : List Nat} (hp : q_pa m0 cd pos cs m) (hc : cd + cs.length < 800) (x : Nat) : am_V xs 1 177 [.ref 153, .int (nI x)] m (am_qi 1 (fun m' => q_pa m0 cd pos (cs ++ [x]) m' ∧ ∀ k, 15 ≤ k ∧ k ≤ 17 → m'.1 153 k = m.1 153 k)) := by
  refine am_V_of ky_177 (Nat.le_of_ble_eq_true rfl) ?_
  show am_P xs 0 m_codes 0 [some (.ref 153), some (.int (nI x))] [] m _
  refine w_aload_n (pc' := 1) rfl rfl rfl rfl ?_
  refine w_getC (pc' := 4) rfl rfl rfl sh_153 rfl ?_
  refine w_aload_n (pc' := 5) rfl rfl rfl rfl ?_
  refine w_dup (pc' := 6) rfl rfl rfl ?_
  refine w_getI (pc' := 9) rfl rfl rfl sh_153 rfl ?_
  rw [show m.1 153 26 = nI (cd + cs.length) from hp.2.2.2.1]
  refine w_dup_x1 (pc' := 10) rfl rfl ⟨rfl, rfl⟩ ?_
  refine w_iconst (pc' := 11) 1 rfl rfl ic_1 ?_
  refine w_iadd (pc' := 12) rfl rfl ?_
  rw [show nI ((cd + cs.length)) + (1 : Int32) = nI ((cd + cs.length) + 1) from nI_add _ _]
  refine w_putI (pc' := 15) rfl rfl rfl sh_153 rfl rfl rfl ?_
  refine w_iload_n (pc' := 16) rfl rfl rfl ?_
  refine w_iast (j := ((cd + cs.length))) (pc' := 17) rfl rfl sh_169 rfl (by omega) (by decide) ?_
  refine w_iconst (pc' := 18) 1 rfl rfl ic_1 ?_
  refine w_iret rfl rfl (by first | rfl | exact am_nbB _) ?_
  exact ⟨rfl, hp.code, fun k hk => (am_u_ne (by omega)).trans (am_u_ne (by omega))⟩
