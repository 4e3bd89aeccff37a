theorem w_cT0i {xs : List Int32} {d : Nat} {M : am_M} {pc pc' : Nat} {L : am_L} {r : List Value} {m : am_Mm} {Q : am_Q} {x : Int32} {c idx y d' : Nat} {G : am_Mm → Prop} (hv : am_V xs d' y [.ref c] m (am_qi x G)) (hd : d' ≤ d) (h : am_at M pc = some (.invokevirtual idx, 3)) (hp : pc + 3 = pc') (hm : (am_mt M.1).lookup idx = some (0, y, 0)) (hc : am_cat r ≤ 8) (h1 : ¬ c < 1000000) (h2 : c < 1000005) (ho : am_ow y = 10) (k : ∀ m', G m' → am_P xs d M pc' L (.int x :: r) m' Q) : am_P xs d M pc L (.ref c :: r) m Q := w_cV0 h hp hm hc (am_recv_str h1 h2 ho) (hv.up hd) (fun v m' q => by obtain ⟨rfl, q⟩ := q; exact k m' q)
theorem w_cT1i {xs : List Int32} {d : Nat} {M : am_M} {pc pc' : Nat} {L : am_L} {r : List Value} {m : am_Mm} {Q : am_Q} {b1 : Value} {x : Int32} {c idx y d' : Nat} {G : am_Mm → Prop} (hv : am_V xs d' y [.ref c, b1] m (am_qi x G)) (hd : d' ≤ d) (h : am_at M pc = some (.invokevirtual idx, 3)) (hp : pc + 3 = pc') (hm : (am_mt M.1).lookup idx = some (0, y, 1)) (hc : am_cat r ≤ 8) (h1 : ¬ c < 1000000) (h2 : c < 1000005) (ho : am_ow y = 10) (k : ∀ m', G m' → am_P xs d M pc' L (.int x :: r) m' Q) : am_P xs d M pc L (b1 :: .ref c :: r) m Q := w_cV1 h hp hm hc (am_recv_str h1 h2 ho) (hv.up hd) (fun v m' q => by obtain ⟨rfl, q⟩ := q; exact k m' q)
theorem w_cT2i {xs : List Int32} {d : Nat} {M : am_M} {pc pc' : Nat} {L : am_L} {r : List Value} {m : am_Mm} {Q : am_Q} {b1 b2 : Value} {x : Int32} {c idx y d' : Nat} {G : am_Mm → Prop} (hv : am_V xs d' y [.ref c, b1, b2] m (am_qi x G)) (hd : d' ≤ d) (h : am_at M pc = some (.invokevirtual idx, 3)) (hp : pc + 3 = pc') (hm : (am_mt M.1).lookup idx = some (0, y, 2)) (hc : am_cat r ≤ 8) (h1 : ¬ c < 1000000) (h2 : c < 1000005) (ho : am_ow y = 10) (k : ∀ m', G m' → am_P xs d M pc' L (.int x :: r) m' Q) : am_P xs d M pc L (b2 :: b1 :: .ref c :: r) m Q := w_cV2 h hp hm hc (am_recv_str h1 h2 ho) (hv.up hd) (fun v m' q => by obtain ⟨rfl, q⟩ := q; exact k m' q)
theorem ch_w : ∀ v, v < 128 → (nI v &&& 255) = nI v ∧ ((nI v).toUInt32 % 65536).toInt32 = nI v ∧ narrow .char (.int (nI v)) = .int (nI v) ∧ (nI v).toInt8.toInt32 = nI v := by decide +kernel
def q_str (j : Nat) : List Nat := if j = 0 then [116, 117, 114, 110, 32] else if j = 1 then [98, 97, 99, 107, 32] else if j = 2 then [107, 110, 111, 119, 32] else if j = 3 then [112, 107, 118, 109, 115, 104] else [60, 61, 62]
/-- where a sign stands first, counted from k on -/
def ixo : List Nat → Nat → Nat → Int32
  | [], _, _ => -1
  | v :: l, t, k => if v = t then nI k else ixo l t (k + 1)
set_option maxRecDepth 100000 in
set_option maxHeartbeats 4000000 in
theorem v_jpci (xs : List Int32) (m : am_Mm) {a b : Nat} (ha : a < b) (hb : b < 1000) : am_V xs 1 69 [.int (nI a), .int (nI b), .ref 1000300] m (am_qi (nI a) (· = m)) := by
  refine am_V_of ky_69 (Nat.le_of_ble_eq_true rfl) ?_
  show am_P xs 0 jp_checkIndex 0 [some (.int (nI a)), some (.int (nI b)), some (.ref 1000300)] [] m _
  refine w_iload_n (pc' := 1) rfl rfl rfl ?_
  refine w_if_lt (t := 9) (pc' := 4) rfl (by decide) rfl (fun h1 => ?_) (fun h1 => ?_)
  · have g1 : a < 0 := (nI_ltI (a := a) (b := 0) (by omega) (by omega)).mp h1
    omega
  · have g2 : ¬ a < 0 := fun q => h1 ((nI_ltI (a := a) (b := 0) (by omega) (by omega)).mpr q)
    refine w_iload_n (pc' := 5) rfl rfl rfl ?_
    refine w_iload_n (pc' := 6) rfl rfl rfl ?_
    refine w_ic_lt (t := 16) (pc' := 9) rfl (by decide) rfl (fun h6 => ?_) (fun h6 => ?_)
    · have g3 : a < b := (nI_ltI (a := a) (b := b) (by omega) (by omega)).mp h6
      refine w_iload_n (pc' := 17) rfl rfl rfl ?_
      refine w_iret rfl rfl rfl ?_
      exact ⟨rfl, rfl⟩
    · have g4 : ¬ a < b := fun q => h6 ((nI_ltI (a := a) (b := b) (by omega) (by omega)).mpr q)
      omega
set_option maxRecDepth 100000 in
set_option maxHeartbeats 4000000 in
theorem v_jsci (xs : List Int32) (m : am_Mm) {a b : Nat} (ha : a < b) (hb : b < 1000) : am_V xs 2 68 [.int (nI a), .int (nI b)] m (am_qn (· = m)) := by
  refine am_V_of ky_68 (Nat.le_of_ble_eq_true rfl) ?_
  show am_P xs 1 js_checkIndex 0 [some (.int (nI a)), some (.int (nI b))] [] m _
  refine w_iload_n (pc' := 1) rfl rfl rfl ?_
  refine w_iload_n (pc' := 2) rfl rfl rfl ?_
  refine w_gets (sid := 0) (pc' := 5) rfl rfl (fun _ => rfl) ?_
  refine w_cS3i (pc' := 8) (v_jpci xs m ha hb) (by decide) rfl rfl rfl (Or.inl rfl) (Nat.le_of_ble_eq_true rfl) (fun m' hm' => ?_)
  rw [show m' = m from hm']
  clear hm' m'
  refine w_pop (pc' := 9) rfl rfl rfl ?_
  refine w_vret rfl rfl ?_
  exact ⟨rfl, rfl⟩
set_option maxRecDepth 100000 in
set_option maxHeartbeats 4000000 in
theorem v_cod0 (xs : List Int32) (m : am_Mm) : am_V xs 1 64 [.ref 1000000] m (am_qi 0 (· = m)) := by
  refine am_V_of ky_64 (Nat.le_of_ble_eq_true rfl) ?_
  show am_P xs 0 js_coder 0 [some (.ref 1000000)] [] m _
  refine w_gets (sid := 0) (pc' := 3) rfl rfl (fun _ => rfl) ?_
  refine w_if_eq (t := 13) (pc' := 6) rfl (by decide) rfl (fun h3 => ?_) (fun h3 => ?_)
  · exact absurd h3 (by decide)
  · refine w_aload_n (pc' := 7) rfl rfl rfl rfl ?_
    refine w_getS (pc' := 10) rfl rfl (fun _ => rfl) ?_
    refine w_goto (pc' := 14) rfl (by decide) ?_
    refine w_iret rfl rfl (by first | rfl | exact am_nbI _) ?_
    exact ⟨rfl, rfl⟩
set_option maxRecDepth 100000 in
set_option maxHeartbeats 4000000 in
theorem v_len0 (xs : List Int32) (m : am_Mm) : am_V xs 2 63 [.ref 1000000] m (am_qi (nI 5) (· = m)) := by
  refine am_V_of ky_63 (Nat.le_of_ble_eq_true rfl) ?_
  show am_P xs 1 js_length 0 [some (.ref 1000000)] [] m _
  refine w_aload_n (pc' := 1) rfl rfl rfl rfl ?_
  refine w_getS (pc' := 4) rfl rfl (fun _ => rfl) ?_
  refine w_alenR (v := 5) (pc' := 5) rfl rfl (by decide) rfl rfl ?_
  refine w_aload_n (pc' := 6) rfl rfl rfl rfl ?_
  refine w_cT0i (pc' := 9) (v_cod0 xs m) (by decide) rfl rfl rfl (Nat.le_of_ble_eq_true rfl) (by decide) (by decide) rfl (fun m' hm' => ?_)
  rw [show m' = m from hm']
  clear hm' m'
  refine w_ishr (pc' := 10) rfl rfl ?_
  rw [show (5 : Int32) >>> ((0 : Int32) &&& 31) = nI 5 from by decide]
  refine w_iret rfl rfl rfl ?_
  exact ⟨rfl, rfl⟩
set_option maxRecDepth 100000 in
set_option maxHeartbeats 4000000 in
theorem v_lat0 (xs : List Int32) (m : am_Mm) : am_V xs 1 66 [.ref 1000000] m (am_qi 1 (· = m)) := by
  refine am_V_of ky_66 (Nat.le_of_ble_eq_true rfl) ?_
  show am_P xs 0 js_isLatin1 0 [some (.ref 1000000)] [] m _
  refine w_gets (sid := 0) (pc' := 3) rfl rfl (fun _ => rfl) ?_
  refine w_if_eq (t := 17) (pc' := 6) rfl (by decide) rfl (fun h3 => ?_) (fun h3 => ?_)
  · exact absurd h3 (by decide)
  · refine w_aload_n (pc' := 7) rfl rfl rfl rfl ?_
    refine w_getS (pc' := 10) rfl rfl (fun _ => rfl) ?_
    refine w_if_ne (t := 17) (pc' := 13) rfl (by decide) rfl (fun h10 => ?_) (fun h10 => ?_)
    · exact absurd h10 (by decide)
    · refine w_iconst (pc' := 14) 1 rfl rfl ic_1 ?_
      refine w_goto (pc' := 18) rfl (by decide) ?_
      refine w_iret rfl rfl (by first | rfl | exact am_nbI _) ?_
      exact ⟨rfl, rfl⟩
set_option maxRecDepth 100000 in
set_option maxHeartbeats 4000000 in
theorem v_jlc0 (xs : List Int32) (m : am_Mm) {i v : Nat} (hi : i < 5) (hs : (q_str 0)[i]? = some v) (hv : v < 128) : am_V xs 3 67 [.ref 1000100, .int (nI i)] m (am_qi (nI v) (· = m)) := by
  refine am_V_of ky_67 (Nat.le_of_ble_eq_true rfl) ?_
  show am_P xs 2 jl_charAt 0 [some (.ref 1000100), some (.int (nI i))] [] m _
  refine w_iload_n (pc' := 1) rfl rfl rfl ?_
  refine w_aload_n (pc' := 2) rfl rfl rfl rfl ?_
  refine w_alenR (v := 5) (pc' := 3) rfl rfl (by decide) rfl rfl ?_
  refine w_cS2n (pc' := 6) (v_jsci xs m (a := i) (b := 5) hi (by omega)) (by decide) rfl rfl rfl (Or.inl rfl) (Nat.le_of_ble_eq_true rfl) (fun m' hm' => ?_)
  rw [show m' = m from hm']
  clear hm' m'
  refine w_aload_n (pc' := 7) rfl rfl rfl rfl ?_
  refine w_iload_n (pc' := 8) rfl rfl rfl ?_
  refine w_baldR (j := i) (pc' := 9) rfl rfl (by decide) rfl rfl (show ((q_str 0).map nI)[i]? = some (nI v) from by rw [List.getElem?_map, hs]; rfl) (by omega) ?_
  refine w_sipush (pc' := 12) 255 rfl rfl sp_255 ?_
  refine w_iand (pc' := 13) rfl rfl ?_
  rw [(ch_w v hv).1]
  refine w_i2c (pc' := 14) rfl rfl ?_
  rw [(ch_w v hv).2.1]
  refine w_iret rfl rfl (ch_w v hv).2.2.1 ?_
  exact ⟨rfl, rfl⟩
set_option maxRecDepth 100000 in
set_option maxHeartbeats 4000000 in
theorem v_chr0 (xs : List Int32) (m : am_Mm) {i v : Nat} (hi : i < 5) (hs : (q_str 0)[i]? = some v) (hv : v < 128) : am_V xs 4 65 [.ref 1000000, .int (nI i)] m (am_qi (nI v) (· = m)) := by
  refine am_V_of ky_65 (Nat.le_of_ble_eq_true rfl) ?_
  show am_P xs 3 js_charAt 0 [some (.ref 1000000), some (.int (nI i))] [] m _
  refine w_aload_n (pc' := 1) rfl rfl rfl rfl ?_
  refine w_cT0i (pc' := 4) (v_lat0 xs m) (by decide) rfl rfl rfl (Nat.le_of_ble_eq_true rfl) (by decide) (by decide) rfl (fun m' hm' => ?_)
  rw [show m' = m from hm']
  clear hm' m'
  refine w_if_eq (t := 16) (pc' := 7) rfl (by decide) rfl (fun h4 => ?_) (fun h4 => ?_)
  · exact absurd h4 (by decide)
  · refine w_aload_n (pc' := 8) rfl rfl rfl rfl ?_
    refine w_getS (pc' := 11) rfl rfl (fun _ => rfl) ?_
    refine w_iload_n (pc' := 12) rfl rfl rfl ?_
    refine w_cS2i (pc' := 15) (v_jlc0 xs m hi hs hv) (by decide) rfl rfl rfl (Or.inl rfl) (Nat.le_of_ble_eq_true rfl) (fun m' hm' => ?_)
    rw [show m' = m from hm']
    clear hm' m'
    refine w_iret rfl rfl (ch_w v hv).2.2.1 ?_
    exact ⟨rfl, rfl⟩
set_option maxRecDepth 100000 in
set_option maxHeartbeats 4000000 in
theorem v_cod1 (xs : List Int32) (m : am_Mm) : am_V xs 1 64 [.ref 1000001] m (am_qi 0 (· = m)) := by
  refine am_V_of ky_64 (Nat.le_of_ble_eq_true rfl) ?_
  show am_P xs 0 js_coder 0 [some (.ref 1000001)] [] m _
  refine w_gets (sid := 0) (pc' := 3) rfl rfl (fun _ => rfl) ?_
  refine w_if_eq (t := 13) (pc' := 6) rfl (by decide) rfl (fun h3 => ?_) (fun h3 => ?_)
  · exact absurd h3 (by decide)
  · refine w_aload_n (pc' := 7) rfl rfl rfl rfl ?_
    refine w_getS (pc' := 10) rfl rfl (fun _ => rfl) ?_
    refine w_goto (pc' := 14) rfl (by decide) ?_
    refine w_iret rfl rfl (by first | rfl | exact am_nbI _) ?_
    exact ⟨rfl, rfl⟩
set_option maxRecDepth 100000 in
set_option maxHeartbeats 4000000 in
theorem v_len1 (xs : List Int32) (m : am_Mm) : am_V xs 2 63 [.ref 1000001] m (am_qi (nI 5) (· = m)) := by
  refine am_V_of ky_63 (Nat.le_of_ble_eq_true rfl) ?_
  show am_P xs 1 js_length 0 [some (.ref 1000001)] [] m _
  refine w_aload_n (pc' := 1) rfl rfl rfl rfl ?_
  refine w_getS (pc' := 4) rfl rfl (fun _ => rfl) ?_
  refine w_alenR (v := 5) (pc' := 5) rfl rfl (by decide) rfl rfl ?_
  refine w_aload_n (pc' := 6) rfl rfl rfl rfl ?_
  refine w_cT0i (pc' := 9) (v_cod1 xs m) (by decide) rfl rfl rfl (Nat.le_of_ble_eq_true rfl) (by decide) (by decide) rfl (fun m' hm' => ?_)
  rw [show m' = m from hm']
  clear hm' m'
  refine w_ishr (pc' := 10) rfl rfl ?_
  rw [show (5 : Int32) >>> ((0 : Int32) &&& 31) = nI 5 from by decide]
  refine w_iret rfl rfl rfl ?_
  exact ⟨rfl, rfl⟩
set_option maxRecDepth 100000 in
set_option maxHeartbeats 4000000 in
theorem v_lat1 (xs : List Int32) (m : am_Mm) : am_V xs 1 66 [.ref 1000001] m (am_qi 1 (· = m)) := by
  refine am_V_of ky_66 (Nat.le_of_ble_eq_true rfl) ?_
  show am_P xs 0 js_isLatin1 0 [some (.ref 1000001)] [] m _
  refine w_gets (sid := 0) (pc' := 3) rfl rfl (fun _ => rfl) ?_
  refine w_if_eq (t := 17) (pc' := 6) rfl (by decide) rfl (fun h3 => ?_) (fun h3 => ?_)
  · exact absurd h3 (by decide)
  · refine w_aload_n (pc' := 7) rfl rfl rfl rfl ?_
    refine w_getS (pc' := 10) rfl rfl (fun _ => rfl) ?_
    refine w_if_ne (t := 17) (pc' := 13) rfl (by decide) rfl (fun h10 => ?_) (fun h10 => ?_)
    · exact absurd h10 (by decide)
    · refine w_iconst (pc' := 14) 1 rfl rfl ic_1 ?_
      refine w_goto (pc' := 18) rfl (by decide) ?_
      refine w_iret rfl rfl (by first | rfl | exact am_nbI _) ?_
      exact ⟨rfl, rfl⟩
set_option maxRecDepth 100000 in
set_option maxHeartbeats 4000000 in
theorem v_jlc1 (xs : List Int32) (m : am_Mm) {i v : Nat} (hi : i < 5) (hs : (q_str 1)[i]? = some v) (hv : v < 128) : am_V xs 3 67 [.ref 1000101, .int (nI i)] m (am_qi (nI v) (· = m)) := by
  refine am_V_of ky_67 (Nat.le_of_ble_eq_true rfl) ?_
  show am_P xs 2 jl_charAt 0 [some (.ref 1000101), some (.int (nI i))] [] m _
  refine w_iload_n (pc' := 1) rfl rfl rfl ?_
  refine w_aload_n (pc' := 2) rfl rfl rfl rfl ?_
  refine w_alenR (v := 5) (pc' := 3) rfl rfl (by decide) rfl rfl ?_
  refine w_cS2n (pc' := 6) (v_jsci xs m (a := i) (b := 5) hi (by omega)) (by decide) rfl rfl rfl (Or.inl rfl) (Nat.le_of_ble_eq_true rfl) (fun m' hm' => ?_)
  rw [show m' = m from hm']
  clear hm' m'
  refine w_aload_n (pc' := 7) rfl rfl rfl rfl ?_
  refine w_iload_n (pc' := 8) rfl rfl rfl ?_
  refine w_baldR (j := i) (pc' := 9) rfl rfl (by decide) rfl rfl (show ((q_str 1).map nI)[i]? = some (nI v) from by rw [List.getElem?_map, hs]; rfl) (by omega) ?_
  refine w_sipush (pc' := 12) 255 rfl rfl sp_255 ?_
  refine w_iand (pc' := 13) rfl rfl ?_
  rw [(ch_w v hv).1]
  refine w_i2c (pc' := 14) rfl rfl ?_
  rw [(ch_w v hv).2.1]
  refine w_iret rfl rfl (ch_w v hv).2.2.1 ?_
  exact ⟨rfl, rfl⟩
set_option maxRecDepth 100000 in
set_option maxHeartbeats 4000000 in
theorem v_chr1 (xs : List Int32) (m : am_Mm) {i v : Nat} (hi : i < 5) (hs : (q_str 1)[i]? = some v) (hv : v < 128) : am_V xs 4 65 [.ref 1000001, .int (nI i)] m (am_qi (nI v) (· = m)) := by
  refine am_V_of ky_65 (Nat.le_of_ble_eq_true rfl) ?_
  show am_P xs 3 js_charAt 0 [some (.ref 1000001), some (.int (nI i))] [] m _
  refine w_aload_n (pc' := 1) rfl rfl rfl rfl ?_
  refine w_cT0i (pc' := 4) (v_lat1 xs m) (by decide) rfl rfl rfl (Nat.le_of_ble_eq_true rfl) (by decide) (by decide) rfl (fun m' hm' => ?_)
  rw [show m' = m from hm']
  clear hm' m'
  refine w_if_eq (t := 16) (pc' := 7) rfl (by decide) rfl (fun h4 => ?_) (fun h4 => ?_)
  · exact absurd h4 (by decide)
  · refine w_aload_n (pc' := 8) rfl rfl rfl rfl ?_
    refine w_getS (pc' := 11) rfl rfl (fun _ => rfl) ?_
    refine w_iload_n (pc' := 12) rfl rfl rfl ?_
    refine w_cS2i (pc' := 15) (v_jlc1 xs m hi hs hv) (by decide) rfl rfl rfl (Or.inl rfl) (Nat.le_of_ble_eq_true rfl) (fun m' hm' => ?_)
    rw [show m' = m from hm']
    clear hm' m'
    refine w_iret rfl rfl (ch_w v hv).2.2.1 ?_
    exact ⟨rfl, rfl⟩
set_option maxRecDepth 100000 in
set_option maxHeartbeats 4000000 in
theorem v_cod2 (xs : List Int32) (m : am_Mm) : am_V xs 1 64 [.ref 1000002] m (am_qi 0 (· = m)) := by
  refine am_V_of ky_64 (Nat.le_of_ble_eq_true rfl) ?_
  show am_P xs 0 js_coder 0 [some (.ref 1000002)] [] m _
  refine w_gets (sid := 0) (pc' := 3) rfl rfl (fun _ => rfl) ?_
  refine w_if_eq (t := 13) (pc' := 6) rfl (by decide) rfl (fun h3 => ?_) (fun h3 => ?_)
  · exact absurd h3 (by decide)
  · refine w_aload_n (pc' := 7) rfl rfl rfl rfl ?_
    refine w_getS (pc' := 10) rfl rfl (fun _ => rfl) ?_
    refine w_goto (pc' := 14) rfl (by decide) ?_
    refine w_iret rfl rfl (by first | rfl | exact am_nbI _) ?_
    exact ⟨rfl, rfl⟩
set_option maxRecDepth 100000 in
set_option maxHeartbeats 4000000 in
theorem v_len2 (xs : List Int32) (m : am_Mm) : am_V xs 2 63 [.ref 1000002] m (am_qi (nI 5) (· = m)) := by
  refine am_V_of ky_63 (Nat.le_of_ble_eq_true rfl) ?_
  show am_P xs 1 js_length 0 [some (.ref 1000002)] [] m _
  refine w_aload_n (pc' := 1) rfl rfl rfl rfl ?_
  refine w_getS (pc' := 4) rfl rfl (fun _ => rfl) ?_
  refine w_alenR (v := 5) (pc' := 5) rfl rfl (by decide) rfl rfl ?_
  refine w_aload_n (pc' := 6) rfl rfl rfl rfl ?_
  refine w_cT0i (pc' := 9) (v_cod2 xs m) (by decide) rfl rfl rfl (Nat.le_of_ble_eq_true rfl) (by decide) (by decide) rfl (fun m' hm' => ?_)
  rw [show m' = m from hm']
  clear hm' m'
  refine w_ishr (pc' := 10) rfl rfl ?_
  rw [show (5 : Int32) >>> ((0 : Int32) &&& 31) = nI 5 from by decide]
  refine w_iret rfl rfl rfl ?_
  exact ⟨rfl, rfl⟩
set_option maxRecDepth 100000 in
set_option maxHeartbeats 4000000 in
theorem v_lat2 (xs : List Int32) (m : am_Mm) : am_V xs 1 66 [.ref 1000002] m (am_qi 1 (· = m)) := by
  refine am_V_of ky_66 (Nat.le_of_ble_eq_true rfl) ?_
  show am_P xs 0 js_isLatin1 0 [some (.ref 1000002)] [] m _
  refine w_gets (sid := 0) (pc' := 3) rfl rfl (fun _ => rfl) ?_
  refine w_if_eq (t := 17) (pc' := 6) rfl (by decide) rfl (fun h3 => ?_) (fun h3 => ?_)
  · exact absurd h3 (by decide)
  · refine w_aload_n (pc' := 7) rfl rfl rfl rfl ?_
    refine w_getS (pc' := 10) rfl rfl (fun _ => rfl) ?_
    refine w_if_ne (t := 17) (pc' := 13) rfl (by decide) rfl (fun h10 => ?_) (fun h10 => ?_)
    · exact absurd h10 (by decide)
    · refine w_iconst (pc' := 14) 1 rfl rfl ic_1 ?_
      refine w_goto (pc' := 18) rfl (by decide) ?_
      refine w_iret rfl rfl (by first | rfl | exact am_nbI _) ?_
      exact ⟨rfl, rfl⟩
set_option maxRecDepth 100000 in
set_option maxHeartbeats 4000000 in
theorem v_jlc2 (xs : List Int32) (m : am_Mm) {i v : Nat} (hi : i < 5) (hs : (q_str 2)[i]? = some v) (hv : v < 128) : am_V xs 3 67 [.ref 1000102, .int (nI i)] m (am_qi (nI v) (· = m)) := by
  refine am_V_of ky_67 (Nat.le_of_ble_eq_true rfl) ?_
  show am_P xs 2 jl_charAt 0 [some (.ref 1000102), some (.int (nI i))] [] m _
  refine w_iload_n (pc' := 1) rfl rfl rfl ?_
  refine w_aload_n (pc' := 2) rfl rfl rfl rfl ?_
  refine w_alenR (v := 5) (pc' := 3) rfl rfl (by decide) rfl rfl ?_
  refine w_cS2n (pc' := 6) (v_jsci xs m (a := i) (b := 5) hi (by omega)) (by decide) rfl rfl rfl (Or.inl rfl) (Nat.le_of_ble_eq_true rfl) (fun m' hm' => ?_)
  rw [show m' = m from hm']
  clear hm' m'
  refine w_aload_n (pc' := 7) rfl rfl rfl rfl ?_
  refine w_iload_n (pc' := 8) rfl rfl rfl ?_
  refine w_baldR (j := i) (pc' := 9) rfl rfl (by decide) rfl rfl (show ((q_str 2).map nI)[i]? = some (nI v) from by rw [List.getElem?_map, hs]; rfl) (by omega) ?_
  refine w_sipush (pc' := 12) 255 rfl rfl sp_255 ?_
  refine w_iand (pc' := 13) rfl rfl ?_
  rw [(ch_w v hv).1]
  refine w_i2c (pc' := 14) rfl rfl ?_
  rw [(ch_w v hv).2.1]
  refine w_iret rfl rfl (ch_w v hv).2.2.1 ?_
  exact ⟨rfl, rfl⟩
set_option maxRecDepth 100000 in
set_option maxHeartbeats 4000000 in
theorem v_chr2 (xs : List Int32) (m : am_Mm) {i v : Nat} (hi : i < 5) (hs : (q_str 2)[i]? = some v) (hv : v < 128) : am_V xs 4 65 [.ref 1000002, .int (nI i)] m (am_qi (nI v) (· = m)) := by
  refine am_V_of ky_65 (Nat.le_of_ble_eq_true rfl) ?_
  show am_P xs 3 js_charAt 0 [some (.ref 1000002), some (.int (nI i))] [] m _
  refine w_aload_n (pc' := 1) rfl rfl rfl rfl ?_
  refine w_cT0i (pc' := 4) (v_lat2 xs m) (by decide) rfl rfl rfl (Nat.le_of_ble_eq_true rfl) (by decide) (by decide) rfl (fun m' hm' => ?_)
  rw [show m' = m from hm']
  clear hm' m'
  refine w_if_eq (t := 16) (pc' := 7) rfl (by decide) rfl (fun h4 => ?_) (fun h4 => ?_)
  · exact absurd h4 (by decide)
  · refine w_aload_n (pc' := 8) rfl rfl rfl rfl ?_
    refine w_getS (pc' := 11) rfl rfl (fun _ => rfl) ?_
    refine w_iload_n (pc' := 12) rfl rfl rfl ?_
    refine w_cS2i (pc' := 15) (v_jlc2 xs m hi hs hv) (by decide) rfl rfl rfl (Or.inl rfl) (Nat.le_of_ble_eq_true rfl) (fun m' hm' => ?_)
    rw [show m' = m from hm']
    clear hm' m'
    refine w_iret rfl rfl (ch_w v hv).2.2.1 ?_
    exact ⟨rfl, rfl⟩
set_option maxRecDepth 100000 in
set_option maxHeartbeats 4000000 in
theorem v_cod3 (xs : List Int32) (m : am_Mm) : am_V xs 1 64 [.ref 1000003] m (am_qi 0 (· = m)) := by
  refine am_V_of ky_64 (Nat.le_of_ble_eq_true rfl) ?_
  show am_P xs 0 js_coder 0 [some (.ref 1000003)] [] m _
  refine w_gets (sid := 0) (pc' := 3) rfl rfl (fun _ => rfl) ?_
  refine w_if_eq (t := 13) (pc' := 6) rfl (by decide) rfl (fun h3 => ?_) (fun h3 => ?_)
  · exact absurd h3 (by decide)
  · refine w_aload_n (pc' := 7) rfl rfl rfl rfl ?_
    refine w_getS (pc' := 10) rfl rfl (fun _ => rfl) ?_
    refine w_goto (pc' := 14) rfl (by decide) ?_
    refine w_iret rfl rfl (by first | rfl | exact am_nbI _) ?_
    exact ⟨rfl, rfl⟩
set_option maxRecDepth 100000 in
set_option maxHeartbeats 4000000 in
theorem v_len3 (xs : List Int32) (m : am_Mm) : am_V xs 2 63 [.ref 1000003] m (am_qi (nI 6) (· = m)) := by
  refine am_V_of ky_63 (Nat.le_of_ble_eq_true rfl) ?_
  show am_P xs 1 js_length 0 [some (.ref 1000003)] [] m _
  refine w_aload_n (pc' := 1) rfl rfl rfl rfl ?_
  refine w_getS (pc' := 4) rfl rfl (fun _ => rfl) ?_
  refine w_alenR (v := 6) (pc' := 5) rfl rfl (by decide) rfl rfl ?_
  refine w_aload_n (pc' := 6) rfl rfl rfl rfl ?_
  refine w_cT0i (pc' := 9) (v_cod3 xs m) (by decide) rfl rfl rfl (Nat.le_of_ble_eq_true rfl) (by decide) (by decide) rfl (fun m' hm' => ?_)
  rw [show m' = m from hm']
  clear hm' m'
  refine w_ishr (pc' := 10) rfl rfl ?_
  rw [show (6 : Int32) >>> ((0 : Int32) &&& 31) = nI 6 from by decide]
  refine w_iret rfl rfl rfl ?_
  exact ⟨rfl, rfl⟩
set_option maxRecDepth 100000 in
set_option maxHeartbeats 4000000 in
theorem v_lat3 (xs : List Int32) (m : am_Mm) : am_V xs 1 66 [.ref 1000003] m (am_qi 1 (· = m)) := by
  refine am_V_of ky_66 (Nat.le_of_ble_eq_true rfl) ?_
  show am_P xs 0 js_isLatin1 0 [some (.ref 1000003)] [] m _
  refine w_gets (sid := 0) (pc' := 3) rfl rfl (fun _ => rfl) ?_
  refine w_if_eq (t := 17) (pc' := 6) rfl (by decide) rfl (fun h3 => ?_) (fun h3 => ?_)
  · exact absurd h3 (by decide)
  · refine w_aload_n (pc' := 7) rfl rfl rfl rfl ?_
    refine w_getS (pc' := 10) rfl rfl (fun _ => rfl) ?_
    refine w_if_ne (t := 17) (pc' := 13) rfl (by decide) rfl (fun h10 => ?_) (fun h10 => ?_)
    · exact absurd h10 (by decide)
    · refine w_iconst (pc' := 14) 1 rfl rfl ic_1 ?_
      refine w_goto (pc' := 18) rfl (by decide) ?_
      refine w_iret rfl rfl (by first | rfl | exact am_nbI _) ?_
      exact ⟨rfl, rfl⟩
set_option maxRecDepth 100000 in
set_option maxHeartbeats 4000000 in
theorem v_jlc3 (xs : List Int32) (m : am_Mm) {i v : Nat} (hi : i < 6) (hs : (q_str 3)[i]? = some v) (hv : v < 128) : am_V xs 3 67 [.ref 1000103, .int (nI i)] m (am_qi (nI v) (· = m)) := by
  refine am_V_of ky_67 (Nat.le_of_ble_eq_true rfl) ?_
  show am_P xs 2 jl_charAt 0 [some (.ref 1000103), some (.int (nI i))] [] m _
  refine w_iload_n (pc' := 1) rfl rfl rfl ?_
  refine w_aload_n (pc' := 2) rfl rfl rfl rfl ?_
  refine w_alenR (v := 6) (pc' := 3) rfl rfl (by decide) rfl rfl ?_
  refine w_cS2n (pc' := 6) (v_jsci xs m (a := i) (b := 6) hi (by omega)) (by decide) rfl rfl rfl (Or.inl rfl) (Nat.le_of_ble_eq_true rfl) (fun m' hm' => ?_)
  rw [show m' = m from hm']
  clear hm' m'
  refine w_aload_n (pc' := 7) rfl rfl rfl rfl ?_
  refine w_iload_n (pc' := 8) rfl rfl rfl ?_
  refine w_baldR (j := i) (pc' := 9) rfl rfl (by decide) rfl rfl (show ((q_str 3).map nI)[i]? = some (nI v) from by rw [List.getElem?_map, hs]; rfl) (by omega) ?_
  refine w_sipush (pc' := 12) 255 rfl rfl sp_255 ?_
  refine w_iand (pc' := 13) rfl rfl ?_
  rw [(ch_w v hv).1]
  refine w_i2c (pc' := 14) rfl rfl ?_
  rw [(ch_w v hv).2.1]
  refine w_iret rfl rfl (ch_w v hv).2.2.1 ?_
  exact ⟨rfl, rfl⟩
set_option maxRecDepth 100000 in
set_option maxHeartbeats 4000000 in
theorem v_chr3 (xs : List Int32) (m : am_Mm) {i v : Nat} (hi : i < 6) (hs : (q_str 3)[i]? = some v) (hv : v < 128) : am_V xs 4 65 [.ref 1000003, .int (nI i)] m (am_qi (nI v) (· = m)) := by
  refine am_V_of ky_65 (Nat.le_of_ble_eq_true rfl) ?_
  show am_P xs 3 js_charAt 0 [some (.ref 1000003), some (.int (nI i))] [] m _
  refine w_aload_n (pc' := 1) rfl rfl rfl rfl ?_
  refine w_cT0i (pc' := 4) (v_lat3 xs m) (by decide) rfl rfl rfl (Nat.le_of_ble_eq_true rfl) (by decide) (by decide) rfl (fun m' hm' => ?_)
  rw [show m' = m from hm']
  clear hm' m'
  refine w_if_eq (t := 16) (pc' := 7) rfl (by decide) rfl (fun h4 => ?_) (fun h4 => ?_)
  · exact absurd h4 (by decide)
  · refine w_aload_n (pc' := 8) rfl rfl rfl rfl ?_
    refine w_getS (pc' := 11) rfl rfl (fun _ => rfl) ?_
    refine w_iload_n (pc' := 12) rfl rfl rfl ?_
    refine w_cS2i (pc' := 15) (v_jlc3 xs m hi hs hv) (by decide) rfl rfl rfl (Or.inl rfl) (Nat.le_of_ble_eq_true rfl) (fun m' hm' => ?_)
    rw [show m' = m from hm']
    clear hm' m'
    refine w_iret rfl rfl (ch_w v hv).2.2.1 ?_
    exact ⟨rfl, rfl⟩
set_option maxRecDepth 100000 in
set_option maxHeartbeats 4000000 in
theorem v_cod4 (xs : List Int32) (m : am_Mm) : am_V xs 1 64 [.ref 1000004] m (am_qi 0 (· = m)) := by
  refine am_V_of ky_64 (Nat.le_of_ble_eq_true rfl) ?_
  show am_P xs 0 js_coder 0 [some (.ref 1000004)] [] m _
  refine w_gets (sid := 0) (pc' := 3) rfl rfl (fun _ => rfl) ?_
  refine w_if_eq (t := 13) (pc' := 6) rfl (by decide) rfl (fun h3 => ?_) (fun h3 => ?_)
  · exact absurd h3 (by decide)
  · refine w_aload_n (pc' := 7) rfl rfl rfl rfl ?_
    refine w_getS (pc' := 10) rfl rfl (fun _ => rfl) ?_
    refine w_goto (pc' := 14) rfl (by decide) ?_
    refine w_iret rfl rfl (by first | rfl | exact am_nbI _) ?_
    exact ⟨rfl, rfl⟩
set_option maxRecDepth 100000 in
set_option maxHeartbeats 4000000 in
theorem v_len4 (xs : List Int32) (m : am_Mm) : am_V xs 2 63 [.ref 1000004] m (am_qi (nI 3) (· = m)) := by
  refine am_V_of ky_63 (Nat.le_of_ble_eq_true rfl) ?_
  show am_P xs 1 js_length 0 [some (.ref 1000004)] [] m _
  refine w_aload_n (pc' := 1) rfl rfl rfl rfl ?_
  refine w_getS (pc' := 4) rfl rfl (fun _ => rfl) ?_
  refine w_alenR (v := 3) (pc' := 5) rfl rfl (by decide) rfl rfl ?_
  refine w_aload_n (pc' := 6) rfl rfl rfl rfl ?_
  refine w_cT0i (pc' := 9) (v_cod4 xs m) (by decide) rfl rfl rfl (Nat.le_of_ble_eq_true rfl) (by decide) (by decide) rfl (fun m' hm' => ?_)
  rw [show m' = m from hm']
  clear hm' m'
  refine w_ishr (pc' := 10) rfl rfl ?_
  rw [show (3 : Int32) >>> ((0 : Int32) &&& 31) = nI 3 from by decide]
  refine w_iret rfl rfl rfl ?_
  exact ⟨rfl, rfl⟩
set_option maxRecDepth 100000 in
set_option maxHeartbeats 4000000 in
theorem v_lat4 (xs : List Int32) (m : am_Mm) : am_V xs 1 66 [.ref 1000004] m (am_qi 1 (· = m)) := by
  refine am_V_of ky_66 (Nat.le_of_ble_eq_true rfl) ?_
  show am_P xs 0 js_isLatin1 0 [some (.ref 1000004)] [] m _
  refine w_gets (sid := 0) (pc' := 3) rfl rfl (fun _ => rfl) ?_
  refine w_if_eq (t := 17) (pc' := 6) rfl (by decide) rfl (fun h3 => ?_) (fun h3 => ?_)
  · exact absurd h3 (by decide)
  · refine w_aload_n (pc' := 7) rfl rfl rfl rfl ?_
    refine w_getS (pc' := 10) rfl rfl (fun _ => rfl) ?_
    refine w_if_ne (t := 17) (pc' := 13) rfl (by decide) rfl (fun h10 => ?_) (fun h10 => ?_)
    · exact absurd h10 (by decide)
    · refine w_iconst (pc' := 14) 1 rfl rfl ic_1 ?_
      refine w_goto (pc' := 18) rfl (by decide) ?_
      refine w_iret rfl rfl (by first | rfl | exact am_nbI _) ?_
      exact ⟨rfl, rfl⟩
set_option maxRecDepth 100000 in
set_option maxHeartbeats 4000000 in
theorem v_jlc4 (xs : List Int32) (m : am_Mm) {i v : Nat} (hi : i < 3) (hs : (q_str 4)[i]? = some v) (hv : v < 128) : am_V xs 3 67 [.ref 1000104, .int (nI i)] m (am_qi (nI v) (· = m)) := by
  refine am_V_of ky_67 (Nat.le_of_ble_eq_true rfl) ?_
  show am_P xs 2 jl_charAt 0 [some (.ref 1000104), some (.int (nI i))] [] m _
  refine w_iload_n (pc' := 1) rfl rfl rfl ?_
  refine w_aload_n (pc' := 2) rfl rfl rfl rfl ?_
  refine w_alenR (v := 3) (pc' := 3) rfl rfl (by decide) rfl rfl ?_
  refine w_cS2n (pc' := 6) (v_jsci xs m (a := i) (b := 3) hi (by omega)) (by decide) rfl rfl rfl (Or.inl rfl) (Nat.le_of_ble_eq_true rfl) (fun m' hm' => ?_)
  rw [show m' = m from hm']
  clear hm' m'
  refine w_aload_n (pc' := 7) rfl rfl rfl rfl ?_
  refine w_iload_n (pc' := 8) rfl rfl rfl ?_
  refine w_baldR (j := i) (pc' := 9) rfl rfl (by decide) rfl rfl (show ((q_str 4).map nI)[i]? = some (nI v) from by rw [List.getElem?_map, hs]; rfl) (by omega) ?_
  refine w_sipush (pc' := 12) 255 rfl rfl sp_255 ?_
  refine w_iand (pc' := 13) rfl rfl ?_
  rw [(ch_w v hv).1]
  refine w_i2c (pc' := 14) rfl rfl ?_
  rw [(ch_w v hv).2.1]
  refine w_iret rfl rfl (ch_w v hv).2.2.1 ?_
  exact ⟨rfl, rfl⟩
set_option maxRecDepth 100000 in
set_option maxHeartbeats 4000000 in
theorem v_chr4 (xs : List Int32) (m : am_Mm) {i v : Nat} (hi : i < 3) (hs : (q_str 4)[i]? = some v) (hv : v < 128) : am_V xs 4 65 [.ref 1000004, .int (nI i)] m (am_qi (nI v) (· = m)) := by
  refine am_V_of ky_65 (Nat.le_of_ble_eq_true rfl) ?_
  show am_P xs 3 js_charAt 0 [some (.ref 1000004), some (.int (nI i))] [] m _
  refine w_aload_n (pc' := 1) rfl rfl rfl rfl ?_
  refine w_cT0i (pc' := 4) (v_lat4 xs m) (by decide) rfl rfl rfl (Nat.le_of_ble_eq_true rfl) (by decide) (by decide) rfl (fun m' hm' => ?_)
  rw [show m' = m from hm']
  clear hm' m'
  refine w_if_eq (t := 16) (pc' := 7) rfl (by decide) rfl (fun h4 => ?_) (fun h4 => ?_)
  · exact absurd h4 (by decide)
  · refine w_aload_n (pc' := 8) rfl rfl rfl rfl ?_
    refine w_getS (pc' := 11) rfl rfl (fun _ => rfl) ?_
    refine w_iload_n (pc' := 12) rfl rfl rfl ?_
    refine w_cS2i (pc' := 15) (v_jlc4 xs m hi hs hv) (by decide) rfl rfl rfl (Or.inl rfl) (Nat.le_of_ble_eq_true rfl) (fun m' hm' => ?_)
    rw [show m' = m from hm']
    clear hm' m'
    refine w_iret rfl rfl (ch_w v hv).2.2.1 ?_
    exact ⟨rfl, rfl⟩
