def bt (x : Int32) (i : Nat) : Bool := x.toBitVec.getLsbD i
theorem b_ext {x y : Int32} (h : ∀ i, i < 32 → bt x i = bt y i) : x = y := Int32.toBitVec_inj.mp (BitVec.eq_of_getLsbD_eq (fun i hi => h i hi))
theorem b_or (x y : Int32) (i : Nat) : bt (x ||| y) i = (bt x i || bt y i) := by unfold bt; rw [Int32.toBitVec_or, BitVec.getLsbD_or]
theorem b_and (x y : Int32) (i : Nat) : bt (x &&& y) i = (bt x i && bt y i) := by unfold bt; rw [Int32.toBitVec_and, BitVec.getLsbD_and]
theorem b_xor (x y : Int32) (i : Nat) : bt (x ^^^ y) i = (bt x i ^^ bt y i) := by unfold bt; rw [Int32.toBitVec_xor, BitVec.getLsbD_xor]
theorem b_big {x : Int32} {i : Nat} (h : 32 ≤ i) : bt x i = false := BitVec.getLsbD_of_ge _ _ h
theorem b_255 (i : Nat) : bt 255 i = decide (i < 8) := by
  rcases Nat.lt_or_ge i 32 with h | h
  · exact (by decide +kernel : ∀ i, i < 32 → bt 255 i = decide (i < 8)) i h
  · rw [b_big h, decide_eq_false (by omega)]
theorem b_65535 (i : Nat) : bt 65535 i = decide (i < 16) := by
  rcases Nat.lt_or_ge i 32 with h | h
  · exact (by decide +kernel : ∀ i, i < 32 → bt 65535 i = decide (i < 16)) i h
  · rw [b_big h, decide_eq_false (by omega)]
theorem b_m1 : ∀ i, i < 32 → bt (-1) i = true := by decide +kernel
theorem b_0 (i : Nat) : bt 0 i = false := BitVec.getLsbD_zero
theorem s_l : ∀ n, n < 32 → ((nI n &&& 31).toBitVec.smod 32).toNat = n := by decide +kernel
theorem s_u : ∀ n, n < 32 → (((nI n).toUInt32 &&& Int32.toUInt32 31).toBitVec % 32).toNat = n := by decide +kernel
theorem b_shl (n : Nat) (hn : n < 32) (x : Int32) {i : Nat} (hi : i < 32) : bt (x <<< (nI n &&& 31)) i = (decide (n ≤ i) && bt x (i - n)) := by
  unfold bt
  rw [Int32.toBitVec_shiftLeft]
  show (x.toBitVec <<< ((nI n &&& 31).toBitVec.smod 32).toNat).getLsbD i = _
  rw [s_l n hn, BitVec.getLsbD_shiftLeft]
  rcases Nat.lt_or_ge i n with h | h
  · simp [h, Nat.not_le.mpr h]
  · simp [hi, h, Nat.not_lt.mpr h]
theorem b_ushr (n : Nat) (hn : n < 32) (x : Int32) (i : Nat) : bt ((x.toUInt32 >>> ((nI n).toUInt32 &&& Int32.toUInt32 31)).toInt32) i = bt x (n + i) := by
  show (x.toUInt32 >>> ((nI n).toUInt32 &&& Int32.toUInt32 31)).toBitVec.getLsbD i = x.toUInt32.toBitVec.getLsbD (n + i)
  rw [UInt32.toBitVec_shiftRight]
  show (x.toUInt32.toBitVec >>> (((nI n).toUInt32 &&& Int32.toUInt32 31).toBitVec % 32).toNat).getLsbD i = _
  rw [s_u n hn, BitVec.getLsbD_ushiftRight]
theorem b_sshr (n : Nat) (hn : n < 32) (x : Int32) {i : Nat} (hi : i < 32) : bt (x >>> (nI n &&& 31)) i = if n + i < 32 then bt x (n + i) else bt x 31 := by
  unfold bt
  rw [Int32.toBitVec_shiftRight]
  show (x.toBitVec.sshiftRight ((nI n &&& 31).toBitVec.smod 32).toNat).getLsbD i = _
  rw [s_l n hn, BitVec.getLsbD_sshiftRight, BitVec.msb_eq_getLsbD_last]
  simp [hi]
theorem nx_and (a b : Nat) : nI a &&& nI b = nI (a &&& b) := by
  apply Int32.toBitVec_inj.1
  show BitVec.ofNat 32 a &&& BitVec.ofNat 32 b = BitVec.ofNat 32 (a &&& b)
  apply BitVec.eq_of_getLsbD_eq
  intro i hi
  simp [hi]
theorem nx_xor (a b : Nat) : nI a ^^^ nI b = nI (a ^^^ b) := by
  apply Int32.toBitVec_inj.1
  show BitVec.ofNat 32 a ^^^ BitVec.ofNat 32 b = BitVec.ofNat 32 (a ^^^ b)
  apply BitVec.eq_of_getLsbD_eq
  intro i hi
  simp [hi]
theorem nI_divI {a c : Nat} (ha : a < 2 ^ 31) (h0 : 0 < c) (hc : c < 2 ^ 31) : nI a / nI c = nI (a / c) := Int32.toInt_inj.mp (by
  have h1 : a / c ≤ a := Nat.div_le_self a c
  rw [Int32.toInt_div_of_ne_right _ _ (fun q => nI_pos hc (by rw [q]; decide)), nI_toInt ha, nI_toInt hc, nI_toInt (n := a / c) (by omega), Int.tdiv_eq_ediv_of_nonneg (by omega)]
  rfl)
theorem nI_remI {a c : Nat} (ha : a < 2 ^ 31) (h0 : 0 < c) (hc : c < 2 ^ 31) : nI a - nI a / nI c * nI c = nI (a % c) := by
  have h1 : a / c * c ≤ a := Nat.div_mul_le_self a c
  have h2 := Nat.div_add_mod a c
  rw [Nat.mul_comm] at h2
  rw [nI_divI ha h0 hc, nI_mul, nI_subN h1]
  congr 1
  generalize a / c * c = z at *
  omega
/-- nothing but the stack of truths changes -/
def q_St (m m' : am_Mm) : Prop := (∀ c, c ≠ 170 → m'.1 c = m.1 c) ∧ m'.2 = m.2
theorem q_St.rf {m : am_Mm} : q_St m m := ⟨fun _ _ => rfl, rfl⟩
theorem q_St.tr {m m' m'' : am_Mm} (h : q_St m m') (h' : q_St m' m'') : q_St m m'' := ⟨fun c hc => (h'.1 c hc).trans (h.1 c hc), h'.2.trans h.2⟩
theorem q_St.u {m m' : am_Mm} {k : Nat} {x : Int32} (h : q_St m m') : q_St m (am_u m' 170 k x) := ⟨fun c hc => (am_u_nc hc).trans (h.1 c hc), h.2⟩
theorem q_St.Rm {T : q_T} {m m' : am_Mm} (h : q_St m m') (hR : q_Rm T m) : q_Rm T m' := by
  refine ⟨fun c k hv => ?_, q_ROf.same hR.2.1 (congrFun (h.1 153 (by decide)) _) (congrFun (h.1 153 (by decide)) _) (fun c h1 h2 => h.1 c (by omega)), ?_⟩
  · rw [h.1 c (by rintro rfl; cases hv)]
    exact hR.1 c k hv
  · rw [h.2]
    exact hR.2.2
theorem q_St.FC {m m' : am_Mm} (h : q_St m m') : q_FC m m' := fun c hc => ⟨h.1 c (by omega), by rw [h.2]⟩
def q_tst (T : q_T) (p x : Nat) : Bool := if (x - 3) / 100 % 3 = 0 then decide (f_let T p ((x - 3) / 300) < (x - 3) % 100) else if (x - 3) / 100 % 3 = 1 then decide (f_let T p ((x - 3) / 300) = (x - 3) % 100) else decide ((x - 3) % 100 < f_let T p ((x - 3) / 300))
def q_bu (S : Nat → Bool) (i : Nat) (b : Bool) : Nat → Bool := fun j => if j = i then b else S j
/-- the codes of a clause, on a stack of t truths -/
def evl (T : q_T) (p : Nat) : List Nat → Nat → (Nat → Bool) → Bool
  | [], _, S => S 0
  | x :: l, t, S => if 3 ≤ x then evl T p l (t + 1) (q_bu S t (q_tst T p x)) else if x = 0 then evl T p l t (q_bu S (t - 1) (!S (t - 1))) else if x = 1 then evl T p l (t - 1) (q_bu S (t - 2) (S (t - 2) && S (t - 1))) else evl T p l (t - 1) (q_bu S (t - 2) (S (t - 2) || S (t - 1)))
/-- codes that leave one truth on the stack, and never go below it -/
def vld : List Nat → Nat → Bool
  | [], t => decide (t = 1)
  | x :: l, t => decide (x < 1803) && (if 3 ≤ x then decide (t < 30) && vld l (t + 1) else if x = 0 then decide (1 ≤ t) && vld l t else decide (2 ≤ t) && vld l (t - 1))
theorem q_sk {m : am_Mm} {n j : Nat} {S : Nat → Bool} {b : Bool} {v : Int32} (h : ∀ i, i < n → i ≠ j → m.1 170 i = bB (S i)) (hv : v = bB b) : ∀ i, i < n → (am_u m 170 j v).1 170 i = bB (q_bu S j b i) := by
  intro i hi
  by_cases e : i = j
  · subst e
    rw [am_u_eq, hv, show q_bu S i b i = b from if_pos rfl]
  · rw [am_u_ne (fun q => e q.2), show q_bu S j b i = S i from if_neg e]
    exact h i hi e
theorem f_let_lt {T : q_T} (hB : q_Bd T) (hh : T.1 153 11 < 20000) {p : Nat} (hp : p < 6) (l : Nat) : f_let T p l < 20000 := by
  have h1 : T.1 154 p < 7 := hB 154 p
  have h2 : T.1 155 p < 10 := hB 155 p
  have h3 : T.1 162 (T.1 156 p) < 8 := hB 162 _
  have h4 : T.1 157 p < 9 := hB 157 p
  unfold f_let
  repeat' split
  all_goals omega
set_option maxRecDepth 100000 in
set_option maxHeartbeats 4000000 in
theorem lp_isTrue (xs : List Int32) {T : q_T} {m0 : am_Mm} (h0 : q_Rm T m0) (hB : q_Bd T) (hh : T.1 153 11 < 20000) {p c b : Nat} {code : List Nat} (hp : p < 6) (hc : c < 61) (hb : m0.1 167 c = nI b) (hl : m0.1 168 c = nI code.length) (hcd : ∀ t x, code[t]? = some x → m0.1 169 (b + t) = nI x) (hbl : b + code.length ≤ 800) : ∀ (r k : Nat), k + r = code.length → ∀ (m : am_Mm), q_St m0 m → ∀ (t : Nat) (S : Nat → Bool), t ≤ 30 → (∀ i, i < t → m.1 170 i = bB (S i)) → vld (code.drop k) t = true → ∀ (l5 l6 l7 l8 : Option Value), am_P xs 1 m_isTrue 10 [some (.ref 153), some (.int (nI p)), some (.int (nI c)), some (.int (nI t)), some (.int (nI (b + k))), l5, l6, l7, l8] [] m (am_qi (bB (evl T p (code.drop k) t S)) (q_St m0)) := by
  intro r
  induction r with
  | zero =>
    intro k hk m hS t S ht hs hv l5 l6 l7 l8
    have h := hS.Rm h0
    have hb : m.1 167 c = nI b := by rw [hS.1 167 (by decide)]; exact hb
    have hl : m.1 168 c = nI code.length := by rw [hS.1 168 (by decide)]; exact hl
    refine w_iload (pc' := 12) rfl rfl rfl ?_
    refine w_aload_n (pc' := 13) rfl rfl rfl rfl ?_
    refine w_getC (pc' := 16) rfl rfl rfl sh_153 rfl ?_
    refine w_iload_n (pc' := 17) rfl rfl rfl ?_
    refine w_iald (j := (c)) (pc' := 18) rfl rfl sh_167 rfl (by omega) (by decide) ?_
    rw [hb]
    refine w_aload_n (pc' := 19) rfl rfl rfl rfl ?_
    refine w_getC (pc' := 22) rfl rfl rfl sh_153 rfl ?_
    refine w_iload_n (pc' := 23) rfl rfl rfl ?_
    refine w_iald (j := (c)) (pc' := 24) rfl rfl sh_168 rfl (by omega) (by decide) ?_
    rw [hl]
    refine w_iadd (pc' := 25) rfl rfl ?_
    rw [show nI (b) + nI (code.length) = nI (b + (code.length)) from nI_add _ _]
    refine w_ic_ge (t := 251) (pc' := 28) rfl (by decide) rfl (fun h25 => ?_) (fun h25 => ?_)
    · have g1 : b + (code.length) ≤ (b + k) := (nI_leI (a := b + (code.length)) (b := (b + k)) (by omega) (by omega)).mp h25
      rw [show code.drop k = [] from List.drop_eq_nil_of_le (by omega)] at hv ⊢
      obtain rfl : t = 1 := of_decide_eq_true hv
      refine w_aload_n (pc' := 252) rfl rfl rfl rfl ?_
      refine w_getC (pc' := 255) rfl rfl rfl sh_153 rfl ?_
      refine w_iconst (pc' := 256) 0 rfl rfl ic_0 ?_
      refine w_bald (j := (0)) (pc' := 257) rfl rfl sh_170 (Or.inr rfl) rfl (by omega) (by decide) ?_
      rw [hs 0 (by omega)]
      refine w_iret rfl rfl (by first | rfl | exact am_nbB _) ?_
      exact ⟨rfl, hS⟩
    · have g2 : ¬ b + (code.length) ≤ (b + k) := fun q => h25 ((nI_leI (a := b + (code.length)) (b := (b + k)) (by omega) (by omega)).mpr q)
      omega
  | succ r ih =>
    intro k hk m hS t S ht hs hv l5 l6 l7 l8
    have h := hS.Rm h0
    have hb : m.1 167 c = nI b := by rw [hS.1 167 (by decide)]; exact hb
    have hl : m.1 168 c = nI code.length := by rw [hS.1 168 (by decide)]; exact hl
    refine w_iload (pc' := 12) rfl rfl rfl ?_
    refine w_aload_n (pc' := 13) rfl rfl rfl rfl ?_
    refine w_getC (pc' := 16) rfl rfl rfl sh_153 rfl ?_
    refine w_iload_n (pc' := 17) rfl rfl rfl ?_
    refine w_iald (j := (c)) (pc' := 18) rfl rfl sh_167 rfl (by omega) (by decide) ?_
    rw [hb]
    refine w_aload_n (pc' := 19) rfl rfl rfl rfl ?_
    refine w_getC (pc' := 22) rfl rfl rfl sh_153 rfl ?_
    refine w_iload_n (pc' := 23) rfl rfl rfl ?_
    refine w_iald (j := (c)) (pc' := 24) rfl rfl sh_168 rfl (by omega) (by decide) ?_
    rw [hl]
    refine w_iadd (pc' := 25) rfl rfl ?_
    rw [show nI (b) + nI (code.length) = nI (b + (code.length)) from nI_add _ _]
    refine w_ic_ge (t := 251) (pc' := 28) rfl (by decide) rfl (fun h25 => ?_) (fun h25 => ?_)
    · have g1 : b + (code.length) ≤ (b + k) := (nI_leI (a := b + (code.length)) (b := (b + k)) (by omega) (by omega)).mp h25
      omega
    · have g2 : ¬ b + (code.length) ≤ (b + k) := fun q => h25 ((nI_leI (a := b + (code.length)) (b := (b + k)) (by omega) (by omega)).mpr q)
      have hk2 : k < code.length := by omega
      obtain ⟨x, hx⟩ : ∃ x, code[k]? = some x := ⟨code[k], List.getElem?_eq_getElem hk2⟩
      have ed : code.drop k = x :: code.drop (k + 1) := by
        rw [List.getElem?_eq_getElem hk2] at hx
        rw [← Option.some.inj hx]
        exact List.drop_eq_getElem_cons hk2
      rw [ed, vld] at hv
      obtain ⟨hx3, hv⟩ := (Bool.and_eq_true _ _).mp hv
      have hx4 := of_decide_eq_true hx3
      refine id ?_
      · refine w_aload_n (pc' := 29) rfl rfl rfl rfl ?_
        refine w_getC (pc' := 32) rfl rfl rfl sh_153 rfl ?_
        refine w_iload (pc' := 34) rfl rfl rfl ?_
        refine w_iald (j := ((b + k))) (pc' := 35) rfl rfl sh_169 rfl (by omega) (by decide) ?_
        rw [show m.1 169 (b + k) = nI x by rw [hS.1 169 (by decide)]; exact hcd k x hx]
        refine w_ist5 (pc' := 37) rfl rfl rfl ?_
        refine w_iload (pc' := 39) rfl rfl rfl ?_
        refine w_iconst (pc' := 40) 3 rfl rfl ic_3 ?_
        refine w_ic_lt (t := 143) (pc' := 43) rfl (by decide) rfl (fun h40 => ?_) (fun h40 => ?_)
        · have g3 : x < 3 := (nI_ltI (a := x) (b := 3) (by omega) (by omega)).mp h40
          rw [if_neg (show ¬ 3 ≤ x by omega)] at hv
          refine w_iload (pc' := 145) rfl rfl rfl ?_
          refine w_if_ne (t := 175) (pc' := 148) rfl (by decide) rfl (fun h145 => ?_) (fun h145 => ?_)
          · have g4 : ¬ x = 0 := fun q => h145 ((nI_eq (a := x) (b := 0) (by omega) (by omega)).mpr q)
            rw [if_neg (show ¬ x = 0 by omega)] at hv
            obtain ⟨ht1, hv⟩ := (Bool.and_eq_true _ _).mp hv
            have ht1 := of_decide_eq_true ht1
            obtain ⟨u, rfl⟩ : ∃ u, t = u + 2 := ⟨t - 2, by omega⟩
            refine id ?_
            · refine w_iinc3 (pc' := 178) (-1) rfl rfl ic_m1 rfl ?_
              rw [nI_dec, nI_pred]
              refine w_aload_n (pc' := 179) rfl rfl rfl rfl ?_
              refine w_getC (pc' := 182) rfl rfl rfl sh_153 rfl ?_
              refine w_iload_n (pc' := 183) rfl rfl rfl ?_
              refine w_iconst (pc' := 184) 1 rfl rfl ic_1 ?_
              refine w_isub (pc' := 185) rfl rfl ?_
              rw [nI_pred]
              refine w_iload (pc' := 187) rfl rfl rfl ?_
              refine w_iconst (pc' := 188) 1 rfl rfl ic_1 ?_
              refine w_ic_ne (t := 219) (pc' := 191) rfl (by decide) rfl (fun h188 => ?_) (fun h188 => ?_)
              · have g5 : ¬ x = 1 := fun q => h188 ((nI_eq (a := x) (b := 1) (by omega) (by omega)).mpr q)
                refine w_aload_n (pc' := 220) rfl rfl rfl rfl ?_
                refine w_getC (pc' := 223) rfl rfl rfl sh_153 rfl ?_
                refine w_iload_n (pc' := 224) rfl rfl rfl ?_
                refine w_iconst (pc' := 225) 1 rfl rfl ic_1 ?_
                refine w_isub (pc' := 226) rfl rfl ?_
                rw [nI_pred]
                refine w_bald (j := (u)) (pc' := 227) rfl rfl sh_170 (Or.inr rfl) rfl (by omega) (by decide) ?_
                rw [hs u (by omega)]
                refine w_if_ne (t := 239) (pc' := 230) rfl (by decide) rfl (fun h227 => ?_) (fun h227 => ?_)
                · have hb1 : S u = true := bB_n0.mp h227
                  refine w_iconst (pc' := 240) 1 rfl rfl ic_1 ?_
                  refine w_goto (pc' := 244) rfl (by decide) ?_
                  refine w_bast (j := (u)) (pc' := 245) rfl rfl sh_170 (Or.inr rfl) rfl rfl (by omega) (by decide) ?_
                  refine w_iinc4 (pc' := 248) 1 rfl rfl ic_1 rfl ?_
                  rw [nI_inc]
                  refine w_goto (pc' := 10) rfl (by decide) ?_
                  rw [ed, show evl T p (x :: code.drop (k + 1)) (u + 2) S = evl T p (code.drop (k + 1)) (u + 1) (q_bu S u (S u || S (u + 1))) from (if_neg (show ¬ 3 ≤ x by omega)).trans ((if_neg (show ¬ x = 0 by omega)).trans (if_neg (show ¬ x = 1 by omega)))]
                  exact ih (k + 1) (by omega) _ hS.u (u + 1) _ (by omega) (q_sk (fun i hi hj => hs i (by omega)) (by rw [hb1]; rfl)) hv _ _ _ _
                · have hb1 : S u = false := bB_0.mp h227
                  refine w_aload_n (pc' := 231) rfl rfl rfl rfl ?_
                  refine w_getC (pc' := 234) rfl rfl rfl sh_153 rfl ?_
                  refine w_iload_n (pc' := 235) rfl rfl rfl ?_
                  refine w_bald (j := ((u + 1))) (pc' := 236) rfl rfl sh_170 (Or.inr rfl) rfl (by omega) (by decide) ?_
                  rw [hs (u + 1) (by omega)]
                  refine w_if_eq (t := 243) (pc' := 239) rfl (by decide) rfl (fun h236 => ?_) (fun h236 => ?_)
                  · have hb2 : S (u + 1) = false := bB_0.mp h236
                    refine w_iconst (pc' := 244) 0 rfl rfl ic_0 ?_
                    refine w_bast (j := (u)) (pc' := 245) rfl rfl sh_170 (Or.inr rfl) rfl rfl (by omega) (by decide) ?_
                    refine w_iinc4 (pc' := 248) 1 rfl rfl ic_1 rfl ?_
                    rw [nI_inc]
                    refine w_goto (pc' := 10) rfl (by decide) ?_
                    rw [ed, show evl T p (x :: code.drop (k + 1)) (u + 2) S = evl T p (code.drop (k + 1)) (u + 1) (q_bu S u (S u || S (u + 1))) from (if_neg (show ¬ 3 ≤ x by omega)).trans ((if_neg (show ¬ x = 0 by omega)).trans (if_neg (show ¬ x = 1 by omega)))]
                    exact ih (k + 1) (by omega) _ hS.u (u + 1) _ (by omega) (q_sk (fun i hi hj => hs i (by omega)) (by rw [hb1, hb2]; rfl)) hv _ _ _ _
                  · have hb2 : S (u + 1) = true := bB_n0.mp h236
                    refine w_iconst (pc' := 240) 1 rfl rfl ic_1 ?_
                    refine w_goto (pc' := 244) rfl (by decide) ?_
                    refine w_bast (j := (u)) (pc' := 245) rfl rfl sh_170 (Or.inr rfl) rfl rfl (by omega) (by decide) ?_
                    refine w_iinc4 (pc' := 248) 1 rfl rfl ic_1 rfl ?_
                    rw [nI_inc]
                    refine w_goto (pc' := 10) rfl (by decide) ?_
                    rw [ed, show evl T p (x :: code.drop (k + 1)) (u + 2) S = evl T p (code.drop (k + 1)) (u + 1) (q_bu S u (S u || S (u + 1))) from (if_neg (show ¬ 3 ≤ x by omega)).trans ((if_neg (show ¬ x = 0 by omega)).trans (if_neg (show ¬ x = 1 by omega)))]
                    exact ih (k + 1) (by omega) _ hS.u (u + 1) _ (by omega) (q_sk (fun i hi hj => hs i (by omega)) (by rw [hb1, hb2]; rfl)) hv _ _ _ _
              · have g6 : x = 1 := (nI_eq (a := x) (b := 1) (by omega) (by omega)).mp h188
                refine w_aload_n (pc' := 192) rfl rfl rfl rfl ?_
                refine w_getC (pc' := 195) rfl rfl rfl sh_153 rfl ?_
                refine w_iload_n (pc' := 196) rfl rfl rfl ?_
                refine w_iconst (pc' := 197) 1 rfl rfl ic_1 ?_
                refine w_isub (pc' := 198) rfl rfl ?_
                rw [nI_pred]
                refine w_bald (j := (u)) (pc' := 199) rfl rfl sh_170 (Or.inr rfl) rfl (by omega) (by decide) ?_
                rw [hs u (by omega)]
                refine w_if_eq (t := 215) (pc' := 202) rfl (by decide) rfl (fun h199 => ?_) (fun h199 => ?_)
                · have hb1 : S u = false := bB_0.mp h199
                  refine w_iconst (pc' := 216) 0 rfl rfl ic_0 ?_
                  refine w_goto (pc' := 244) rfl (by decide) ?_
                  refine w_bast (j := (u)) (pc' := 245) rfl rfl sh_170 (Or.inr rfl) rfl rfl (by omega) (by decide) ?_
                  refine w_iinc4 (pc' := 248) 1 rfl rfl ic_1 rfl ?_
                  rw [nI_inc]
                  refine w_goto (pc' := 10) rfl (by decide) ?_
                  rw [ed, show evl T p (x :: code.drop (k + 1)) (u + 2) S = evl T p (code.drop (k + 1)) (u + 1) (q_bu S u (S u && S (u + 1))) from (if_neg (show ¬ 3 ≤ x by omega)).trans ((if_neg (show ¬ x = 0 by omega)).trans (if_pos (show x = 1 by omega)))]
                  exact ih (k + 1) (by omega) _ hS.u (u + 1) _ (by omega) (q_sk (fun i hi hj => hs i (by omega)) (by rw [hb1]; rfl)) hv _ _ _ _
                · have hb1 : S u = true := bB_n0.mp h199
                  refine w_aload_n (pc' := 203) rfl rfl rfl rfl ?_
                  refine w_getC (pc' := 206) rfl rfl rfl sh_153 rfl ?_
                  refine w_iload_n (pc' := 207) rfl rfl rfl ?_
                  refine w_bald (j := ((u + 1))) (pc' := 208) rfl rfl sh_170 (Or.inr rfl) rfl (by omega) (by decide) ?_
                  rw [hs (u + 1) (by omega)]
                  refine w_if_eq (t := 215) (pc' := 211) rfl (by decide) rfl (fun h208 => ?_) (fun h208 => ?_)
                  · have hb2 : S (u + 1) = false := bB_0.mp h208
                    refine w_iconst (pc' := 216) 0 rfl rfl ic_0 ?_
                    refine w_goto (pc' := 244) rfl (by decide) ?_
                    refine w_bast (j := (u)) (pc' := 245) rfl rfl sh_170 (Or.inr rfl) rfl rfl (by omega) (by decide) ?_
                    refine w_iinc4 (pc' := 248) 1 rfl rfl ic_1 rfl ?_
                    rw [nI_inc]
                    refine w_goto (pc' := 10) rfl (by decide) ?_
                    rw [ed, show evl T p (x :: code.drop (k + 1)) (u + 2) S = evl T p (code.drop (k + 1)) (u + 1) (q_bu S u (S u && S (u + 1))) from (if_neg (show ¬ 3 ≤ x by omega)).trans ((if_neg (show ¬ x = 0 by omega)).trans (if_pos (show x = 1 by omega)))]
                    exact ih (k + 1) (by omega) _ hS.u (u + 1) _ (by omega) (q_sk (fun i hi hj => hs i (by omega)) (by rw [hb1, hb2]; rfl)) hv _ _ _ _
                  · have hb2 : S (u + 1) = true := bB_n0.mp h208
                    refine w_iconst (pc' := 212) 1 rfl rfl ic_1 ?_
                    refine w_goto (pc' := 244) rfl (by decide) ?_
                    refine w_bast (j := (u)) (pc' := 245) rfl rfl sh_170 (Or.inr rfl) rfl rfl (by omega) (by decide) ?_
                    refine w_iinc4 (pc' := 248) 1 rfl rfl ic_1 rfl ?_
                    rw [nI_inc]
                    refine w_goto (pc' := 10) rfl (by decide) ?_
                    rw [ed, show evl T p (x :: code.drop (k + 1)) (u + 2) S = evl T p (code.drop (k + 1)) (u + 1) (q_bu S u (S u && S (u + 1))) from (if_neg (show ¬ 3 ≤ x by omega)).trans ((if_neg (show ¬ x = 0 by omega)).trans (if_pos (show x = 1 by omega)))]
                    exact ih (k + 1) (by omega) _ hS.u (u + 1) _ (by omega) (q_sk (fun i hi hj => hs i (by omega)) (by rw [hb1, hb2]; rfl)) hv _ _ _ _
          · have g7 : x = 0 := (nI_eq (a := x) (b := 0) (by omega) (by omega)).mp h145
            rw [if_pos (show x = 0 by omega)] at hv
            obtain ⟨ht1, hv⟩ := (Bool.and_eq_true _ _).mp hv
            have ht1 := of_decide_eq_true ht1
            obtain ⟨u, rfl⟩ : ∃ u, t = u + 1 := ⟨t - 1, by omega⟩
            refine id ?_
            · refine w_aload_n (pc' := 149) rfl rfl rfl rfl ?_
              refine w_getC (pc' := 152) rfl rfl rfl sh_153 rfl ?_
              refine w_iload_n (pc' := 153) rfl rfl rfl ?_
              refine w_iconst (pc' := 154) 1 rfl rfl ic_1 ?_
              refine w_isub (pc' := 155) rfl rfl ?_
              rw [nI_pred]
              refine w_aload_n (pc' := 156) rfl rfl rfl rfl ?_
              refine w_getC (pc' := 159) rfl rfl rfl sh_153 rfl ?_
              refine w_iload_n (pc' := 160) rfl rfl rfl ?_
              refine w_iconst (pc' := 161) 1 rfl rfl ic_1 ?_
              refine w_isub (pc' := 162) rfl rfl ?_
              rw [nI_pred]
              refine w_bald (j := (u)) (pc' := 163) rfl rfl sh_170 (Or.inr rfl) rfl (by omega) (by decide) ?_
              rw [hs u (by omega)]
              refine w_if_ne (t := 170) (pc' := 166) rfl (by decide) rfl (fun h163 => ?_) (fun h163 => ?_)
              · have hb1 : S u = true := bB_n0.mp h163
                refine w_iconst (pc' := 171) 0 rfl rfl ic_0 ?_
                refine w_bast (j := (u)) (pc' := 172) rfl rfl sh_170 (Or.inr rfl) rfl rfl (by omega) (by decide) ?_
                refine w_goto (pc' := 245) rfl (by decide) ?_
                refine w_iinc4 (pc' := 248) 1 rfl rfl ic_1 rfl ?_
                rw [nI_inc]
                refine w_goto (pc' := 10) rfl (by decide) ?_
                rw [ed, show evl T p (x :: code.drop (k + 1)) (u + 1) S = evl T p (code.drop (k + 1)) (u + 1) (q_bu S u (!S u)) from (if_neg (show ¬ 3 ≤ x by omega)).trans (if_pos (show x = 0 by omega))]
                exact ih (k + 1) (by omega) _ hS.u (u + 1) _ (by omega) (q_sk (fun i hi hj => hs i (by omega)) (by rw [hb1]; rfl)) hv _ _ _ _
              · have hb1 : S u = false := bB_0.mp h163
                refine w_iconst (pc' := 167) 1 rfl rfl ic_1 ?_
                refine w_goto (pc' := 171) rfl (by decide) ?_
                refine w_bast (j := (u)) (pc' := 172) rfl rfl sh_170 (Or.inr rfl) rfl rfl (by omega) (by decide) ?_
                refine w_goto (pc' := 245) rfl (by decide) ?_
                refine w_iinc4 (pc' := 248) 1 rfl rfl ic_1 rfl ?_
                rw [nI_inc]
                refine w_goto (pc' := 10) rfl (by decide) ?_
                rw [ed, show evl T p (x :: code.drop (k + 1)) (u + 1) S = evl T p (code.drop (k + 1)) (u + 1) (q_bu S u (!S u)) from (if_neg (show ¬ 3 ≤ x by omega)).trans (if_pos (show x = 0 by omega))]
                exact ih (k + 1) (by omega) _ hS.u (u + 1) _ (by omega) (q_sk (fun i hi hj => hs i (by omega)) (by rw [hb1]; rfl)) hv _ _ _ _
        · have g8 : ¬ x < 3 := fun q => h40 ((nI_ltI (a := x) (b := 3) (by omega) (by omega)).mpr q)
          rw [if_pos (show 3 ≤ x by omega)] at hv
          obtain ⟨ht30, hv⟩ := (Bool.and_eq_true _ _).mp hv
          have ht30 := of_decide_eq_true ht30
          refine w_aload_n (pc' := 44) rfl rfl rfl rfl ?_
          refine w_iload_n (pc' := 45) rfl rfl rfl ?_
          refine w_iload (pc' := 47) rfl rfl rfl ?_
          refine w_iconst (pc' := 48) 3 rfl rfl ic_3 ?_
          refine w_isub (pc' := 49) rfl rfl ?_
          rw [show nI (x) - (3 : Int32) = nI (x - 3) from nI_subN (a := x) (b := 3) (by omega)]
          refine w_sipush (pc' := 52) 300 rfl rfl sp_300 ?_
          refine w_idiv (pc' := 53) rfl rfl (by decide) ?_
          rw [show nI ((x - 3)) / (300 : Int32) = nI ((x - 3) / 300) from nI_divI (a := (x - 3)) (c := 300) (by omega) (by omega) (by omega)]
          refine w_cV2i (pc' := 56) (v_m_letterOf xs h hB hh (p := p) (l := (x - 3) / 300) hp (by omega)) (by decide) rfl rfl rfl (Nat.le_of_ble_eq_true rfl) sh_153 rfl (fun m' hm' => ?_)
          rw [show m' = m from hm']
          clear hm' m'
          have hfl := f_let_lt hB hh hp ((x - 3) / 300)
          refine w_ist6 (pc' := 58) rfl rfl rfl ?_
          refine w_iload (pc' := 60) rfl rfl rfl ?_
          refine w_iconst (pc' := 61) 3 rfl rfl ic_3 ?_
          refine w_isub (pc' := 62) rfl rfl ?_
          rw [show nI (x) - (3 : Int32) = nI (x - 3) from nI_subN (a := x) (b := 3) (by omega)]
          refine w_bipush (pc' := 64) 100 rfl rfl bp_100 ?_
          refine w_irem (pc' := 65) rfl rfl (by decide) ?_
          rw [show nI ((x - 3)) - nI ((x - 3)) / (100 : Int32) * (100 : Int32) = nI ((x - 3) % 100) from nI_remI (a := (x - 3)) (c := 100) (by omega) (by omega) (by omega)]
          refine w_ist7 (pc' := 67) rfl rfl rfl ?_
          refine w_iload (pc' := 69) rfl rfl rfl ?_
          refine w_iconst (pc' := 70) 3 rfl rfl ic_3 ?_
          refine w_isub (pc' := 71) rfl rfl ?_
          rw [show nI (x) - (3 : Int32) = nI (x - 3) from nI_subN (a := x) (b := 3) (by omega)]
          refine w_bipush (pc' := 73) 100 rfl rfl bp_100 ?_
          refine w_idiv (pc' := 74) rfl rfl (by decide) ?_
          rw [show nI ((x - 3)) / (100 : Int32) = nI ((x - 3) / 100) from nI_divI (a := (x - 3)) (c := 100) (by omega) (by omega) (by omega)]
          refine w_iconst (pc' := 75) 3 rfl rfl ic_3 ?_
          refine w_irem (pc' := 76) rfl rfl (by decide) ?_
          rw [show nI (((x - 3) / 100)) - nI (((x - 3) / 100)) / (3 : Int32) * (3 : Int32) = nI (((x - 3) / 100) % 3) from nI_remI (a := ((x - 3) / 100)) (c := 3) (by omega) (by omega) (by omega)]
          refine w_ist8 (pc' := 78) rfl rfl rfl ?_
          refine w_aload_n (pc' := 79) rfl rfl rfl rfl ?_
          refine w_getC (pc' := 82) rfl rfl rfl sh_153 rfl ?_
          refine w_iload_n (pc' := 83) rfl rfl rfl ?_
          refine w_iinc3 (pc' := 86) 1 rfl rfl ic_1 rfl ?_
          rw [nI_inc]
          refine w_iload (pc' := 88) rfl rfl rfl ?_
          refine w_if_ne (t := 106) (pc' := 91) rfl (by decide) rfl (fun h88 => ?_) (fun h88 => ?_)
          · have g9 : ¬ (((x - 3) / 100) % 3) = 0 := fun q => h88 ((nI_eq (a := (((x - 3) / 100) % 3)) (b := 0) (by omega) (by omega)).mpr q)
            refine w_iload (pc' := 108) rfl rfl rfl ?_
            refine w_iconst (pc' := 109) 1 rfl rfl ic_1 ?_
            refine w_ic_ne (t := 127) (pc' := 112) rfl (by decide) rfl (fun h109 => ?_) (fun h109 => ?_)
            · have g10 : ¬ (((x - 3) / 100) % 3) = 1 := fun q => h109 ((nI_eq (a := (((x - 3) / 100) % 3)) (b := 1) (by omega) (by omega)).mpr q)
              refine w_iload (pc' := 129) rfl rfl rfl ?_
              refine w_iload (pc' := 131) rfl rfl rfl ?_
              refine w_ic_le (t := 138) (pc' := 134) rfl (by decide) rfl (fun h131 => ?_) (fun h131 => ?_)
              · have g11 : (f_let T p ((x - 3) / 300)) ≤ ((x - 3) % 100) := (nI_leI (a := (f_let T p ((x - 3) / 300))) (b := ((x - 3) % 100)) (by omega) (by omega)).mp h131
                refine w_iconst (pc' := 139) 0 rfl rfl ic_0 ?_
                refine w_bast (j := (t)) (pc' := 140) rfl rfl sh_170 (Or.inr rfl) rfl rfl (by omega) (by decide) ?_
                refine w_goto (pc' := 245) rfl (by decide) ?_
                refine w_iinc4 (pc' := 248) 1 rfl rfl ic_1 rfl ?_
                rw [nI_inc]
                refine w_goto (pc' := 10) rfl (by decide) ?_
                have hq : q_tst T p x = false := by simp [q_tst, g2, Nat.lt_of_not_le g2, g8, g9, g10, g11, Nat.not_lt.mpr g11]
                rw [ed, show evl T p (x :: code.drop (k + 1)) t S = evl T p (code.drop (k + 1)) (t + 1) (q_bu S t (q_tst T p x)) from if_pos (show 3 ≤ x by omega)]
                exact ih (k + 1) (by omega) _ hS.u (t + 1) _ (by omega) (q_sk (fun i hi hj => hs i (by omega)) (by rw [hq]; rfl)) hv _ _ _ _
              · have g12 : ¬ (f_let T p ((x - 3) / 300)) ≤ ((x - 3) % 100) := fun q => h131 ((nI_leI (a := (f_let T p ((x - 3) / 300))) (b := ((x - 3) % 100)) (by omega) (by omega)).mpr q)
                refine w_iconst (pc' := 135) 1 rfl rfl ic_1 ?_
                refine w_goto (pc' := 139) rfl (by decide) ?_
                refine w_bast (j := (t)) (pc' := 140) rfl rfl sh_170 (Or.inr rfl) rfl rfl (by omega) (by decide) ?_
                refine w_goto (pc' := 245) rfl (by decide) ?_
                refine w_iinc4 (pc' := 248) 1 rfl rfl ic_1 rfl ?_
                rw [nI_inc]
                refine w_goto (pc' := 10) rfl (by decide) ?_
                have hq : q_tst T p x = true := by simp [q_tst, g2, Nat.lt_of_not_le g2, g8, g9, g10, g12, Nat.lt_of_not_le g12]
                rw [ed, show evl T p (x :: code.drop (k + 1)) t S = evl T p (code.drop (k + 1)) (t + 1) (q_bu S t (q_tst T p x)) from if_pos (show 3 ≤ x by omega)]
                exact ih (k + 1) (by omega) _ hS.u (t + 1) _ (by omega) (q_sk (fun i hi hj => hs i (by omega)) (by rw [hq]; rfl)) hv _ _ _ _
            · have g13 : (((x - 3) / 100) % 3) = 1 := (nI_eq (a := (((x - 3) / 100) % 3)) (b := 1) (by omega) (by omega)).mp h109
              refine w_iload (pc' := 114) rfl rfl rfl ?_
              refine w_iload (pc' := 116) rfl rfl rfl ?_
              refine w_ic_ne (t := 123) (pc' := 119) rfl (by decide) rfl (fun h116 => ?_) (fun h116 => ?_)
              · have g14 : ¬ (f_let T p ((x - 3) / 300)) = ((x - 3) % 100) := fun q => h116 ((nI_eq (a := (f_let T p ((x - 3) / 300))) (b := ((x - 3) % 100)) (by omega) (by omega)).mpr q)
                refine w_iconst (pc' := 124) 0 rfl rfl ic_0 ?_
                refine w_goto (pc' := 139) rfl (by decide) ?_
                refine w_bast (j := (t)) (pc' := 140) rfl rfl sh_170 (Or.inr rfl) rfl rfl (by omega) (by decide) ?_
                refine w_goto (pc' := 245) rfl (by decide) ?_
                refine w_iinc4 (pc' := 248) 1 rfl rfl ic_1 rfl ?_
                rw [nI_inc]
                refine w_goto (pc' := 10) rfl (by decide) ?_
                have hq : q_tst T p x = false := by simp [q_tst, g2, Nat.lt_of_not_le g2, g8, g9, eq_true g13, g14]
                rw [ed, show evl T p (x :: code.drop (k + 1)) t S = evl T p (code.drop (k + 1)) (t + 1) (q_bu S t (q_tst T p x)) from if_pos (show 3 ≤ x by omega)]
                exact ih (k + 1) (by omega) _ hS.u (t + 1) _ (by omega) (q_sk (fun i hi hj => hs i (by omega)) (by rw [hq]; rfl)) hv _ _ _ _
              · have g15 : (f_let T p ((x - 3) / 300)) = ((x - 3) % 100) := (nI_eq (a := (f_let T p ((x - 3) / 300))) (b := ((x - 3) % 100)) (by omega) (by omega)).mp h116
                refine w_iconst (pc' := 120) 1 rfl rfl ic_1 ?_
                refine w_goto (pc' := 139) rfl (by decide) ?_
                refine w_bast (j := (t)) (pc' := 140) rfl rfl sh_170 (Or.inr rfl) rfl rfl (by omega) (by decide) ?_
                refine w_goto (pc' := 245) rfl (by decide) ?_
                refine w_iinc4 (pc' := 248) 1 rfl rfl ic_1 rfl ?_
                rw [nI_inc]
                refine w_goto (pc' := 10) rfl (by decide) ?_
                have hq : q_tst T p x = true := by simp [q_tst, g2, Nat.lt_of_not_le g2, g8, g9, eq_true g13, eq_true g15]
                rw [ed, show evl T p (x :: code.drop (k + 1)) t S = evl T p (code.drop (k + 1)) (t + 1) (q_bu S t (q_tst T p x)) from if_pos (show 3 ≤ x by omega)]
                exact ih (k + 1) (by omega) _ hS.u (t + 1) _ (by omega) (q_sk (fun i hi hj => hs i (by omega)) (by rw [hq]; rfl)) hv _ _ _ _
          · have g16 : (((x - 3) / 100) % 3) = 0 := (nI_eq (a := (((x - 3) / 100) % 3)) (b := 0) (by omega) (by omega)).mp h88
            refine w_iload (pc' := 93) rfl rfl rfl ?_
            refine w_iload (pc' := 95) rfl rfl rfl ?_
            refine w_ic_ge (t := 102) (pc' := 98) rfl (by decide) rfl (fun h95 => ?_) (fun h95 => ?_)
            · have g17 : ((x - 3) % 100) ≤ (f_let T p ((x - 3) / 300)) := (nI_leI (a := ((x - 3) % 100)) (b := (f_let T p ((x - 3) / 300))) (by omega) (by omega)).mp h95
              refine w_iconst (pc' := 103) 0 rfl rfl ic_0 ?_
              refine w_goto (pc' := 139) rfl (by decide) ?_
              refine w_bast (j := (t)) (pc' := 140) rfl rfl sh_170 (Or.inr rfl) rfl rfl (by omega) (by decide) ?_
              refine w_goto (pc' := 245) rfl (by decide) ?_
              refine w_iinc4 (pc' := 248) 1 rfl rfl ic_1 rfl ?_
              rw [nI_inc]
              refine w_goto (pc' := 10) rfl (by decide) ?_
              have hq : q_tst T p x = false := by simp [q_tst, g2, Nat.lt_of_not_le g2, g8, eq_true g16, g17, Nat.not_lt.mpr g17]
              rw [ed, show evl T p (x :: code.drop (k + 1)) t S = evl T p (code.drop (k + 1)) (t + 1) (q_bu S t (q_tst T p x)) from if_pos (show 3 ≤ x by omega)]
              exact ih (k + 1) (by omega) _ hS.u (t + 1) _ (by omega) (q_sk (fun i hi hj => hs i (by omega)) (by rw [hq]; rfl)) hv _ _ _ _
            · have g18 : ¬ ((x - 3) % 100) ≤ (f_let T p ((x - 3) / 300)) := fun q => h95 ((nI_leI (a := ((x - 3) % 100)) (b := (f_let T p ((x - 3) / 300))) (by omega) (by omega)).mpr q)
              refine w_iconst (pc' := 99) 1 rfl rfl ic_1 ?_
              refine w_goto (pc' := 139) rfl (by decide) ?_
              refine w_bast (j := (t)) (pc' := 140) rfl rfl sh_170 (Or.inr rfl) rfl rfl (by omega) (by decide) ?_
              refine w_goto (pc' := 245) rfl (by decide) ?_
              refine w_iinc4 (pc' := 248) 1 rfl rfl ic_1 rfl ?_
              rw [nI_inc]
              refine w_goto (pc' := 10) rfl (by decide) ?_
              have hq : q_tst T p x = true := by simp [q_tst, g2, Nat.lt_of_not_le g2, g8, eq_true g16, g18, Nat.lt_of_not_le g18]
              rw [ed, show evl T p (x :: code.drop (k + 1)) t S = evl T p (code.drop (k + 1)) (t + 1) (q_bu S t (q_tst T p x)) from if_pos (show 3 ≤ x by omega)]
              exact ih (k + 1) (by omega) _ hS.u (t + 1) _ (by omega) (q_sk (fun i hi hj => hs i (by omega)) (by rw [hq]; rfl)) hv _ _ _ _
set_option maxRecDepth 100000 in
set_option maxHeartbeats 4000000 in
theorem v_m_isTrue (xs : List Int32) {T : q_T} {m : am_Mm} (h : q_Rm T m) (hB : q_Bd T) (hh : T.1 153 11 < 20000) {p c b : Nat} {code : List Nat} (hp : p < 6) (hc : c < 61) (hb : m.1 167 c = nI b) (hl : m.1 168 c = nI code.length) (hcd : ∀ t x, code[t]? = some x → m.1 169 (b + t) = nI x) (hbl : b + code.length ≤ 800) (hv : vld code 0 = true) : am_V xs 2 147 [.ref 153, .int (nI p), .int (nI c)] m (am_qi (bB (evl T p code 0 (fun _ => false))) (q_St m)) := by
  refine am_V_of ky_147 (Nat.le_of_ble_eq_true rfl) ?_
  show am_P xs 1 m_isTrue 0 [some (.ref 153), some (.int (nI p)), some (.int (nI c)), none, none, none, none, none, none] [] m _
  refine w_iconst (pc' := 1) 0 rfl rfl ic_0 ?_
  refine w_ist3 (pc' := 2) rfl rfl rfl ?_
  refine w_aload_n (pc' := 3) rfl rfl rfl rfl ?_
  refine w_getC (pc' := 6) rfl rfl rfl sh_153 rfl ?_
  refine w_iload_n (pc' := 7) rfl rfl rfl ?_
  refine w_iald (j := (c)) (pc' := 8) rfl rfl sh_167 rfl (by omega) (by decide) ?_
  rw [hb]
  refine w_ist4 (pc' := 10) rfl rfl rfl ?_
  have e0 := lp_isTrue xs h hB hh hp hc hb hl hcd hbl code.length 0 (by omega) m q_St.rf 0 (fun _ => false) (by omega) (fun i hi => absurd hi (by omega)) hv none none none none
  rw [List.drop_zero] at e0
  exact e0
