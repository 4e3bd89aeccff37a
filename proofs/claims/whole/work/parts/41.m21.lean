theorem bt_1 : ∀ i, i < 32 → bt 1 i = decide (i = 0) := by decide +kernel
theorem bit_and1 (x : Int32) {p : Nat} (hp : p < 31) : (x >>> (nI p &&& 31)) &&& 1 = nI (if bt x p = true then 1 else 0) := by
  refine b_ext (fun i hi => ?_)
  rw [b_and, bt_1 i hi]
  by_cases e : i = 0
  · subst e
    rw [b_sshr p (by omega) x (by omega), if_pos (by omega)]
    cases bt x (p + 0) <;> rfl
  · rw [decide_eq_false e, Bool.and_false]
    cases bt x p
    · exact (b_0 i).symm
    · exact ((bt_1 i hi).trans (decide_eq_false e)).symm
theorem adq_bit (T : q_T) (hB : q_Bd T) : ∀ (r k : Nat) (a : Int32), k + r ≤ 6 → ∀ i, i < 32 → bt (adq T r k a) i = (bt a i || (decide (k ≤ i ∧ i < k + r) && decide (T.1 158 i = 1))) := by
  intro r
  induction r with
  | zero =>
    intro k a _ i _
    rw [show adq T 0 k a = a from rfl, decide_eq_false (show ¬ (k ≤ i ∧ i < k + 0) by omega), Bool.false_and, Bool.or_false]
  | succ r ih =>
    intro k a hk i hi
    rw [adq, ih (k + 1) _ (by omega) i hi, b_or, b_shl k (by omega) _ hi]
    have b2 : T.1 158 k < 2 := hB 158 k
    by_cases e : i = k
    · subst e
      rw [decide_eq_true (Nat.le_refl i), Nat.sub_self, decide_eq_false (show ¬ (i + 1 ≤ i ∧ i < i + 1 + r) by omega), decide_eq_true (show i ≤ i ∧ i < i + (r + 1) by omega), Bool.false_and, Bool.or_false, Bool.true_and, Bool.true_and]
      congr 1
      rcases (show T.1 158 i = 0 ∨ T.1 158 i = 1 by omega) with q | q <;> rw [q] <;> decide
    · have e1 : (decide (k ≤ i) && bt (nI (T.1 158 k)) (i - k)) = false := by
        by_cases f : k ≤ i
        · have e2 : bt (nI (T.1 158 k)) (i - k) = false := by
            rcases (show T.1 158 k = 0 ∨ T.1 158 k = 1 by omega) with q | q <;> rw [q]
            · exact b_0 _
            · exact (bt_1 _ (by omega)).trans (decide_eq_false (by omega))
          rw [e2, Bool.and_false]
        · rw [decide_eq_false f, Bool.false_and]
      rw [e1, Bool.or_false]
      congr 2
      rw [decide_eq_decide]
      omega
theorem f_ad_bit {T : q_T} (hB : q_Bd T) {p : Nat} (hp : p < T.1 153 0) : (f_ad T >>> (nI p &&& 31)) &&& 1 = nI (T.1 158 p) := by
  have b0 : T.1 153 0 < 7 := hB 153 0
  have b2 : T.1 158 p < 2 := hB 158 p
  rw [bit_and1 _ (by omega)]
  congr 1
  unfold f_ad
  rw [adq_bit T hB (T.1 153 0) 0 0 (by omega) p (by omega), b_0, Bool.false_or, decide_eq_true (show 0 ≤ p ∧ p < 0 + T.1 153 0 by omega), Bool.true_and]
  rcases (show T.1 158 p = 0 ∨ T.1 158 p = 1 by omega) with q | q <;> rw [q] <;> rfl
/-- who is DONE, told anew -/
def q_md (T : q_T) (D : Nat → Nat) : q_T := (fun c x => if c = 158 then D x else T.1 c x, T.2)
theorem q_md_o {T : q_T} {D : Nat → Nat} {c x : Nat} (h : c ≠ 158) : (q_md T D).1 c x = T.1 c x := if_neg h
theorem q_md_u {T : q_T} {D D' : Nat → Nat} {k v : Nat} (h : ∀ x, D' x = if x = k then v else D x) : q_Tu (q_md T D) 158 k v = q_md T D' := by
  refine Prod.ext ?_ rfl
  funext c x
  show (if c = 158 ∧ x = k then v else if c = 158 then D x else T.1 c x) = if c = 158 then D' x else T.1 c x
  by_cases e : c = 158
  · rw [if_pos e, if_pos e, h x]
    by_cases f : x = k
    · rw [if_pos ⟨e, f⟩, if_pos f]
    · rw [if_neg (fun z => f z.2), if_neg f]
  · rw [if_neg (fun z => e z.1), if_neg e, if_neg e]
theorem q_md_T {T : q_T} {D : Nat → Nat} (h : ∀ x, D x = T.1 158 x) : q_md T D = T := by
  refine Prod.ext ?_ rfl
  funext c x
  show (if c = 158 then D x else T.1 c x) = T.1 c x
  split
  · rename_i e
    rw [e, h x]
  · rfl
theorem q_md_D {T : q_T} {D D' : Nat → Nat} (h : ∀ x, D x = D' x) : q_md T D = q_md T D' := by rw [funext h]
theorem q_md_Y {T : q_T} {D : Nat → Nat} {h : Nat} (hY : q_Y h T) (hD : ∀ x, D x < 2) : q_Y h (q_md T D) := by
  obtain ⟨hB, hO, hV, hr, hd⟩ := hY
  refine ⟨fun c x => ?_, hO, hV, hr, hd⟩
  show (if c = 158 then D x else T.1 c x) < _
  split
  · rename_i e
    rw [e]
    exact hD x
  · exact hB c x
/-- those who are not of the set are DONE, among the first k -/
def q_cs (T : q_T) (s k : Nat) : Nat → Nat := fun x => if x < k ∧ (nI s >>> (nI x &&& 31)) &&& 1 = 0 then 1 else T.1 158 x
theorem q_cs_lt {T : q_T} (hB : q_Bd T) {s k : Nat} (x : Nat) : q_cs T s k x < 2 := by
  have b2 : T.1 158 x < 2 := hB 158 x
  unfold q_cs
  split <;> omega
def f_cs (T : q_T) (s : Nat) : q_T := q_md T (q_cs T s (T.1 153 0))
def cro (T : q_T) (n : Nat) : Nat → Nat → Int32 → Int32
  | 0, _, f => f
  | r + 1, s, f => cro T n r (s + 1) (if f = -5 ∨ f_bc (nI s) < f_bc f then (if f_db n T ≤ f_db n (f_cs T s) then nI s else f) else f)
def f_crew (T : q_T) (n : Nat) : Int32 := cro T n (2 ^ T.1 153 0) 0 (-5)
set_option maxRecDepth 100000 in
set_option maxHeartbeats 4000000 in
theorem lp_cr2 (xs : List Int32) {T : q_T} {m0 : am_Mm} (hY : q_Y 0 T) {n : Nat} (hn : n < 100) {Q : am_Q} {f : Int32} {s : Nat} (hK : ∀ m, q_Rm (f_cs T s) m → q_FC m0 m → am_P xs 9 m_crew 88 [some (.ref 153), some (.int (nI n)), some (.int (f_db n T)), some (.int (f_ad T)), some (.int f), some (.int (nI s)), some (.int (nI (T.1 153 0)))] [] m Q) : ∀ (r k : Nat), k + r = T.1 153 0 → ∀ (m : am_Mm), q_Rm (q_md T (q_cs T s k)) m → q_FC m0 m → am_P xs 9 m_crew 55 [some (.ref 153), some (.int (nI n)), some (.int (f_db n T)), some (.int (f_ad T)), some (.int f), some (.int (nI s)), some (.int (nI k))] [] m (Q) := by
  intro r
  induction r with
  | zero =>
    intro k hk m h hF
    have b0 : T.1 153 0 < 7 := hY.1 153 0
    refine w_iload (pc' := 57) rfl rfl rfl ?_
    refine w_aload_n (pc' := 58) rfl rfl rfl rfl ?_
    refine w_getI (pc' := 61) rfl rfl rfl sh_153 rfl ?_
    rw [show m.1 153 0 = nI ((q_md T (q_cs T s k)).1 153 (0)) from (rf_0 h :)]
    rw [show (q_md T (q_cs T s k)).1 153 0 = T.1 153 0 from rfl]
    refine w_ic_ge (t := 88) (pc' := 64) rfl (by decide) rfl (fun h61 => ?_) (fun h61 => ?_)
    · have g1 : (T.1 153 0) ≤ k := (nI_leI (a := (T.1 153 0)) (b := k) (by omega) (by omega)).mp h61
      obtain rfl : k = T.1 153 0 := by omega
      exact hK m h hF
    · have g2 : ¬ (T.1 153 0) ≤ k := fun q => h61 ((nI_leI (a := (T.1 153 0)) (b := k) (by omega) (by omega)).mpr q)
      omega
  | succ r ih =>
    intro k hk m h hF
    have b0 : T.1 153 0 < 7 := hY.1 153 0
    refine w_iload (pc' := 57) rfl rfl rfl ?_
    refine w_aload_n (pc' := 58) rfl rfl rfl rfl ?_
    refine w_getI (pc' := 61) rfl rfl rfl sh_153 rfl ?_
    rw [show m.1 153 0 = nI ((q_md T (q_cs T s k)).1 153 (0)) from (rf_0 h :)]
    rw [show (q_md T (q_cs T s k)).1 153 0 = T.1 153 0 from rfl]
    refine w_ic_ge (t := 88) (pc' := 64) rfl (by decide) rfl (fun h61 => ?_) (fun h61 => ?_)
    · have g1 : (T.1 153 0) ≤ k := (nI_leI (a := (T.1 153 0)) (b := k) (by omega) (by omega)).mp h61
      omega
    · have g2 : ¬ (T.1 153 0) ≤ k := fun q => h61 ((nI_leI (a := (T.1 153 0)) (b := k) (by omega) (by omega)).mpr q)
      refine w_iload (pc' := 66) rfl rfl rfl ?_
      refine w_iload (pc' := 68) rfl rfl rfl ?_
      refine w_ishr (pc' := 69) rfl rfl ?_
      refine w_iconst (pc' := 70) 1 rfl rfl ic_1 ?_
      refine w_iand (pc' := 71) rfl rfl ?_
      refine w_if_ne (t := 82) (pc' := 74) rfl (by decide) rfl (fun h71 => ?_) (fun h71 => ?_)
      · have hbit : ¬ (nI s >>> (nI k &&& 31)) &&& 1 = 0 := h71
        refine w_iinc6 (pc' := 85) 1 rfl rfl ic_1 rfl ?_
        rw [nI_inc]
        refine w_goto (pc' := 55) rfl (by decide) ?_
        refine ih (k + 1) (by omega) m ?_ hF
        rw [← q_md_D (D := q_cs T s k) (fun x => ?_)]
        · exact h
        · unfold q_cs
          by_cases e : x = k
          · subst e
            rw [if_neg (fun z => by omega), if_neg (fun z => hbit z.2)]
          · by_cases f : x < k ∧ (nI s >>> (nI x &&& 31)) &&& 1 = 0
            · rw [if_pos f, if_pos ⟨by omega, f.2⟩]
            · rw [if_neg f, if_neg (fun z => f ⟨by omega, z.2⟩)]
      · have hbit : (nI s >>> (nI k &&& 31)) &&& 1 = 0 := h71
        refine w_aload_n (pc' := 75) rfl rfl rfl rfl ?_
        refine w_getC (pc' := 78) rfl rfl rfl sh_153 rfl ?_
        refine w_iload (pc' := 80) rfl rfl rfl ?_
        refine w_iconst (pc' := 81) 1 rfl rfl ic_1 ?_
        refine w_iast (j := (k)) (pc' := 82) rfl rfl sh_158 rfl (by omega) (by decide) ?_
        refine w_gen (h.u (c := 158) (k := k) (x := 1) rfl (y := _) (show _ = q_enc _ _ _ from rfl)) (hF.u (by decide)) (fun m1 h_1 hF_1 => ?_)
        refine w_iinc6 (pc' := 85) 1 rfl rfl ic_1 rfl ?_
        rw [nI_inc]
        refine w_goto (pc' := 55) rfl (by decide) ?_
        refine ih (k + 1) (by omega) _ ?_ hF_1
        have e0 := h_1
        rw [q_md_u (D' := q_cs T s (k + 1)) (fun x => ?_)] at e0
        · exact e0
        · unfold q_cs
          by_cases e : x = k
          · subst e
            rw [if_pos rfl, if_pos ⟨by omega, hbit⟩]
          · rw [if_neg e]
            by_cases f : x < k ∧ (nI s >>> (nI x &&& 31)) &&& 1 = 0
            · rw [if_pos f, if_pos ⟨by omega, f.2⟩]
            · rw [if_neg f, if_neg (fun z => f ⟨by omega, z.2⟩)]
set_option maxRecDepth 100000 in
set_option maxHeartbeats 4000000 in
theorem lp_cr3 (xs : List Int32) {T : q_T} {m0 : am_Mm} (hY : q_Y 0 T) {n : Nat} (hn : n < 100) {Q : am_Q} {f : Int32} {s : Nat} (hK : ∀ m, q_Rm T m → q_FC m0 m → am_P xs 9 m_crew 132 [some (.ref 153), some (.int (nI n)), some (.int (f_db n T)), some (.int (f_ad T)), some (.int f), some (.int (nI s)), some (.int (nI (T.1 153 0)))] [] m Q) : ∀ (r k : Nat), k + r = T.1 153 0 → ∀ (m : am_Mm), q_Rm (q_md T (fun x => if x < k then T.1 158 x else q_cs T s (T.1 153 0) x)) m → q_FC m0 m → am_P xs 9 m_crew 104 [some (.ref 153), some (.int (nI n)), some (.int (f_db n T)), some (.int (f_ad T)), some (.int f), some (.int (nI s)), some (.int (nI k))] [] m (Q) := by
  intro r
  induction r with
  | zero =>
    intro k hk m h hF
    have b0 : T.1 153 0 < 7 := hY.1 153 0
    refine w_iload (pc' := 106) rfl rfl rfl ?_
    refine w_aload_n (pc' := 107) rfl rfl rfl rfl ?_
    refine w_getI (pc' := 110) rfl rfl rfl sh_153 rfl ?_
    rw [show m.1 153 0 = nI ((q_md T (fun x => if x < k then T.1 158 x else q_cs T s (T.1 153 0) x)).1 153 (0)) from (rf_0 h :)]
    rw [show (q_md T (fun x => if x < k then T.1 158 x else q_cs T s (T.1 153 0) x)).1 153 0 = T.1 153 0 from rfl]
    refine w_ic_ge (t := 132) (pc' := 113) rfl (by decide) rfl (fun h110 => ?_) (fun h110 => ?_)
    · have g1 : (T.1 153 0) ≤ k := (nI_leI (a := (T.1 153 0)) (b := k) (by omega) (by omega)).mp h110
      obtain rfl : k = T.1 153 0 := by omega
      refine hK m ?_ hF
      have e0 := h
      rw [q_md_T (fun x => ?_)] at e0
      · exact e0
      · split
        · rfl
        · exact if_neg (fun z => by omega)
    · have g2 : ¬ (T.1 153 0) ≤ k := fun q => h110 ((nI_leI (a := (T.1 153 0)) (b := k) (by omega) (by omega)).mpr q)
      omega
  | succ r ih =>
    intro k hk m h hF
    have b0 : T.1 153 0 < 7 := hY.1 153 0
    refine w_iload (pc' := 106) rfl rfl rfl ?_
    refine w_aload_n (pc' := 107) rfl rfl rfl rfl ?_
    refine w_getI (pc' := 110) rfl rfl rfl sh_153 rfl ?_
    rw [show m.1 153 0 = nI ((q_md T (fun x => if x < k then T.1 158 x else q_cs T s (T.1 153 0) x)).1 153 (0)) from (rf_0 h :)]
    rw [show (q_md T (fun x => if x < k then T.1 158 x else q_cs T s (T.1 153 0) x)).1 153 0 = T.1 153 0 from rfl]
    refine w_ic_ge (t := 132) (pc' := 113) rfl (by decide) rfl (fun h110 => ?_) (fun h110 => ?_)
    · have g1 : (T.1 153 0) ≤ k := (nI_leI (a := (T.1 153 0)) (b := k) (by omega) (by omega)).mp h110
      omega
    · have g2 : ¬ (T.1 153 0) ≤ k := fun q => h110 ((nI_leI (a := (T.1 153 0)) (b := k) (by omega) (by omega)).mpr q)
      refine w_aload_n (pc' := 114) rfl rfl rfl rfl ?_
      refine w_getC (pc' := 117) rfl rfl rfl sh_153 rfl ?_
      refine w_iload (pc' := 119) rfl rfl rfl ?_
      refine w_iload_n (pc' := 120) rfl rfl rfl ?_
      refine w_iload (pc' := 122) rfl rfl rfl ?_
      refine w_ishr (pc' := 123) rfl rfl ?_
      refine w_iconst (pc' := 124) 1 rfl rfl ic_1 ?_
      refine w_iand (pc' := 125) rfl rfl ?_
      rw [f_ad_bit hY.1 (p := k) (by omega)]
      refine w_iast (j := (k)) (pc' := 126) rfl rfl sh_158 rfl (by omega) (by decide) ?_
      refine w_gen (h.u (c := 158) (k := k) (x := (T.1 158 k)) rfl (y := _) (show _ = q_enc _ _ _ from rfl)) (hF.u (by decide)) (fun m1 h_1 hF_1 => ?_)
      refine w_iinc6 (pc' := 129) 1 rfl rfl ic_1 rfl ?_
      rw [nI_inc]
      refine w_goto (pc' := 104) rfl (by decide) ?_
      refine ih (k + 1) (by omega) _ ?_ hF_1
      have e0 := h_1
      rw [q_md_u (D' := fun x => if x < k + 1 then T.1 158 x else q_cs T s (T.1 153 0) x) (fun x => ?_)] at e0
      · exact e0
      · by_cases e : x = k
        · subst e
          rw [if_pos rfl, if_pos (by omega)]
        · rw [if_neg e]
          by_cases f : x < k
          · rw [if_pos f, if_pos (by omega)]
          · rw [if_neg f, if_neg (by omega)]
set_option maxRecDepth 100000 in
set_option maxHeartbeats 4000000 in
theorem lp_crew (xs : List Int32) {T : q_T} {m0 : am_Mm} (hY : q_Y 0 T) {n : Nat} (hn : n < 100) : ∀ (r k : Nat), k + r = 2 ^ T.1 153 0 → ∀ (f : Int32) (m : am_Mm), q_Rm T m → q_FC m0 m → ∀ (l6 : Option Value), am_P xs 9 m_crew 18 [some (.ref 153), some (.int (nI n)), some (.int (f_db n T)), some (.int (f_ad T)), some (.int f), some (.int (nI k)), l6] [] m (am_qi (cro T n r k f) (q_G T m0)) := by
  intro r
  induction r with
  | zero =>
    intro k hk f m h hF l6
    have hB := hY.1
    have b0 : T.1 153 0 < 7 := hB 153 0
    have hp6 : 2 ^ T.1 153 0 < 2 ^ 7 := Nat.pow_lt_pow_right (by decide) b0
    refine w_iload (pc' := 20) rfl rfl rfl ?_
    refine w_iconst (pc' := 21) 1 rfl rfl ic_1 ?_
    refine w_aload_n (pc' := 22) rfl rfl rfl rfl ?_
    refine w_getI (pc' := 25) rfl rfl rfl sh_153 rfl ?_
    rw [show m.1 153 0 = nI (T.1 153 (0)) from (rf_0 h :)]
    have b1 : (T.1 153 (0)) < 7 := hB 153 (0)
    refine w_ishl (pc' := 26) rfl rfl ?_
    rw [show (1 : Int32) <<< (nI (T.1 153 (0)) &&& 31) = nI (2 ^ T.1 153 0) from nI_bit _ (by omega)]
    refine w_ic_ge (t := 138) (pc' := 29) rfl (by decide) rfl (fun h26 => ?_) (fun h26 => ?_)
    · have g2 : (2 ^ T.1 153 0) ≤ k := (nI_leI (a := (2 ^ T.1 153 0)) (b := k) (by omega) (by omega)).mp h26
      refine w_iload (pc' := 140) rfl rfl rfl ?_
      refine w_iret rfl rfl rfl ?_
      exact ⟨rfl, h, hF⟩
    · have g3 : ¬ (2 ^ T.1 153 0) ≤ k := fun q => h26 ((nI_leI (a := (2 ^ T.1 153 0)) (b := k) (by omega) (by omega)).mpr q)
      omega
  | succ r ih =>
    intro k hk f m h hF l6
    have hB := hY.1
    have b0 : T.1 153 0 < 7 := hB 153 0
    have hp6 : 2 ^ T.1 153 0 < 2 ^ 7 := Nat.pow_lt_pow_right (by decide) b0
    refine w_iload (pc' := 20) rfl rfl rfl ?_
    refine w_iconst (pc' := 21) 1 rfl rfl ic_1 ?_
    refine w_aload_n (pc' := 22) rfl rfl rfl rfl ?_
    refine w_getI (pc' := 25) rfl rfl rfl sh_153 rfl ?_
    rw [show m.1 153 0 = nI (T.1 153 (0)) from (rf_0 h :)]
    have b1 : (T.1 153 (0)) < 7 := hB 153 (0)
    refine w_ishl (pc' := 26) rfl rfl ?_
    rw [show (1 : Int32) <<< (nI (T.1 153 (0)) &&& 31) = nI (2 ^ T.1 153 0) from nI_bit _ (by omega)]
    refine w_ic_ge (t := 138) (pc' := 29) rfl (by decide) rfl (fun h26 => ?_) (fun h26 => ?_)
    · have g2 : (2 ^ T.1 153 0) ≤ k := (nI_leI (a := (2 ^ T.1 153 0)) (b := k) (by omega) (by omega)).mp h26
      omega
    · have g3 : ¬ (2 ^ T.1 153 0) ≤ k := fun q => h26 ((nI_leI (a := (2 ^ T.1 153 0)) (b := k) (by omega) (by omega)).mpr q)
      refine w_iload (pc' := 31) rfl rfl rfl ?_
      refine w_bipush (pc' := 33) (-5) rfl rfl bp_m5 ?_
      refine w_ic_eq (t := 52) (pc' := 36) rfl (by decide) rfl (fun h33 => ?_) (fun h33 => ?_)
      · have heq : f = -5 := h33
        refine w_iconst (pc' := 53) 0 rfl rfl ic_0 ?_
        refine w_ist6 (pc' := 55) rfl rfl rfl ?_
        refine lp_cr2 xs hY hn (s := k) (fun m1 h_1 hF_1 => ?_) (T.1 153 0) 0 (by omega) m (by rw [q_md_T (D := q_cs T k 0) (fun x => if_neg (fun z => by omega))]; exact h) hF
        refine w_aload_n (pc' := 89) rfl rfl rfl rfl ?_
        refine w_iload_n (pc' := 90) rfl rfl rfl ?_
        refine w_cV1i (pc' := 93) (v_m_drawnBehind xs (T := f_cs T k) h_1 (q_md_Y hY (fun x => q_cs_lt hY.1 x)) hn) (by decide) rfl rfl rfl (Nat.le_of_ble_eq_true rfl) sh_153 rfl (fun m2 hm' => ?_)
        obtain ⟨h_2, hG_2⟩ := hm'
        have hF_2 := hF_1.tr hG_2
        refine w_iload_n (pc' := 94) rfl rfl rfl ?_
        refine w_ic_lt (t := 101) (pc' := 97) rfl (by decide) rfl (fun h94 => ?_) (fun h94 => ?_)
        · have hge : f_db n (f_cs T k) < f_db n T := h94
          refine w_iconst (pc' := 102) 0 rfl rfl ic_0 ?_
          refine w_ist6 (pc' := 104) rfl rfl rfl ?_
          refine lp_cr3 xs hY hn (f := f) (s := k) (fun m3 h_3 hF_3 => ?_) (T.1 153 0) 0 (by omega) m2 (by rw [q_md_D (D := fun x => if x < 0 then T.1 158 x else q_cs T k (T.1 153 0) x) (D' := q_cs T k (T.1 153 0)) (fun x => if_neg (by omega))]; exact h_2) hF_2
          refine w_iinc5 (pc' := 135) 1 rfl rfl ic_1 rfl ?_
          rw [nI_inc]
          refine w_goto (pc' := 18) rfl (by decide) ?_
          rw [show cro T n (r + 1) k f = cro T n r (k + 1) f from congrArg (cro T n r (k + 1)) ((if_pos (Or.inl heq)).trans (if_neg (Int32.not_le.mpr hge)))]
          exact ih (k + 1) (by omega) f m3 h_3 hF_3 _
        · have hge : ¬ f_db n (f_cs T k) < f_db n T := h94
          refine w_iload (pc' := 99) rfl rfl rfl ?_
          refine w_ist4 (pc' := 101) rfl rfl rfl ?_
          refine w_iconst (pc' := 102) 0 rfl rfl ic_0 ?_
          refine w_ist6 (pc' := 104) rfl rfl rfl ?_
          refine lp_cr3 xs hY hn (f := (nI k)) (s := k) (fun m3 h_3 hF_3 => ?_) (T.1 153 0) 0 (by omega) m2 (by rw [q_md_D (D := fun x => if x < 0 then T.1 158 x else q_cs T k (T.1 153 0) x) (D' := q_cs T k (T.1 153 0)) (fun x => if_neg (by omega))]; exact h_2) hF_2
          refine w_iinc5 (pc' := 135) 1 rfl rfl ic_1 rfl ?_
          rw [nI_inc]
          refine w_goto (pc' := 18) rfl (by decide) ?_
          rw [show cro T n (r + 1) k f = cro T n r (k + 1) (nI k) from congrArg (cro T n r (k + 1)) ((if_pos (Or.inl heq)).trans (if_pos (Int32.not_lt.mp hge)))]
          exact ih (k + 1) (by omega) (nI k) m3 h_3 hF_3 _
      · have hne : ¬ f = -5 := h33
        refine w_iload (pc' := 38) rfl rfl rfl ?_
        refine w_cS1i (pc' := 41) (v_bitCount xs m _) (by decide) rfl rfl rfl (Or.inl rfl) (Nat.le_of_ble_eq_true rfl) (fun m' hm' => ?_)
        rw [show m' = m from hm']
        clear hm' m'
        refine w_iload (pc' := 43) rfl rfl rfl ?_
        refine w_cS1i (pc' := 46) (v_bitCount xs m _) (by decide) rfl rfl rfl (Or.inl rfl) (Nat.le_of_ble_eq_true rfl) (fun m' hm' => ?_)
        rw [show m' = m from hm']
        clear hm' m'
        refine w_ic_lt (t := 52) (pc' := 49) rfl (by decide) rfl (fun h46 => ?_) (fun h46 => ?_)
        · have hlt : f_bc (nI k) < f_bc f := h46
          refine w_iconst (pc' := 53) 0 rfl rfl ic_0 ?_
          refine w_ist6 (pc' := 55) rfl rfl rfl ?_
          refine lp_cr2 xs hY hn (s := k) (fun m1 h_1 hF_1 => ?_) (T.1 153 0) 0 (by omega) m (by rw [q_md_T (D := q_cs T k 0) (fun x => if_neg (fun z => by omega))]; exact h) hF
          refine w_aload_n (pc' := 89) rfl rfl rfl rfl ?_
          refine w_iload_n (pc' := 90) rfl rfl rfl ?_
          refine w_cV1i (pc' := 93) (v_m_drawnBehind xs (T := f_cs T k) h_1 (q_md_Y hY (fun x => q_cs_lt hY.1 x)) hn) (by decide) rfl rfl rfl (Nat.le_of_ble_eq_true rfl) sh_153 rfl (fun m2 hm' => ?_)
          obtain ⟨h_2, hG_2⟩ := hm'
          have hF_2 := hF_1.tr hG_2
          refine w_iload_n (pc' := 94) rfl rfl rfl ?_
          refine w_ic_lt (t := 101) (pc' := 97) rfl (by decide) rfl (fun h94 => ?_) (fun h94 => ?_)
          · have hge : f_db n (f_cs T k) < f_db n T := h94
            refine w_iconst (pc' := 102) 0 rfl rfl ic_0 ?_
            refine w_ist6 (pc' := 104) rfl rfl rfl ?_
            refine lp_cr3 xs hY hn (f := f) (s := k) (fun m3 h_3 hF_3 => ?_) (T.1 153 0) 0 (by omega) m2 (by rw [q_md_D (D := fun x => if x < 0 then T.1 158 x else q_cs T k (T.1 153 0) x) (D' := q_cs T k (T.1 153 0)) (fun x => if_neg (by omega))]; exact h_2) hF_2
            refine w_iinc5 (pc' := 135) 1 rfl rfl ic_1 rfl ?_
            rw [nI_inc]
            refine w_goto (pc' := 18) rfl (by decide) ?_
            rw [show cro T n (r + 1) k f = cro T n r (k + 1) f from congrArg (cro T n r (k + 1)) ((if_pos (Or.inr hlt)).trans (if_neg (Int32.not_le.mpr hge)))]
            exact ih (k + 1) (by omega) f m3 h_3 hF_3 _
          · have hge : ¬ f_db n (f_cs T k) < f_db n T := h94
            refine w_iload (pc' := 99) rfl rfl rfl ?_
            refine w_ist4 (pc' := 101) rfl rfl rfl ?_
            refine w_iconst (pc' := 102) 0 rfl rfl ic_0 ?_
            refine w_ist6 (pc' := 104) rfl rfl rfl ?_
            refine lp_cr3 xs hY hn (f := (nI k)) (s := k) (fun m3 h_3 hF_3 => ?_) (T.1 153 0) 0 (by omega) m2 (by rw [q_md_D (D := fun x => if x < 0 then T.1 158 x else q_cs T k (T.1 153 0) x) (D' := q_cs T k (T.1 153 0)) (fun x => if_neg (by omega))]; exact h_2) hF_2
            refine w_iinc5 (pc' := 135) 1 rfl rfl ic_1 rfl ?_
            rw [nI_inc]
            refine w_goto (pc' := 18) rfl (by decide) ?_
            rw [show cro T n (r + 1) k f = cro T n r (k + 1) (nI k) from congrArg (cro T n r (k + 1)) ((if_pos (Or.inr hlt)).trans (if_pos (Int32.not_lt.mp hge)))]
            exact ih (k + 1) (by omega) (nI k) m3 h_3 hF_3 _
        · have hlt : ¬ f_bc (nI k) < f_bc f := h46
          refine w_goto (pc' := 132) rfl (by decide) ?_
          refine w_iinc5 (pc' := 135) 1 rfl rfl ic_1 rfl ?_
          rw [nI_inc]
          refine w_goto (pc' := 18) rfl (by decide) ?_
          rw [show cro T n (r + 1) k f = cro T n r (k + 1) f from congrArg (cro T n r (k + 1)) (if_neg (fun z => z.elim hne hlt))]
          exact ih (k + 1) (by omega) f m h hF _
set_option maxRecDepth 100000 in
set_option maxHeartbeats 4000000 in
theorem v_m_crew (xs : List Int32) {T : q_T} {m : am_Mm} (h : q_Rm T m) (hY : q_Y 0 T) {n : Nat} (hn : n < 100) : am_V xs 10 194 [.ref 153, .int (nI n)] m (am_qi (f_crew T n) (q_G T m)) := by
  have hB := hY.1
  have hF : q_FC m m := q_FC.rf
  refine am_V_of ky_194 (Nat.le_of_ble_eq_true rfl) ?_
  show am_P xs 9 m_crew 0 [some (.ref 153), some (.int (nI n)), none, none, none, none, none] [] m _
  refine w_aload_n (pc' := 1) rfl rfl rfl rfl ?_
  refine w_iload_n (pc' := 2) rfl rfl rfl ?_
  refine w_cV1i (pc' := 5) (v_m_drawnBehind xs h hY hn) (by decide) rfl rfl rfl (Nat.le_of_ble_eq_true rfl) sh_153 rfl (fun m1 hm' => ?_)
  obtain ⟨h_1, hG_1⟩ := hm'
  have hF_1 := hF.tr hG_1
  refine w_ist2 (pc' := 6) rfl rfl rfl ?_
  refine w_aload_n (pc' := 7) rfl rfl rfl rfl ?_
  refine w_cV0i (pc' := 10) (v_m_allDone xs h_1 hB) (by decide) rfl rfl rfl (Nat.le_of_ble_eq_true rfl) sh_153 rfl (fun m' hm' => ?_)
  rw [show m' = m1 from hm']
  clear hm' m'
  refine w_ist3 (pc' := 11) rfl rfl rfl ?_
  refine w_bipush (pc' := 13) (-5) rfl rfl bp_m5 ?_
  refine w_ist4 (pc' := 15) rfl rfl rfl ?_
  refine w_iconst (pc' := 16) 0 rfl rfl ic_0 ?_
  refine w_ist5 (pc' := 18) rfl rfl rfl ?_
  exact lp_crew xs hY hn (2 ^ T.1 153 0) 0 (by omega) (-5) m1 h_1 hF_1 none
