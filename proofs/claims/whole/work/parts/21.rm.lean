abbrev q_Cl : Type := Nat × (Nat × List Nat)
abbrev q_Nm : Type := Nat → Nat → Nat
abbrev q_T : Type := q_Nm × (List (List q_Cl) × (Nat → Nat → Int64))
def q_nu (N : q_Nm) (c k x : Nat) : q_Nm := fun c' k' => if c' = c ∧ k' = k then x else N c' k'
def q_Tu (T : q_T) (c k x : Nat) : q_T := (q_nu T.1 c k x, T.2)
/-- how a number stands there -/
def q_enc (c k n : Nat) : Int32 := if c = 182 ∨ (c = 153 ∧ k = 19) ∨ (c = 179 ∧ k = 181) then nI n - 1 else nI n
/-- the places of the model that are told pointwise -/
def q_vd (c k : Nat) : Bool := match c with
  | 153 => !(k == 14) && (!(k == 15) && (!(k == 16) && (!(k == 17) && (!(k == 18) && !(k == 26)))))
  | 154 => true | 155 => true | 156 => true | 157 => true | 158 => true | 159 => true | 160 => true | 161 => true | 162 => true | 163 => true
  | 171 => true | 172 => true | 173 => true | 174 => true | 175 => true | 176 => true | 177 => true | 178 => true | 179 => true
  | 182 => true | 183 => true
  | _ => false
/-- the offices: their clauses, with their codes from a place on -/
def q_ROf (OF : List (List q_Cl)) (m : am_Mm) : Prop :=
  OF.length ≤ 6 ∧ m.1 153 18 = nI OF.length ∧ (∃ cd : Nat, cd ≤ 100 * OF.length ∧ m.1 153 26 = nI cd ∧
    ∀ j o, OF[j]? = some o → o.length ≤ 10 ∧ m.1 164 j = nI o.length ∧ ∀ i cl, o[i]? = some cl → m.1 165 (10 * j + i) = nI cl.1 ∧ m.1 166 (10 * j + i) = nI cl.2.1 ∧ ∃ b : Nat, m.1 167 (10 * j + i) = nI b ∧ m.1 168 (10 * j + i) = nI cl.2.2.length ∧ b + cl.2.2.length ≤ cd ∧ ∀ t x, cl.2.2[t]? = some x → m.1 169 (b + t) = nI x)
def q_Rm (T : q_T) (m : am_Mm) : Prop := (∀ c k, q_vd c k = true → m.1 c k = q_enc c k (T.1 c k)) ∧ q_ROf T.2.1 m ∧ ∀ t i, t < 6 → i < 60 → m.2 184 (60 * t + i) = T.2.2 t i
/-- the class's cells stay -/
def q_FC (m m' : am_Mm) : Prop := ∀ c, c < 153 → m'.1 c = m.1 c ∧ m'.2 c = m.2 c
theorem q_FC.rf {m : am_Mm} : q_FC m m := fun _ _ => ⟨rfl, rfl⟩
theorem q_FC.tr {m m' m'' : am_Mm} (h : q_FC m m') (h' : q_FC m' m'') : q_FC m m'' := fun c hc => ⟨((h' c hc).1).trans (h c hc).1, ((h' c hc).2).trans (h c hc).2⟩
theorem q_FC.u {m m' : am_Mm} {c k : Nat} {x : Int32} (h : q_FC m m') (hc : 153 ≤ c) : q_FC m (am_u m' c k x) := fun c' hc' => ⟨by
  rw [← (h c' hc').1]
  funext k'
  exact if_neg (fun q => by omega), (h c' hc').2⟩
theorem am_u_ne {m : am_Mm} {c k c' k' : Nat} {x : Int32} (h : ¬ (c' = c ∧ k' = k)) : (am_u m c k x).1 c' k' = m.1 c' k' := if_neg h
theorem am_u_eq {m : am_Mm} {c k : Nat} {x : Int32} : (am_u m c k x).1 c k = x := if_pos ⟨rfl, rfl⟩
theorem am_u_nc {m : am_Mm} {c k c' : Nat} {x : Int32} (h : ¬ c' = c) : (am_u m c k x).1 c' = m.1 c' := by
  funext k'
  exact if_neg (fun q => h q.1)
theorem q_ROf.same {OF : List (List q_Cl)} {m m' : am_Mm} (h : q_ROf OF m) (h1 : m'.1 153 18 = m.1 153 18) (h2 : m'.1 153 26 = m.1 153 26) (h3 : ∀ c, 164 ≤ c → c ≤ 169 → m'.1 c = m.1 c) : q_ROf OF m' := by
  obtain ⟨a, b, cd, e, f, g⟩ := h
  refine ⟨a, h1.trans b, cd, e, h2.trans f, ?_⟩
  rw [h3 164 (by omega) (by omega), h3 165 (by omega) (by omega), h3 166 (by omega) (by omega), h3 167 (by omega) (by omega), h3 168 (by omega) (by omega), h3 169 (by omega) (by omega)]
  exact g
theorem q_Rm.u {T : q_T} {m : am_Mm} (h : q_Rm T m) {c k x : Nat} (hv : q_vd c k = true) {y : Int32} (hy : y = q_enc c k x) : q_Rm (q_Tu T c k x) (am_u m c k y) := by
  subst hy
  refine ⟨fun c' k' hv' => ?_, ?_, h.2.2⟩
  · by_cases hq : c' = c ∧ k' = k
    · obtain ⟨rfl, rfl⟩ := hq
      rw [am_u_eq]
      show _ = q_enc c' k' (q_nu T.1 c' k' x c' k')
      rw [show q_nu T.1 c' k' x c' k' = x from if_pos ⟨rfl, rfl⟩]
    · rw [am_u_ne hq, h.1 c' k' hv']
      show _ = q_enc c' k' (q_nu T.1 c k x c' k')
      rw [show q_nu T.1 c k x c' k' = T.1 c' k' from if_neg hq]
  · refine q_ROf.same h.2.1 (am_u_ne ?_) (am_u_ne ?_) (fun c' h1 h2 => am_u_nc ?_)
    · rintro ⟨rfl, rfl⟩; cases hv
    · rintro ⟨rfl, rfl⟩; cases hv
    · rintro rfl
      rcases (show c' = 164 ∨ c' = 165 ∨ c' = 166 ∨ c' = 167 ∨ c' = 168 ∨ c' = 169 by omega) with rfl | rfl | rfl | rfl | rfl | rfl <;> cases hv
/-- places that mean nothing -/
theorem q_Rm.jk {T : q_T} {m : am_Mm} (h : q_Rm T m) {c k : Nat} {y : Int32} (hc : c = 170 ∨ c = 180 ∨ c = 181 ∨ (c = 153 ∧ 14 ≤ k ∧ k ≤ 17)) : q_Rm T (am_u m c k y) := by
  refine ⟨fun c' k' hv' => ?_, ?_, h.2.2⟩
  · rw [am_u_ne, h.1 c' k' hv']
    rintro ⟨rfl, rfl⟩
    rcases hc with rfl | rfl | rfl | ⟨rfl, h1, h2⟩
    · cases hv'
    · cases hv'
    · cases hv'
    · rcases (show k' = 14 ∨ k' = 15 ∨ k' = 16 ∨ k' = 17 by omega) with rfl | rfl | rfl | rfl <;> cases hv'
  · refine q_ROf.same h.2.1 (am_u_ne ?_) (am_u_ne ?_) (fun c' h1 h2 => am_u_nc ?_)
    · rintro ⟨rfl, rfl⟩; omega
    · rintro ⟨rfl, rfl⟩; omega
    · rintro rfl; omega
/-- an argument that names one of n -/
def q_is (x : Int32) (n : Nat) : Bool := decide (0 ≤ x ∧ x < nI n)
theorem q_is_of {x : Int32} {n : Nat} (h : q_is x n = true) (hn : n < 2 ^ 31) : ∃ j, j < n ∧ x = nI j := by
  obtain ⟨h1, h2⟩ := of_decide_eq_true h
  obtain ⟨j, hj, rfl⟩ := nI_of (Int32.not_lt.mpr h1)
  exact ⟨j, (nI_ltI hj hn).mp h2, rfl⟩
theorem q_is_nI {j n : Nat} (hj : j < n) (hn : n < 2 ^ 31) : q_is (nI j) n = true := decide_eq_true ⟨nI_pos' (by omega), nI_lt hj hn⟩
theorem q_leP (x : Int32) {n : Nat} (hn : n < 2 ^ 31) : (0 ≤ x ∧ x ≤ nI n - 1) ↔ q_is x n = true := by
  unfold q_is
  rw [decide_eq_true_iff]
  constructor
  · rintro ⟨h1, h2⟩
    refine ⟨h1, ?_⟩
    obtain ⟨j, hj, rfl⟩ := nI_of (Int32.not_lt.mpr h1)
    cases n with
    | zero =>
      have : (nI 0 - 1 : Int32) < 0 := by decide
      exact absurd (Int32.lt_of_le_of_lt h2 this) (Int32.not_lt.mpr h1)
    | succ n =>
      rw [nI_pred] at h2
      exact nI_lt (by have := (nI_leI hj (by omega)).mp h2; omega) hn
  · rintro ⟨h1, h2⟩
    refine ⟨h1, ?_⟩
    obtain ⟨j, hj, rfl⟩ := nI_of (Int32.not_lt.mpr h1)
    have h3 := (nI_ltI hj hn).mp h2
    obtain ⟨n, rfl⟩ : ∃ q, n = q + 1 := ⟨n - 1, by omega⟩
    rw [nI_pred]
    exact nI_le (by omega) (by omega)
def bB (b : Bool) : Int32 := if b = true then 1 else 0
theorem bB_0 {b : Bool} : bB b = 0 ↔ b = false := by cases b <;> simp [bB]
theorem bB_n0 {b : Bool} : ¬ bB b = 0 ↔ b = true := by cases b <;> simp [bB]
theorem am_nbB (b : Bool) : narrow .boolean (.int (bB b)) = .int (bB b) := by cases b <;> rfl
theorem bI_B {c : Prop} [Decidable c] {b : Bool} (h : c ↔ b = true) : bI c = bB b := by
  cases b
  · exact bI_f (fun q => by simpa using h.mp q)
  · exact bI_t (h.mpr rfl)

theorem rd_154 {T : q_T} {m : am_Mm} (h : q_Rm T m) (k : Nat) : m.1 154 k = nI (T.1 154 k) := h.1 154 k rfl
theorem rd_155 {T : q_T} {m : am_Mm} (h : q_Rm T m) (k : Nat) : m.1 155 k = nI (T.1 155 k) := h.1 155 k rfl
theorem rd_156 {T : q_T} {m : am_Mm} (h : q_Rm T m) (k : Nat) : m.1 156 k = nI (T.1 156 k) := h.1 156 k rfl
theorem rd_157 {T : q_T} {m : am_Mm} (h : q_Rm T m) (k : Nat) : m.1 157 k = nI (T.1 157 k) := h.1 157 k rfl
theorem rd_158 {T : q_T} {m : am_Mm} (h : q_Rm T m) (k : Nat) : m.1 158 k = nI (T.1 158 k) := h.1 158 k rfl
theorem rd_159 {T : q_T} {m : am_Mm} (h : q_Rm T m) (k : Nat) : m.1 159 k = nI (T.1 159 k) := h.1 159 k rfl
theorem rd_160 {T : q_T} {m : am_Mm} (h : q_Rm T m) (k : Nat) : m.1 160 k = nI (T.1 160 k) := h.1 160 k rfl
theorem rd_161 {T : q_T} {m : am_Mm} (h : q_Rm T m) (k : Nat) : m.1 161 k = nI (T.1 161 k) := h.1 161 k rfl
theorem rd_162 {T : q_T} {m : am_Mm} (h : q_Rm T m) (k : Nat) : m.1 162 k = nI (T.1 162 k) := h.1 162 k rfl
theorem rd_163 {T : q_T} {m : am_Mm} (h : q_Rm T m) (k : Nat) : m.1 163 k = nI (T.1 163 k) := h.1 163 k rfl
theorem rd_171 {T : q_T} {m : am_Mm} (h : q_Rm T m) (k : Nat) : m.1 171 k = nI (T.1 171 k) := h.1 171 k rfl
theorem rd_172 {T : q_T} {m : am_Mm} (h : q_Rm T m) (k : Nat) : m.1 172 k = nI (T.1 172 k) := h.1 172 k rfl
theorem rd_173 {T : q_T} {m : am_Mm} (h : q_Rm T m) (k : Nat) : m.1 173 k = nI (T.1 173 k) := h.1 173 k rfl
theorem rd_174 {T : q_T} {m : am_Mm} (h : q_Rm T m) (k : Nat) : m.1 174 k = nI (T.1 174 k) := h.1 174 k rfl
theorem rd_175 {T : q_T} {m : am_Mm} (h : q_Rm T m) (k : Nat) : m.1 175 k = nI (T.1 175 k) := h.1 175 k rfl
theorem rd_176 {T : q_T} {m : am_Mm} (h : q_Rm T m) (k : Nat) : m.1 176 k = nI (T.1 176 k) := h.1 176 k rfl
theorem rd_177 {T : q_T} {m : am_Mm} (h : q_Rm T m) (k : Nat) : m.1 177 k = nI (T.1 177 k) := h.1 177 k rfl
theorem rd_178 {T : q_T} {m : am_Mm} (h : q_Rm T m) (k : Nat) : m.1 178 k = nI (T.1 178 k) := h.1 178 k rfl
theorem rd_183 {T : q_T} {m : am_Mm} (h : q_Rm T m) (k : Nat) : m.1 183 k = nI (T.1 183 k) := h.1 183 k rfl
theorem rf_0 {T : q_T} {m : am_Mm} (h : q_Rm T m) : m.1 153 0 = nI (T.1 153 0) := h.1 153 0 rfl
theorem rf_10 {T : q_T} {m : am_Mm} (h : q_Rm T m) : m.1 153 10 = nI (T.1 153 10) := h.1 153 10 rfl
theorem rf_11 {T : q_T} {m : am_Mm} (h : q_Rm T m) : m.1 153 11 = nI (T.1 153 11) := h.1 153 11 rfl
theorem rf_12 {T : q_T} {m : am_Mm} (h : q_Rm T m) : m.1 153 12 = nI (T.1 153 12) := h.1 153 12 rfl
theorem rf_28 {T : q_T} {m : am_Mm} (h : q_Rm T m) : m.1 153 28 = nI (T.1 153 28) := h.1 153 28 rfl
theorem rf_32 {T : q_T} {m : am_Mm} (h : q_Rm T m) : m.1 153 32 = nI (T.1 153 32) := h.1 153 32 rfl
theorem rf_35 {T : q_T} {m : am_Mm} (h : q_Rm T m) : m.1 153 35 = nI (T.1 153 35) := h.1 153 35 rfl
theorem rf_38 {T : q_T} {m : am_Mm} (h : q_Rm T m) : m.1 153 38 = nI (T.1 153 38) := h.1 153 38 rfl
theorem rf_40 {T : q_T} {m : am_Mm} (h : q_Rm T m) : m.1 153 40 = nI (T.1 153 40) := h.1 153 40 rfl
theorem rf_19 {T : q_T} {m : am_Mm} (h : q_Rm T m) : m.1 153 19 = nI (T.1 153 19) - 1 := h.1 153 19 rfl
theorem rd_182 {T : q_T} {m : am_Mm} (h : q_Rm T m) (k : Nat) : m.1 182 k = nI (T.1 182 k) - 1 := h.1 182 k rfl
theorem v_m_one (xs : List Int32) {T : q_T} {m : am_Mm} (h : q_Rm T m) (hn : T.1 153 0 ≤ 6) (p : Int32) : am_V xs 2 144 [.ref 153, .int p] m (am_qi (bB (q_is p (T.1 153 0))) (· = m)) := by
  have := v_m_isOne xs m p
  rwa [rf_0 h, bI_B (q_leP p (by omega))] at this
theorem v_m_cell (xs : List Int32) (m : am_Mm) (p : Int32) : am_V xs 2 142 [.int p] m (am_qi (bB (q_is p 16)) (· = m)) := by
  have := v_m_isCell xs m p
  rwa [show (15 : Int32) = nI 16 - 1 by decide, bI_B (q_leP (n := 16) p (by omega))] at this
/-- within 0 .. n - 1, for a written upper bound -/
theorem v_m_win (xs : List Int32) (m : am_Mm) (p hi : Int32) (n : Nat) (hn : n < 2 ^ 31) (hh : hi = nI n - 1) : am_V xs 1 141 [.int p, .int 0, .int hi] m (am_qi (bB (q_is p n)) (· = m)) := by
  subst hh
  have := v_m_within xs m p 0 (nI n - 1)
  rwa [bI_B (q_leP (n := n) p hn)] at this
def q_G (T : q_T) (m : am_Mm) : am_Mm → Prop := fun m' => q_Rm T m' ∧ q_FC m m'

