/-- a script's number on the stack -/
def am_tch (st : List Value) : Bool := st.any (fun v => decide (v = .ref 1000202))
/-- the same machine, that looks at no script -/
def am_runB (cl : am_C) (M : am_M) : Nat → Nat → am_L → List Value → am_H → Option am_R
  | 0, _, _, _, _ => none
  | n + 1, pc, L, st, es => if am_tch st = true then none else match am_at M pc with
    | some (i, _) => (match am_ins [] cl M pc i L st es with
      | some (.inl (pc', L', st', es')) => am_runB cl M n pc' L' st' es'
      | some (.inr r) => some r
      | none => none)
    | none => none
def am_callB : Nat → Nat → am_C
  | 0, _ => fun _ _ _ => none
  | d + 1, n => fun y av es => match am_ms[y]? with
    | some t => if (am_arg av).length ≤ t.2.2.2.2.1 then am_runB (am_callB d n) t.2.2 n 0 (am_ini t.2.2.2.2.1 av) [] es else none
    | none => none
theorem am_ro_ne {xs : List Int32} {j : Nat} (h : j ≠ 202) : am_ro xs j = am_ro [] j := by
  unfold am_ro
  by_cases h1 : j = 200
  · rw [if_pos h1, if_pos h1]
  · rw [if_neg h1, if_neg h1]
    by_cases h2 : j = 201
    · rw [if_pos h2, if_pos h2]
    · rw [if_neg h2, if_neg h2, if_neg h, if_neg h]
theorem am_arr_ne {xs : List Int32} {es : am_H} {a : Nat} (h : a ≠ 1000202) : am_arr xs es a = am_arr [] es a := by
  unfold am_arr
  by_cases h1 : a < 1000000
  · rw [if_pos h1, if_pos h1]
  · rw [if_neg h1, if_neg h1, am_ro_ne (by omega)]
theorem am_tch1 {a : Nat} {r : List Value} (h : am_tch (.ref a :: r) = false) : a ≠ 1000202 := by
  rintro rfl
  simp [am_tch] at h
theorem am_tch2 {v : Value} {a : Nat} {r : List Value} (h : am_tch (v :: .ref a :: r) = false) : a ≠ 1000202 := by
  rintro rfl
  simp [am_tch] at h
theorem am_aload_B {xs : List Int32} {st : List Value} {np : Nat} {L : am_L} {es : am_H} {tys : List FieldType} (h : am_tch st = false) : am_aload xs st np L es tys = am_aload [] st np L es tys := by
  rcases st with _ | ⟨v, _ | ⟨u, r⟩⟩
  · rfl
  · cases v <;> rfl
  · cases v <;> cases u <;> first | (unfold am_aload; dsimp only; rw [am_arr_ne (am_tch2 h)]) | rfl
theorem am_lald_B {xs : List Int32} {st : List Value} {np : Nat} {L : am_L} {es : am_H} (h : am_tch st = false) : am_lald xs st np L es = am_lald [] st np L es := by
  rcases st with _ | ⟨v, _ | ⟨u, r⟩⟩
  · rfl
  · cases v <;> rfl
  · cases v <;> cases u <;> first | (unfold am_lald; dsimp only; rw [am_arr_ne (am_tch2 h)]) | rfl
theorem am_aald_B {xs : List Int32} {st : List Value} {np : Nat} {L : am_L} {es : am_H} (h : am_tch st = false) : am_aald xs st np L es = am_aald [] st np L es := by
  rcases st with _ | ⟨v, _ | ⟨u, r⟩⟩
  · rfl
  · cases v <;> rfl
  · cases v <;> cases u <;> first | (unfold am_aald; dsimp only; rw [am_arr_ne (am_tch2 h)]) | rfl
theorem am_alen_B {xs : List Int32} {st : List Value} {np : Nat} {L : am_L} {es : am_H} (h : am_tch st = false) : am_alen xs st np L es = am_alen [] st np L es := by
  rcases st with _ | ⟨v, r⟩
  · rfl
  · cases v <;> first | (unfold am_alen; dsimp only; rw [am_arr_ne (am_tch1 h)]) | rfl
theorem am_ins_B {xs : List Int32} {cl : am_C} {M : am_M} {pc : Nat} {i : Instr} {L : am_L} {st : List Value} {es : am_H} (h : am_tch st = false) : am_ins [] cl M pc i L st es = am_ins xs cl M pc i L st es := by
  cases i with
  | iaload => exact (am_aload_B h).symm
  | baload => exact (am_aload_B h).symm
  | laload => exact (am_lald_B h).symm
  | aaload => exact (am_aald_B h).symm
  | arraylength => exact (am_alen_B h).symm
  | _ => rfl
theorem am_run_B {xs : List Int32} {c1 c2 : am_C} (h : am_Le c1 c2) {M : am_M} : ∀ (n n' pc : Nat) (L : am_L) (st : List Value) (es : am_H) (r : am_R), n ≤ n' → am_runB c1 M n pc L st es = some r → am_run xs c2 M n' pc L st es = some r := by
  intro n
  induction n with
  | zero => intro n' pc L st es r _ hr; cases hr
  | succ n ih =>
    intro n' pc L st es r hn hr
    obtain ⟨k, rfl⟩ : ∃ k, n' = k + 1 := ⟨n' - 1, by omega⟩
    unfold am_runB at hr
    unfold am_run
    split at hr
    · cases hr
    · rename_i ht
      have ht : am_tch st = false := Bool.eq_false_iff.mpr ht
      split at hr
      · rename_i i len hi
        rw [hi]
        dsimp only
        rw [am_ins_B (xs := xs) ht] at hr
        split at hr
        · rename_i pc' L' st' es' hN
          rw [am_ins_le h hN]
          exact ih _ _ _ _ _ _ (by omega) hr
        · rename_i r' hN
          rw [am_ins_le h hN]
          exact hr
        · cases hr
      · cases hr
theorem am_call_B (xs : List Int32) : ∀ (d d' n n' : Nat), d ≤ d' → n ≤ n' → am_Le (am_callB d n) (am_call xs d' n') := by
  intro d
  induction d with
  | zero => intro d' n n' _ _ y av es r h; cases h
  | succ d ih =>
    intro d' n n' hd hn y av es r h
    obtain ⟨k, rfl⟩ : ∃ k, d' = k + 1 := ⟨d' - 1, by omega⟩
    unfold am_callB at h
    unfold am_call
    split at h
    · rename_i t ht
      rw [ht]
      dsimp only
      split at h
      · rename_i hl
        rw [if_pos hl]
        exact am_run_B (ih k n n' (by omega) hn) _ _ _ _ _ _ _ hn h
      · cases h
    · cases h
/-- memory behind the two constructors -/
def q_m0 : am_Mm := (fun c k => if c = 2 ∨ c = 32 ∨ c = 62 ∨ c = 162 then nI (k % 8) else if c = 182 ∨ (c = 153 ∧ k = 19) ∨ ((c = 1 ∨ c = 31 ∨ c = 61) ∧ k = 3) ∨ (c = 117 ∧ k = 4) ∨ ((c = 141 ∨ c = 143 ∨ c = 145 ∨ c = 147 ∨ c = 149 ∨ c = 151) ∧ k = 0) then -1 else if (c = 123 ∨ c = 126 ∨ c = 129 ∨ c = 132 ∨ c = 135 ∨ c = 138) ∧ k = 0 then 3 else 0, fun _ _ => 0)
/-- the model's state there -/
def q_T0 : q_T := (fun c k => if c = 162 then k % 8 else if c = 179 ∧ k = 181 then 1 else 0, ([], fun _ _ => 0))
noncomputable def am_dP : DecidableEq (FieldType × am_A) := inferInstance
def am_dQ : DecidableEq (Nat × List Value) := inferInstance
noncomputable def am_dE : DecidableEq am_E := @instDecidableEqSum (FieldType × am_A) (Nat × List Value) am_dP am_dQ
noncomputable def am_dH : DecidableEq am_H := @instDecidableEqList am_E am_dE
noncomputable def am_dR : DecidableEq am_R := @instDecidableEqProd (Option Value) am_H inferInstance am_dH
noncomputable def am_dO : DecidableEq (Option am_R) := by
  haveI := am_dR
  infer_instance
set_option maxRecDepth 1000000 in
theorem am_new_k : am_callB 10 4000 0 [.ref 0] [.inr (8, am_df 8)] = some (none, (am_rep q_m0).take 153) := @of_decide_eq_true _ (am_dO _ _) (by decide +kernel)
set_option maxRecDepth 1000000 in
theorem am_new_m : am_callB 10 4000 139 [.ref 153] ((am_rep q_m0).take 153 ++ [.inr (9, am_df 9)]) = some (none, am_rep q_m0) := @of_decide_eq_true _ (am_dO _ _) (by decide +kernel)
