abbrev am_G : Type := va_G × ((String → Option ClassId) × (Heap × ((Nat → Nat) × ((Nat → Nat) × ((Nat × (Nat × Nat)) × Option Nat)))))
def am_base (Γ : am_G) : Nat := Γ.2.2.1.size
def am_rov (Γ : am_G) (j : Nat) : Value :=
  if j < 5 then .ref (Γ.2.2.2.1 j) else if j < 105 then .ref (Γ.2.2.2.2.1 (j - 100)) else if j = 200 then .ref Γ.2.2.2.2.2.1.1 else if j = 201 then .ref Γ.2.2.2.2.2.1.2.1 else if j = 202 then .ref Γ.2.2.2.2.2.1.2.2 else va_rf Γ.2.2.2.2.2.2
def am_cV (Γ : am_G) (v : Value) : Value := match v with
  | .ref i => if i < 1000000 then .ref (am_base Γ + i) else am_rov Γ (i - 1000000)
  | v => v
def am_cA (Γ : am_G) (a : am_A) : vp_A := match a with
  | .inl l => (l.length, .inl (fun j => l.getD j 0))
  | .inr (.inl l) => (l.length, .inr (.inl (fun j => l.getD j 0)))
  | .inr (.inr l) => (l.length, .inr (.inr (.inr (.inr (fun j => (l.getD j none).map (fun q => am_base Γ + q))))))
def am_cT (Γ : am_G) (ty : FieldType) : ClassId := (Γ.2.1 ("[" ++ ty.toString)).getD 0
def am_cE (Γ : am_G) (x : am_E) : va_E := match x with
  | .inl (ty, a) => .inl (am_cT Γ ty, am_cA Γ a)
  | .inr (ci, fs) => .inr (ci, fs.map (am_cV Γ))
def am_cW (Γ : am_G) (es : am_H) : va_W := es.mapIdx (fun i x => (am_base Γ + i, am_cE Γ x))
theorem am_cW_get (Γ : am_G) (es : am_H) (i : Nat) : (am_cW Γ es)[i]? = (es[i]?).map (fun x => (am_base Γ + i, am_cE Γ x)) := by
  unfold am_cW
  rw [List.getElem?_mapIdx]
theorem am_cW_at {Γ : am_G} {es : am_H} {i : Nat} {x : am_E} (h : es[i]? = some x) : (am_cW Γ es)[i]? = some (am_base Γ + i, am_cE Γ x) := by
  rw [am_cW_get, h]; rfl
theorem am_cW_set {Γ : am_G} {es : am_H} {i : Nat} {x : am_E} : (am_cW Γ es).set i (am_base Γ + i, am_cE Γ x) = am_cW Γ (es.set i x) := by
  apply List.ext_getElem?
  intro j
  rw [am_cW_get, List.getElem?_set, List.getElem?_set, am_cW_get]
  have hl : (am_cW Γ es).length = es.length := by unfold am_cW; simp
  by_cases h : i = j
  · subst h
    rw [if_pos rfl, if_pos rfl, hl]
    split <;> rfl
  · rw [if_neg h, if_neg h]
theorem am_cW_push {Γ : am_G} {es : am_H} {x : am_E} : am_cW Γ es ++ [(am_base Γ + es.length, am_cE Γ x)] = am_cW Γ (es ++ [x]) := by
  unfold am_cW
  rw [List.mapIdx_append]
  simp
theorem am_cW_D (Γ : am_G) (es : am_H) : va_D (fun q : Nat => am_base Γ ≤ q) (am_cW Γ es) := by
  refine ⟨fun i j p q hi hj h => ?_, fun k q hk => ?_⟩
  · rw [am_cW_get] at hi hj
    cases h1 : es[i]? with
    | none => rw [h1] at hi; cases hi
    | some a =>
      cases h2 : es[j]? with
      | none => rw [h2] at hj; cases hj
      | some b =>
        rw [h1] at hi; rw [h2] at hj
        cases hi; cases hj
        exact Nat.add_left_cancel h
  · rw [am_cW_get] at hk
    cases h1 : es[k]? with
    | none => rw [h1] at hk; cases hk
    | some a => rw [h1] at hk; cases hk; exact Nat.le_add_right _ _
/-- what holds of the tables and of what nobody writes -/
def am_KK (Γ : am_G) (xs : List Int32) (U : State) : Prop :=
  va_K Γ.1 am_cl [] U ∧ (∀ n, U.vm.findClass n = Γ.2.1 n) ∧
  (∀ o idx y, Cond.methodLinkNest o idx y "LostSheets" ∈ lw_tbl → va_Nw (.methodLinkNest o idx y "LostSheets") U) ∧
  (∀ C, Cond.arrayOver (.object C) ∈ lw_tbl → va_AO C U) ∧
  (∀ j q, am_sk[j]? = some q → vk_R q.1 q.2.1 q.2.2 (Γ.2.2.2.1 (j % 5)) U) ∧
  vk_S 5 (am_bs.map List.length) am_bs Γ.2.2.2.1 Γ.2.2.2.2.1 (fun q : Nat => am_base Γ ≤ q) U Γ.2.2.1 ∧
  va_Z "java/lang/String" "COMPACT_STRINGS" "Z" (.int 1) (fun q : Nat => am_base Γ ≤ q) U Γ.2.2.1 ∧
  va_Z "LostSheets" "ABOVE" "[I" (.ref Γ.2.2.2.2.2.1.1) (fun q : Nat => am_base Γ ≤ q) U Γ.2.2.1 ∧
  va_Z "LostSheets$Trace" "BODIES" "[I" (.ref Γ.2.2.2.2.2.1.2.1) (fun q : Nat => am_base Γ ≤ q) U Γ.2.2.1 ∧
  va_Z "jdk/internal/util/Preconditions" "SIOOBE_FORMATTER" "Ljava/util/function/BiFunction;" (va_rf Γ.2.2.2.2.2.2) (fun q : Nat => am_base Γ ≤ q) U Γ.2.2.1 ∧
  va_T .int Γ.2.2.2.2.2.1.1 am_tA.length (fun j => .int (am_tA.getD j 0)) (fun q : Nat => am_base Γ ≤ q) U Γ.2.2.1 ∧
  va_T .int Γ.2.2.2.2.2.1.2.1 am_tB.length (fun j => .int (am_tB.getD j 0)) (fun q : Nat => am_base Γ ≤ q) U Γ.2.2.1 ∧
  va_T .int Γ.2.2.2.2.2.1.2.2 xs.length (fun j => .int (xs.getD j 0)) (fun q : Nat => am_base Γ ≤ q) U Γ.2.2.1
theorem am_KK.warm {Γ : am_G} {xs : List Int32} {s U : State} (hW : s.WarmedH U.vm) (h : am_KK Γ xs s) : am_KK Γ xs U := by
  obtain ⟨h1, h2, h3, h4, h5, h6, h7, h8, h9, h10, h11, h12, h13⟩ := h
  have hv := hW.alike
  exact ⟨va_K.moved hv h1, fun n => by rw [hv.findClass]; exact h2 n, fun o idx y hy => va_Nw.warmM hW (h3 o idx y hy), fun C hC => va_AO.moved hv (h4 C hC), fun j q hq => vk_R.warm hW (h5 j q hq), vk_S.moved hv h6, va_Z.moved hv h7, va_Z.moved hv h8, va_Z.moved hv h9, va_Z.moved hv h10, va_T.moved hv h11, va_T.moved hv h12, va_T.moved hv h13⟩
theorem am_KK.same {Γ : am_G} {xs : List Int32} {s U : State} (hv : s.vm = U.vm) (h : am_KK Γ xs s) : am_KK Γ xs U := by
  obtain ⟨h1, h2, h3, h4, h5, h6, h7, h8, h9, h10, h11, h12, h13⟩ := h
  have ha : s.vm.Alike U.vm := by rw [hv]; exact Vm.Alike.refl _
  exact ⟨va_K.moved ha h1, fun n => by rw [← hv]; exact h2 n, fun o idx y hy => va_Nw.same rfl hv (h3 o idx y hy), fun C hC => va_AO.moved ha (h4 C hC), fun j q hq => vk_R.same hv.symm (h5 j q hq), vk_S.moved ha h6, va_Z.moved ha h7, va_Z.moved ha h8, va_Z.moved ha h9, va_Z.moved ha h10, va_T.moved ha h11, va_T.moved ha h12, va_T.moved ha h13⟩
def am_KA (Γ : am_G) (es : am_H) (U : State) : Prop := ∀ (i : Nat) (ty : FieldType) (x : am_A), es[i]? = some (Sum.inl (ty, x)) → ArrOfT U (am_cT Γ ty) ty ∧ va_RA U (am_cT Γ ty) ty
def am_Wd (Γ : am_G) (es : am_H) (U : State) (H : Heap) : Prop :=
  (∀ a : Nat, a < am_base Γ → H[a]? = Γ.2.2.1[a]?) ∧ va_P Γ.1 am_cl (am_cW Γ es) H ∧ am_KA Γ es U
theorem am_Wd.warm {Γ : am_G} {es : am_H} {s U : State} {H : Heap} (hW : s.WarmedH U.vm) (h : am_Wd Γ es s H) : am_Wd Γ es U H :=
  ⟨h.1, h.2.1, fun i ty x hx => ⟨arrOfT_moved hW.alike (h.2.2 i ty x hx).1, va_RA.moved hW.alike (h.2.2 i ty x hx).2⟩⟩
def am_AL (Γ : am_G) (L : am_L) (ls : Array Slot) : Prop := ls.size = L.length ∧ lv_wf ls ∧ ∀ (i : Nat) (v : Value), L[i]? = some (some v) → ls[i]? = some (.val (am_cV Γ v))
def am_enc (Γ : am_G) (L : am_L) : List (Nat × Value) := (List.range L.length).filterMap fun i => match L[i]? with
  | some (some v) => some (i, am_cV Γ v)
  | _ => none
theorem am_enc_mem {Γ : am_G} {L : am_L} {q : Nat × Value} : q ∈ am_enc Γ L ↔ ∃ v, L[q.1]? = some (some v) ∧ q.2 = am_cV Γ v := by
  unfold am_enc
  rw [List.mem_filterMap]
  constructor
  · rintro ⟨i, hi, h⟩
    cases hL : L[i]? with
    | none => rw [hL] at h; cases h
    | some w =>
      cases w with
      | none => rw [hL] at h; cases h
      | some v => rw [hL] at h; cases h; exact ⟨v, hL, rfl⟩
  · rintro ⟨v, h1, h2⟩
    refine ⟨q.1, List.mem_range.mpr (List.getElem?_eq_some_iff.mp h1).1, ?_⟩
    rw [h1]
    show some (q.1, am_cV Γ v) = some q
    rw [← h2]
theorem am_AL.has {Γ : am_G} {L : am_L} {ls : Array Slot} (h : am_AL Γ L ls) : lv_has ls L.length (am_enc Γ L) :=
  ⟨h.1, h.2.1, fun q hq => by obtain ⟨v, h1, h2⟩ := am_enc_mem.mp hq; rw [h2]; exact h.2.2 q.1 v h1⟩
theorem am_cV_cat (Γ : am_G) (v : Value) : (am_cV Γ v).category = v.category := by
  cases v with
  | ref i =>
    show (if i < 1000000 then Value.ref (am_base Γ + i) else am_rov Γ (i - 1000000)).category = 1
    split
    · rfl
    · unfold am_rov
      repeat' split
      all_goals first | rfl | (cases Γ.2.2.2.2.2.2 <;> rfl)
  | _ => rfl
theorem am_cV_ref (Γ : am_G) (i : Nat) : (∃ q, am_cV Γ (.ref i) = .ref q) ∨ am_cV Γ (.ref i) = .null := by
  show (∃ q, (if i < 1000000 then Value.ref (am_base Γ + i) else am_rov Γ (i - 1000000)) = .ref q) ∨ (if i < 1000000 then Value.ref (am_base Γ + i) else am_rov Γ (i - 1000000)) = .null
  split
  · exact Or.inl ⟨_, rfl⟩
  · unfold am_rov
    repeat' split
    all_goals first | exact Or.inl ⟨_, rfl⟩ | (cases Γ.2.2.2.2.2.2 with | none => exact Or.inr rfl | some q => exact Or.inl ⟨q, rfl⟩)
theorem am_cl1_len (L : am_L) (i : Nat) : (am_cl1 L i).length = L.length := by
  unfold am_cl1
  split
  · rfl
  · split
    · split <;> simp
    · rfl
theorem am_st_len (L : am_L) (i : Nat) (v : Value) : (am_st L i v).length = L.length := by
  unfold am_st
  split <;> simp [am_cl1_len]
theorem am_cl1_at {L : am_L} {i j : Nat} {v : Value} (h : (am_cl1 L i)[j]? = some (some v)) : L[j]? = some (some v) ∧ ¬ (j + 1 = i ∧ v.category = 2) := by
  unfold am_cl1 at h
  split at h
  · exact ⟨h, by omega⟩
  · rename_i k
    split at h
    · rename_i w hw
      split at h
      · rename_i hc
        by_cases hj : j = k
        · subst hj
          rw [List.getElem?_set] at h
          simp only [if_true] at h
          split at h <;> cases h
        · rw [List.getElem?_set_ne (fun q => hj q.symm)] at h
          exact ⟨h, by omega⟩
      · rename_i hc
        refine ⟨h, fun q => ?_⟩
        have hj : j = k := by omega
        subst hj
        rw [hw] at h
        cases h
        exact hc q.2
    · rename_i hn
      refine ⟨h, fun q => ?_⟩
      have hj : j = k := by omega
      subst hj
      exact hn v h
theorem am_AL.st1 {Γ : am_G} {L : am_L} {ls' : Array Slot} {i : Nat} {v : Value} (hc : v.category = 1) (h : lv_has ls' L.length ((i, am_cV Γ v) :: (am_enc Γ L).filter (fun q => !(q.1 == i) && !(q.1 + 1 == i && q.2.category == 2)))) : am_AL Γ (am_st L i v) ls' := by
  refine ⟨by rw [am_st_len]; exact h.1, h.2.1, fun j w hj => ?_⟩
  have hst : am_st L i v = (am_cl1 L i).set i (some v) := by unfold am_st; rw [if_neg (by omega)]
  rw [hst] at hj
  by_cases hij : i = j
  · subst hij
    rw [List.getElem?_set] at hj
    simp only [if_true] at hj
    split at hj
    · cases hj; exact h.2.2 (i, am_cV Γ v) List.mem_cons_self
    · cases hj
  · rw [List.getElem?_set_ne hij] at hj
    obtain ⟨a, b⟩ := am_cl1_at hj
    refine h.2.2 (j, am_cV Γ w) (List.mem_cons_of_mem _ (List.mem_filter.mpr ⟨am_enc_mem.mpr ⟨w, a, rfl⟩, ?_⟩))
    rw [am_cV_cat]
    simp only [Bool.and_eq_true, Bool.not_eq_true', beq_eq_false_iff_ne, ne_eq, Bool.and_eq_false_iff]
    refine ⟨fun q => hij q.symm, ?_⟩
    by_cases h1 : j + 1 = i
    · exact Or.inr fun h2 => b ⟨h1, h2⟩
    · exact Or.inl h1
theorem am_AL.st2 {Γ : am_G} {L : am_L} {ls' : Array Slot} {i : Nat} {v : Value} (hc : v.category = 2) (h : lv_has ls' L.length ((i, am_cV Γ v) :: (am_enc Γ L).filter (fun q => !(q.1 == i) && (!(q.1 == i + 1) && !(q.1 + 1 == i && q.2.category == 2))))) : am_AL Γ (am_st L i v) ls' := by
  refine ⟨by rw [am_st_len]; exact h.1, h.2.1, fun j w hj => ?_⟩
  have hst : am_st L i v = ((am_cl1 L i).set i (some v)).set (i + 1) none := by unfold am_st; rw [if_pos hc]
  rw [hst] at hj
  by_cases hij2 : i + 1 = j
  · subst hij2
    rw [List.getElem?_set] at hj
    simp only [if_true] at hj
    split at hj <;> cases hj
  rw [List.getElem?_set_ne hij2] at hj
  by_cases hij : i = j
  · subst hij
    rw [List.getElem?_set] at hj
    simp only [if_true] at hj
    split at hj
    · cases hj; exact h.2.2 (i, am_cV Γ v) List.mem_cons_self
    · cases hj
  · rw [List.getElem?_set_ne hij] at hj
    obtain ⟨a, b⟩ := am_cl1_at hj
    refine h.2.2 (j, am_cV Γ w) (List.mem_cons_of_mem _ (List.mem_filter.mpr ⟨am_enc_mem.mpr ⟨w, a, rfl⟩, ?_⟩))
    rw [am_cV_cat]
    simp only [Bool.and_eq_true, Bool.not_eq_true', beq_eq_false_iff_ne, ne_eq, Bool.and_eq_false_iff]
    refine ⟨fun q => hij q.symm, fun q => hij2 q.symm, ?_⟩
    by_cases h1 : j + 1 = i
    · exact Or.inr fun h2 => b ⟨h1, h2⟩
    · exact Or.inl h1
def am_esz (x : am_E) : Nat := match x with
  | .inl (_, a) => am_len a
  | .inr (_, fs) => fs.length
def am_sz (es : am_H) : Nat := (es.map am_esz).sum
