section ST
variable {p : Program} {l : Launch} {e : Env} {R : Room} {s : State} {m : MethodId} {args : Array Value} {below : List Frame} {meth : Method} {c : Code} {Q : State → Prop}
variable {Γ : am_G} {xs : List Int32} {M : am_M} {cc : ByteArray} {E0 S0 : Nat}
def am_Cx (p : Program) (R : Room) (s : State) (m : MethodId) (args : Array Value) (meth : Method) (c : Code) (Γ : am_G) (xs : List Int32) (M : am_M) (cc : ByteArray) (E0 : Nat) : Prop :=
  p.tables.exec = Jvm.exec ∧ c.code = cc ∧ c.maxLocals = M.2.2.1 ∧ s.vm.findClass (am_cn M.1) = some m.cls ∧ (∀ w ∈ am_B, w.before args s = true) ∧ am_KK Γ xs s ∧ s.heap.size = am_base Γ + E0 ∧ (∀ a : Nat, a < am_base Γ → s.heap[a]? = Γ.2.2.1[a]?) ∧ M.1 < 16 ∧ (M.2.2.2.1 = true → meth.name = "<init>") ∧ 1 ≤ R.frames ∧ 40 ≤ R.locals
def am_Wp (p : Program) (l : Launch) (e : Env) (R : Room) (s : State) (m : MethodId) (args : Array Value) (below : List Frame) (meth : Method) (c : Code) (Q : State → Prop) (Γ : am_G) (nL E0 S0 : Nat) (pc : Nat) (L : am_L) (st : List Value) (es : am_H) : Prop :=
  L.length = nL → ∀ (H : Heap) (locs : List Loc) (ls : Array Slot), am_Wd Γ es s H → va_S (fun q : Nat => am_base Γ ≤ q) s.heap H locs → am_AL Γ L ls → W p l e R s m args below meth c H locs (es.length - E0) (am_sz es - S0) Q (F0 m pc ls (st.map (am_cV Γ)))
theorem am_up {H : Heap} {locs : List Loc} {cells slots : Nat} {g : JFrame} (k : H.size ≤ s.heap.size + cells → W p l e R s m args below meth c H locs cells slots Q g) : W p l e R s m args below meth c H locs cells slots Q g := by
  intro T hT X
  have h := X.same.2.2.1
  exact k (by rw [← hT]; exact h) T hT X
theorem am_low {es : am_H} {H : Heap} {locs : List Loc} (hW : am_Wd Γ es s H) (hS : va_S (fun q : Nat => am_base Γ ≤ q) s.heap H locs) (hb : s.heap.size = am_base Γ + E0) : am_base Γ + es.length ≤ H.size := by
  cases hn : es.length with
  | zero => have := hS.1; omega
  | succ n =>
    have h1 : es[n]? = some es[n] := List.getElem?_eq_getElem (by omega)
    have h2 := va_at.lt (hW.2.1 n _ (am_cW_at h1))
    dsimp only at h2
    omega
theorem am_gB {w : Cond} (h : w ∈ lw_tbl) (hg : goodWord w = true) : w ∈ am_B := List.mem_filter.mpr ⟨h, hg⟩
theorem am_wsB {i : Nat} (hi : i < 10) : ∀ w ∈ u_ws (am_cn i) (am_T i) (am_nf i), w ∈ am_B := fun w hw => am_gB (am_wsk_ok i hi w hw) (by
  obtain ⟨k, -, rfl⟩ := List.mem_map.mp hw
  unfold u_lay
  split <;> rfl)
theorem am_lk {α : Type} {l : List (Nat × α)} {k : Nat} {v : α} (h : l.lookup k = some v) : (k, v) ∈ l := by
  induction l with
  | nil => cases h
  | cons q l ih =>
    obtain ⟨a, b⟩ := q
    rw [List.lookup_cons] at h
    split at h
    · rename_i hk
      have := of_decide_eq_true hk
      subst this
      cases h
      exact List.mem_cons_self
    · exact List.mem_cons_of_mem _ (ih h)
theorem am_cV_lo {a : Nat} (h : a < 1000000) : am_cV Γ (.ref a) = .ref (am_base Γ + a) := by
  show (if a < 1000000 then Value.ref (am_base Γ + a) else am_rov Γ (a - 1000000)) = _
  rw [if_pos h]
theorem am_cV_hi {a : Nat} (h : ¬ a < 1000000) : am_cV Γ (.ref a) = am_rov Γ (a - 1000000) := by
  show (if a < 1000000 then Value.ref (am_base Γ + a) else am_rov Γ (a - 1000000)) = _
  rw [if_neg h]
theorem am_sz_set {es : am_H} {i : Nat} {x y : am_E} (h : es[i]? = some x) (hz : am_esz y = am_esz x) : am_sz (es.set i y) = am_sz es := by
  unfold am_sz
  congr 1
  apply List.ext_getElem?
  intro j
  rw [List.getElem?_map, List.getElem?_map, List.getElem?_set]
  by_cases hj : i = j
  · subst hj
    rw [if_pos rfl, h]
    have := (List.getElem?_eq_some_iff.mp h).1
    rw [if_pos this]
    simp [hz]
  · rw [if_neg hj]
theorem am_sz_push (es : am_H) (x : am_E) : am_sz (es ++ [x]) = am_sz es + am_esz x := by
  unfold am_sz
  simp
theorem am_Wd.put {es : am_H} {i : Nat} {x y : am_E} {H H1 : Heap} {locs1 : List Loc} (hW : am_Wd Γ es s H) (h : es[i]? = some x) (hP : va_P Γ.1 am_cl ((am_cW Γ es).set i (am_base Γ + i, am_cE Γ y)) H1) (hS : va_S (fun q : Nat => am_base Γ ≤ q) s.heap H1 locs1) (hb : s.heap.size = am_base Γ + E0) (hbq : ∀ a : Nat, a < am_base Γ → s.heap[a]? = Γ.2.2.1[a]?) (hty : ∀ ty a, y = Sum.inl (ty, a) → ∃ a', x = Sum.inl (ty, a')) : am_Wd Γ (es.set i y) s H1 := by
  refine ⟨fun a ha => ?_, by rw [← am_cW_set]; exact hP, fun j ty a hj => ?_⟩
  · rw [hS.2.1 a (by omega) (by omega)]
    exact hbq a ha
  · rw [List.getElem?_set] at hj
    by_cases hij : i = j
    · subst hij
      rw [if_pos rfl] at hj
      split at hj
      · cases hj
        obtain ⟨a', rfl⟩ := hty ty a rfl
        exact hW.2.2 i ty a' h
      · cases hj
    · rw [if_neg hij] at hj
      exact hW.2.2 j ty a hj
theorem am_K1 {es : am_H} {H : Heap} {i : Nat} {ty : FieldType} {a : am_A} (hKK : am_KK Γ xs s) (hW : am_Wd Γ es s H) (h : es[i]? = some (Sum.inl (ty, a))) : va_K Γ.1 am_cl [(am_cT Γ ty, ty)] s :=
  ⟨hKK.1.1, fun k q hk => by
    cases k with
    | zero => cases hk; exact hW.2.2 i ty a h
    | succ k => cases hk⟩
theorem am_nx_inv {pc : Nat} {L : am_L} {st : List Value} {es : am_H} {N : Nat × (am_L × (List Value × am_H))} (h : am_nx pc L st es = some (.inl N)) : N = (pc, L, st, es) := by
  unfold am_nx at h
  simpa using h.symm
theorem am_nx_no {pc : Nat} {L : am_L} {st : List Value} {es : am_H} {r : am_R} (h : am_nx pc L st es = some (.inr r)) : False := by
  unfold am_nx at h
  simp at h
theorem am_ii_inv {st : List Value} {f : Int32 → Int32 → Option Value} {np : Nat} {L : am_L} {es : am_H} {N : Nat × (am_L × (List Value × am_H))} (h : am_ii st f np L es = some (.inl N)) : ∃ y x r v, st = .int y :: .int x :: r ∧ f x y = some v ∧ N = (np, L, v :: r, es) := by
  unfold am_ii at h
  split at h
  · rename_i y x r
    split at h
    · rename_i v hv
      exact ⟨y, x, r, v, rfl, hv, am_nx_inv h⟩
    · cases h
  · cases h
theorem am_jj_inv {st : List Value} {f : Int64 → Int64 → Option Value} {np : Nat} {L : am_L} {es : am_H} {N : Nat × (am_L × (List Value × am_H))} (h : am_jj st f np L es = some (.inl N)) : ∃ y x r v, st = .long y :: .long x :: r ∧ f x y = some v ∧ N = (np, L, v :: r, es) := by
  unfold am_jj at h
  split at h
  · rename_i y x r
    split at h
    · rename_i v hv
      exact ⟨y, x, r, v, rfl, hv, am_nx_inv h⟩
    · cases h
  · cases h
theorem am_i1_inv {st : List Value} {f : Int32 → Value} {np : Nat} {L : am_L} {es : am_H} {N : Nat × (am_L × (List Value × am_H))} (h : am_i1 st f np L es = some (.inl N)) : ∃ x r, st = .int x :: r ∧ N = (np, L, f x :: r, es) := by
  unfold am_i1 at h
  split at h
  · rename_i x r
    exact ⟨x, r, rfl, am_nx_inv h⟩
  · cases h
theorem am_j1_inv {st : List Value} {f : Int64 → Value} {np : Nat} {L : am_L} {es : am_H} {N : Nat × (am_L × (List Value × am_H))} (h : am_j1 st f np L es = some (.inl N)) : ∃ x r, st = .long x :: r ∧ N = (np, L, f x :: r, es) := by
  unfold am_j1 at h
  split at h
  · rename_i x r
    exact ⟨x, r, rfl, am_nx_inv h⟩
  · cases h
theorem am_load_inv {st : List Value} {L : am_L} {i np : Nat} {es : am_H} {ok : Value → Bool} {N : Nat × (am_L × (List Value × am_H))} (h : am_load st L i np es ok = some (.inl N)) : ∃ v, L[i]? = some (some v) ∧ ok v = true ∧ N = (np, L, v :: st, es) := by
  unfold am_load am_ld at h
  split at h
  · rename_i v hv
    split at h
    · rename_i hok
      split at hv
      · rename_i w hw
        cases hv
        exact ⟨v, hw, hok, am_nx_inv h⟩
      · cases hv
    · cases h
  · cases h
theorem am_store_inv {st : List Value} {L : am_L} {i np : Nat} {es : am_H} {w : Nat} {ok : Value → Bool} {N : Nat × (am_L × (List Value × am_H))} (h : am_store st L i np es w ok = some (.inl N)) : ∃ v r, st = v :: r ∧ ok v = true ∧ i + w ≤ L.length ∧ N = (np, am_st L i v, r, es) := by
  unfold am_store at h
  split at h
  · rename_i v r
    split at h
    · rename_i hok
      exact ⟨v, r, rfl, hok.1, hok.2, am_nx_inv h⟩
    · cases h
  · cases h
theorem am_jmp_some {pc : Nat} {off : Int} {t : Nat} (ht : am_jmp pc off = some t) : (pc : Int) + off = (t : Int) := by
  unfold am_jmp at ht
  split at ht
  · rename_i h0
    cases ht
    exact (Int.toNat_of_nonneg h0).symm
  · cases ht
theorem am_jmp_inv {pc : Nat} {off : Int} {L : am_L} {st : List Value} {es : am_H} {N : Nat × (am_L × (List Value × am_H))} (h : am_go pc off L st es = some (.inl N)) : ∃ t : Nat, (pc : Int) + off = (t : Int) ∧ N = (t, L, st, es) := by
  unfold am_go at h
  split at h
  · rename_i t ht
    exact ⟨t, am_jmp_some ht, am_nx_inv h⟩
  · cases h
theorem am_cond_inv {cd : ClassFile.Cond} {x y : Int32} {pc : Nat} {off : Int} {L : am_L} {st : List Value} {es : am_H} {N : Nat × (am_L × (List Value × am_H))} (h : am_cond cd x y pc off L st es = some (.inl N)) : ∃ t : Nat, (pc : Int) + off = (t : Int) ∧ ((am_cmp cd x y = true ∧ N = (t, L, st, es)) ∨ (am_cmp cd x y = false ∧ N = (pc + 3, L, st, es))) := by
  unfold am_cond at h
  split at h
  · rename_i t ht
    refine ⟨t, am_jmp_some ht, ?_⟩
    split at h
    · rename_i hc
      exact Or.inl ⟨hc, am_nx_inv h⟩
    · rename_i hc
      exact Or.inr ⟨by simpa using hc, am_nx_inv h⟩
  · cases h
theorem am_isI_inv {v : Value} (h : am_isI v = true) : ∃ x, v = .int x := by
  cases v <;> first | exact ⟨_, rfl⟩ | cases h
theorem am_isJ_inv {v : Value} (h : am_isJ v = true) : ∃ x, v = .long x := by
  cases v <;> first | exact ⟨_, rfl⟩ | cases h
theorem am_isA_inv {v : Value} (h : am_isA v = true) : v = .null ∨ ∃ x, v = .ref x := by
  cases v <;> first | exact Or.inl rfl | exact Or.inr ⟨_, rfl⟩ | cases h
theorem am_isA_cV {v : Value} (h : am_isA v = true) : (∃ q, am_cV Γ v = .ref q) ∨ am_cV Γ v = .null := by
  rcases am_isA_inv h with rfl | ⟨x, rfl⟩
  · exact Or.inr rfl
  · exact am_cV_ref Γ x
theorem am_get_inv {α : Type} {l : List α} {i : Int32} {x : α} (h : am_get l i = some x) : vp_in i l.length ∧ l[i.toNatClampNeg]? = some x := by
  unfold am_get at h
  split at h
  · cases h
  · rename_i hi
    exact ⟨fun q => q.elim hi (fun q => absurd (List.getElem?_eq_some_iff.mp h).1 (by omega)), h⟩
theorem sd_iadd (C : am_Cx p R s m args meth c Γ xs M cc E0) {pc : Nat} {L : am_L} {st : List Value} {es : am_H} {N : Nat × (am_L × (List Value × am_H))} (hd : decode cc pc = .ok (.iadd, 1)) (h : am_ii st (fun x y => some (.int (x + y))) (pc + 1) L es = some (.inl N)) (k : am_Wp p l e R s m args below meth c Q Γ M.2.2.1 E0 S0 N.1 N.2.1 N.2.2.1 N.2.2.2) : am_Wp p l e R s m args below meth c Q Γ M.2.2.1 E0 S0 pc L st es := by
  obtain ⟨hx, hb, hml, hown, hts, hKK, hb1, hb2, ho, hini, hfr, hlo⟩ := id C
  obtain ⟨y, x, r, v, rfl, hv, rfl⟩ := am_ii_inv h
  cases hv
  exact fun hn H locs ls a b d => lv_iadd hx hb hd (k hn H locs ls a b d)
theorem sd_isub (C : am_Cx p R s m args meth c Γ xs M cc E0) {pc : Nat} {L : am_L} {st : List Value} {es : am_H} {N : Nat × (am_L × (List Value × am_H))} (hd : decode cc pc = .ok (.isub, 1)) (h : am_ii st (fun x y => some (.int (x - y))) (pc + 1) L es = some (.inl N)) (k : am_Wp p l e R s m args below meth c Q Γ M.2.2.1 E0 S0 N.1 N.2.1 N.2.2.1 N.2.2.2) : am_Wp p l e R s m args below meth c Q Γ M.2.2.1 E0 S0 pc L st es := by
  obtain ⟨hx, hb, hml, hown, hts, hKK, hb1, hb2, ho, hini, hfr, hlo⟩ := id C
  obtain ⟨y, x, r, v, rfl, hv, rfl⟩ := am_ii_inv h
  cases hv
  exact fun hn H locs ls a b d => lv_isub hx hb hd (k hn H locs ls a b d)
theorem sd_imul (C : am_Cx p R s m args meth c Γ xs M cc E0) {pc : Nat} {L : am_L} {st : List Value} {es : am_H} {N : Nat × (am_L × (List Value × am_H))} (hd : decode cc pc = .ok (.imul, 1)) (h : am_ii st (fun x y => some (.int (x * y))) (pc + 1) L es = some (.inl N)) (k : am_Wp p l e R s m args below meth c Q Γ M.2.2.1 E0 S0 N.1 N.2.1 N.2.2.1 N.2.2.2) : am_Wp p l e R s m args below meth c Q Γ M.2.2.1 E0 S0 pc L st es := by
  obtain ⟨hx, hb, hml, hown, hts, hKK, hb1, hb2, ho, hini, hfr, hlo⟩ := id C
  obtain ⟨y, x, r, v, rfl, hv, rfl⟩ := am_ii_inv h
  cases hv
  exact fun hn H locs ls a b d => lv_imul hx hb hd (k hn H locs ls a b d)
theorem sd_iand (C : am_Cx p R s m args meth c Γ xs M cc E0) {pc : Nat} {L : am_L} {st : List Value} {es : am_H} {N : Nat × (am_L × (List Value × am_H))} (hd : decode cc pc = .ok (.iand, 1)) (h : am_ii st (fun x y => some (.int (x &&& y))) (pc + 1) L es = some (.inl N)) (k : am_Wp p l e R s m args below meth c Q Γ M.2.2.1 E0 S0 N.1 N.2.1 N.2.2.1 N.2.2.2) : am_Wp p l e R s m args below meth c Q Γ M.2.2.1 E0 S0 pc L st es := by
  obtain ⟨hx, hb, hml, hown, hts, hKK, hb1, hb2, ho, hini, hfr, hlo⟩ := id C
  obtain ⟨y, x, r, v, rfl, hv, rfl⟩ := am_ii_inv h
  cases hv
  exact fun hn H locs ls a b d => lv_iand hx hb hd (k hn H locs ls a b d)
theorem sd_ior (C : am_Cx p R s m args meth c Γ xs M cc E0) {pc : Nat} {L : am_L} {st : List Value} {es : am_H} {N : Nat × (am_L × (List Value × am_H))} (hd : decode cc pc = .ok (.ior, 1)) (h : am_ii st (fun x y => some (.int (x ||| y))) (pc + 1) L es = some (.inl N)) (k : am_Wp p l e R s m args below meth c Q Γ M.2.2.1 E0 S0 N.1 N.2.1 N.2.2.1 N.2.2.2) : am_Wp p l e R s m args below meth c Q Γ M.2.2.1 E0 S0 pc L st es := by
  obtain ⟨hx, hb, hml, hown, hts, hKK, hb1, hb2, ho, hini, hfr, hlo⟩ := id C
  obtain ⟨y, x, r, v, rfl, hv, rfl⟩ := am_ii_inv h
  cases hv
  exact fun hn H locs ls a b d => lv_ior hx hb hd (k hn H locs ls a b d)
theorem sd_ixor (C : am_Cx p R s m args meth c Γ xs M cc E0) {pc : Nat} {L : am_L} {st : List Value} {es : am_H} {N : Nat × (am_L × (List Value × am_H))} (hd : decode cc pc = .ok (.ixor, 1)) (h : am_ii st (fun x y => some (.int (x ^^^ y))) (pc + 1) L es = some (.inl N)) (k : am_Wp p l e R s m args below meth c Q Γ M.2.2.1 E0 S0 N.1 N.2.1 N.2.2.1 N.2.2.2) : am_Wp p l e R s m args below meth c Q Γ M.2.2.1 E0 S0 pc L st es := by
  obtain ⟨hx, hb, hml, hown, hts, hKK, hb1, hb2, ho, hini, hfr, hlo⟩ := id C
  obtain ⟨y, x, r, v, rfl, hv, rfl⟩ := am_ii_inv h
  cases hv
  exact fun hn H locs ls a b d => lv_ixor hx hb hd (k hn H locs ls a b d)
theorem sd_ishl (C : am_Cx p R s m args meth c Γ xs M cc E0) {pc : Nat} {L : am_L} {st : List Value} {es : am_H} {N : Nat × (am_L × (List Value × am_H))} (hd : decode cc pc = .ok (.ishl, 1)) (h : am_ii st (fun x y => some (.int (x <<< (y &&& 31)))) (pc + 1) L es = some (.inl N)) (k : am_Wp p l e R s m args below meth c Q Γ M.2.2.1 E0 S0 N.1 N.2.1 N.2.2.1 N.2.2.2) : am_Wp p l e R s m args below meth c Q Γ M.2.2.1 E0 S0 pc L st es := by
  obtain ⟨hx, hb, hml, hown, hts, hKK, hb1, hb2, ho, hini, hfr, hlo⟩ := id C
  obtain ⟨y, x, r, v, rfl, hv, rfl⟩ := am_ii_inv h
  cases hv
  exact fun hn H locs ls a b d => lv_ishl hx hb hd (k hn H locs ls a b d)
theorem sd_ishr (C : am_Cx p R s m args meth c Γ xs M cc E0) {pc : Nat} {L : am_L} {st : List Value} {es : am_H} {N : Nat × (am_L × (List Value × am_H))} (hd : decode cc pc = .ok (.ishr, 1)) (h : am_ii st (fun x y => some (.int (x >>> (y &&& 31)))) (pc + 1) L es = some (.inl N)) (k : am_Wp p l e R s m args below meth c Q Γ M.2.2.1 E0 S0 N.1 N.2.1 N.2.2.1 N.2.2.2) : am_Wp p l e R s m args below meth c Q Γ M.2.2.1 E0 S0 pc L st es := by
  obtain ⟨hx, hb, hml, hown, hts, hKK, hb1, hb2, ho, hini, hfr, hlo⟩ := id C
  obtain ⟨y, x, r, v, rfl, hv, rfl⟩ := am_ii_inv h
  cases hv
  exact fun hn H locs ls a b d => lv_ishr hx hb hd (k hn H locs ls a b d)
theorem sd_iushr (C : am_Cx p R s m args meth c Γ xs M cc E0) {pc : Nat} {L : am_L} {st : List Value} {es : am_H} {N : Nat × (am_L × (List Value × am_H))} (hd : decode cc pc = .ok (.iushr, 1)) (h : am_ii st (fun x y => some (.int ((x.toUInt32 >>> (y.toUInt32 &&& Int32.toUInt32 31)).toInt32))) (pc + 1) L es = some (.inl N)) (k : am_Wp p l e R s m args below meth c Q Γ M.2.2.1 E0 S0 N.1 N.2.1 N.2.2.1 N.2.2.2) : am_Wp p l e R s m args below meth c Q Γ M.2.2.1 E0 S0 pc L st es := by
  obtain ⟨hx, hb, hml, hown, hts, hKK, hb1, hb2, ho, hini, hfr, hlo⟩ := id C
  obtain ⟨y, x, r, v, rfl, hv, rfl⟩ := am_ii_inv h
  cases hv
  exact fun hn H locs ls a b d => lv_iushr hx hb hd rfl (k hn H locs ls a b d)
theorem sd_idiv (C : am_Cx p R s m args meth c Γ xs M cc E0) {pc : Nat} {L : am_L} {st : List Value} {es : am_H} {N : Nat × (am_L × (List Value × am_H))} (hd : decode cc pc = .ok (.idiv, 1)) (h : am_ii st (fun x y => if y = 0 then none else some (.int (x / y))) (pc + 1) L es = some (.inl N)) (k : am_Wp p l e R s m args below meth c Q Γ M.2.2.1 E0 S0 N.1 N.2.1 N.2.2.1 N.2.2.2) : am_Wp p l e R s m args below meth c Q Γ M.2.2.1 E0 S0 pc L st es := by
  obtain ⟨hx, hb, hml, hown, hts, hKK, hb1, hb2, ho, hini, hfr, hlo⟩ := id C
  obtain ⟨y, x, r, v, rfl, hv, rfl⟩ := am_ii_inv h
  split at hv
  · cases hv
  · rename_i hne
    cases hv
    exact fun hn H locs ls a b d => lv_idiv hx hb hd hne (k hn H locs ls a b d)
theorem sd_irem (C : am_Cx p R s m args meth c Γ xs M cc E0) {pc : Nat} {L : am_L} {st : List Value} {es : am_H} {N : Nat × (am_L × (List Value × am_H))} (hd : decode cc pc = .ok (.irem, 1)) (h : am_ii st (fun x y => if y = 0 then none else some (.int (x - x / y * y))) (pc + 1) L es = some (.inl N)) (k : am_Wp p l e R s m args below meth c Q Γ M.2.2.1 E0 S0 N.1 N.2.1 N.2.2.1 N.2.2.2) : am_Wp p l e R s m args below meth c Q Γ M.2.2.1 E0 S0 pc L st es := by
  obtain ⟨hx, hb, hml, hown, hts, hKK, hb1, hb2, ho, hini, hfr, hlo⟩ := id C
  obtain ⟨y, x, r, v, rfl, hv, rfl⟩ := am_ii_inv h
  split at hv
  · cases hv
  · rename_i hne
    cases hv
    exact fun hn H locs ls a b d => lv_irem hx hb hd hne (k hn H locs ls a b d)
theorem sd_ladd (C : am_Cx p R s m args meth c Γ xs M cc E0) {pc : Nat} {L : am_L} {st : List Value} {es : am_H} {N : Nat × (am_L × (List Value × am_H))} (hd : decode cc pc = .ok (.ladd, 1)) (h : am_jj st (fun x y => some (.long (x + y))) (pc + 1) L es = some (.inl N)) (k : am_Wp p l e R s m args below meth c Q Γ M.2.2.1 E0 S0 N.1 N.2.1 N.2.2.1 N.2.2.2) : am_Wp p l e R s m args below meth c Q Γ M.2.2.1 E0 S0 pc L st es := by
  obtain ⟨hx, hb, hml, hown, hts, hKK, hb1, hb2, ho, hini, hfr, hlo⟩ := id C
  obtain ⟨y, x, r, v, rfl, hv, rfl⟩ := am_jj_inv h
  cases hv
  exact fun hn H locs ls a b d => lv_ladd hx hb hd (k hn H locs ls a b d)
theorem sd_land (C : am_Cx p R s m args meth c Γ xs M cc E0) {pc : Nat} {L : am_L} {st : List Value} {es : am_H} {N : Nat × (am_L × (List Value × am_H))} (hd : decode cc pc = .ok (.land, 1)) (h : am_jj st (fun x y => some (.long (x &&& y))) (pc + 1) L es = some (.inl N)) (k : am_Wp p l e R s m args below meth c Q Γ M.2.2.1 E0 S0 N.1 N.2.1 N.2.2.1 N.2.2.2) : am_Wp p l e R s m args below meth c Q Γ M.2.2.1 E0 S0 pc L st es := by
  obtain ⟨hx, hb, hml, hown, hts, hKK, hb1, hb2, ho, hini, hfr, hlo⟩ := id C
  obtain ⟨y, x, r, v, rfl, hv, rfl⟩ := am_jj_inv h
  cases hv
  exact fun hn H locs ls a b d => lv_land hx hb hd (k hn H locs ls a b d)
theorem sd_lor (C : am_Cx p R s m args meth c Γ xs M cc E0) {pc : Nat} {L : am_L} {st : List Value} {es : am_H} {N : Nat × (am_L × (List Value × am_H))} (hd : decode cc pc = .ok (.lor, 1)) (h : am_jj st (fun x y => some (.long (x ||| y))) (pc + 1) L es = some (.inl N)) (k : am_Wp p l e R s m args below meth c Q Γ M.2.2.1 E0 S0 N.1 N.2.1 N.2.2.1 N.2.2.2) : am_Wp p l e R s m args below meth c Q Γ M.2.2.1 E0 S0 pc L st es := by
  obtain ⟨hx, hb, hml, hown, hts, hKK, hb1, hb2, ho, hini, hfr, hlo⟩ := id C
  obtain ⟨y, x, r, v, rfl, hv, rfl⟩ := am_jj_inv h
  cases hv
  exact fun hn H locs ls a b d => lv_lor hx hb hd (k hn H locs ls a b d)
theorem sd_lcmp (C : am_Cx p R s m args meth c Γ xs M cc E0) {pc : Nat} {L : am_L} {st : List Value} {es : am_H} {N : Nat × (am_L × (List Value × am_H))} (hd : decode cc pc = .ok (.lcmp, 1)) (h : am_jj st (fun x y => some (.int (lg_cmp x y))) (pc + 1) L es = some (.inl N)) (k : am_Wp p l e R s m args below meth c Q Γ M.2.2.1 E0 S0 N.1 N.2.1 N.2.2.1 N.2.2.2) : am_Wp p l e R s m args below meth c Q Γ M.2.2.1 E0 S0 pc L st es := by
  obtain ⟨hx, hb, hml, hown, hts, hKK, hb1, hb2, ho, hini, hfr, hlo⟩ := id C
  obtain ⟨y, x, r, v, rfl, hv, rfl⟩ := am_jj_inv h
  cases hv
  exact fun hn H locs ls a b d => W.lcmp hx hb hd (k hn H locs ls a b d)
theorem sd_ldiv (C : am_Cx p R s m args meth c Γ xs M cc E0) {pc : Nat} {L : am_L} {st : List Value} {es : am_H} {N : Nat × (am_L × (List Value × am_H))} (hd : decode cc pc = .ok (.ldiv, 1)) (h : am_jj st (fun x y => if y = 0 then none else some (.long (x / y))) (pc + 1) L es = some (.inl N)) (k : am_Wp p l e R s m args below meth c Q Γ M.2.2.1 E0 S0 N.1 N.2.1 N.2.2.1 N.2.2.2) : am_Wp p l e R s m args below meth c Q Γ M.2.2.1 E0 S0 pc L st es := by
  obtain ⟨hx, hb, hml, hown, hts, hKK, hb1, hb2, ho, hini, hfr, hlo⟩ := id C
  obtain ⟨y, x, r, v, rfl, hv, rfl⟩ := am_jj_inv h
  split at hv
  · cases hv
  · rename_i hne
    cases hv
    exact fun hn H locs ls a b d => lv_ldiv hx hb hd hne (k hn H locs ls a b d)
theorem sd_lrem (C : am_Cx p R s m args meth c Γ xs M cc E0) {pc : Nat} {L : am_L} {st : List Value} {es : am_H} {N : Nat × (am_L × (List Value × am_H))} (hd : decode cc pc = .ok (.lrem, 1)) (h : am_jj st (fun x y => if y = 0 then none else some (.long (x - x / y * y))) (pc + 1) L es = some (.inl N)) (k : am_Wp p l e R s m args below meth c Q Γ M.2.2.1 E0 S0 N.1 N.2.1 N.2.2.1 N.2.2.2) : am_Wp p l e R s m args below meth c Q Γ M.2.2.1 E0 S0 pc L st es := by
  obtain ⟨hx, hb, hml, hown, hts, hKK, hb1, hb2, ho, hini, hfr, hlo⟩ := id C
  obtain ⟨y, x, r, v, rfl, hv, rfl⟩ := am_jj_inv h
  split at hv
  · cases hv
  · rename_i hne
    cases hv
    exact fun hn H locs ls a b d => lv_lrem hx hb hd hne (k hn H locs ls a b d)
theorem sd_ineg (C : am_Cx p R s m args meth c Γ xs M cc E0) {pc : Nat} {L : am_L} {st : List Value} {es : am_H} {N : Nat × (am_L × (List Value × am_H))} (hd : decode cc pc = .ok (.ineg, 1)) (h : am_i1 st (fun x => .int (-x)) (pc + 1) L es = some (.inl N)) (k : am_Wp p l e R s m args below meth c Q Γ M.2.2.1 E0 S0 N.1 N.2.1 N.2.2.1 N.2.2.2) : am_Wp p l e R s m args below meth c Q Γ M.2.2.1 E0 S0 pc L st es := by
  obtain ⟨hx, hb, hml, hown, hts, hKK, hb1, hb2, ho, hini, hfr, hlo⟩ := id C
  obtain ⟨x, r, rfl, rfl⟩ := am_i1_inv h
  exact fun hn H locs ls a b d => lv_ineg hx hb hd (k hn H locs ls a b d)
theorem sd_i2l (C : am_Cx p R s m args meth c Γ xs M cc E0) {pc : Nat} {L : am_L} {st : List Value} {es : am_H} {N : Nat × (am_L × (List Value × am_H))} (hd : decode cc pc = .ok (.i2l, 1)) (h : am_i1 st (fun x => .long x.toInt64) (pc + 1) L es = some (.inl N)) (k : am_Wp p l e R s m args below meth c Q Γ M.2.2.1 E0 S0 N.1 N.2.1 N.2.2.1 N.2.2.2) : am_Wp p l e R s m args below meth c Q Γ M.2.2.1 E0 S0 pc L st es := by
  obtain ⟨hx, hb, hml, hown, hts, hKK, hb1, hb2, ho, hini, hfr, hlo⟩ := id C
  obtain ⟨x, r, rfl, rfl⟩ := am_i1_inv h
  exact fun hn H locs ls a b d => lv_i2l hx hb hd rfl (k hn H locs ls a b d)
theorem sd_i2b (C : am_Cx p R s m args meth c Γ xs M cc E0) {pc : Nat} {L : am_L} {st : List Value} {es : am_H} {N : Nat × (am_L × (List Value × am_H))} (hd : decode cc pc = .ok (.i2b, 1)) (h : am_i1 st (fun x => .int x.toInt8.toInt32) (pc + 1) L es = some (.inl N)) (k : am_Wp p l e R s m args below meth c Q Γ M.2.2.1 E0 S0 N.1 N.2.1 N.2.2.1 N.2.2.2) : am_Wp p l e R s m args below meth c Q Γ M.2.2.1 E0 S0 pc L st es := by
  obtain ⟨hx, hb, hml, hown, hts, hKK, hb1, hb2, ho, hini, hfr, hlo⟩ := id C
  obtain ⟨x, r, rfl, rfl⟩ := am_i1_inv h
  exact fun hn H locs ls a b d => lv_i2b hx hb hd rfl (k hn H locs ls a b d)
theorem sd_i2s (C : am_Cx p R s m args meth c Γ xs M cc E0) {pc : Nat} {L : am_L} {st : List Value} {es : am_H} {N : Nat × (am_L × (List Value × am_H))} (hd : decode cc pc = .ok (.i2s, 1)) (h : am_i1 st (fun x => .int x.toInt16.toInt32) (pc + 1) L es = some (.inl N)) (k : am_Wp p l e R s m args below meth c Q Γ M.2.2.1 E0 S0 N.1 N.2.1 N.2.2.1 N.2.2.2) : am_Wp p l e R s m args below meth c Q Γ M.2.2.1 E0 S0 pc L st es := by
  obtain ⟨hx, hb, hml, hown, hts, hKK, hb1, hb2, ho, hini, hfr, hlo⟩ := id C
  obtain ⟨x, r, rfl, rfl⟩ := am_i1_inv h
  exact fun hn H locs ls a b d => lv_i2s hx hb hd rfl (k hn H locs ls a b d)
theorem sd_i2c (C : am_Cx p R s m args meth c Γ xs M cc E0) {pc : Nat} {L : am_L} {st : List Value} {es : am_H} {N : Nat × (am_L × (List Value × am_H))} (hd : decode cc pc = .ok (.i2c, 1)) (h : am_i1 st (fun x => .int (x.toUInt32 % 65536).toInt32) (pc + 1) L es = some (.inl N)) (k : am_Wp p l e R s m args below meth c Q Γ M.2.2.1 E0 S0 N.1 N.2.1 N.2.2.1 N.2.2.2) : am_Wp p l e R s m args below meth c Q Γ M.2.2.1 E0 S0 pc L st es := by
  obtain ⟨hx, hb, hml, hown, hts, hKK, hb1, hb2, ho, hini, hfr, hlo⟩ := id C
  obtain ⟨x, r, rfl, rfl⟩ := am_i1_inv h
  exact fun hn H locs ls a b d => lv_i2c hx hb hd rfl (k hn H locs ls a b d)
theorem sd_lneg (C : am_Cx p R s m args meth c Γ xs M cc E0) {pc : Nat} {L : am_L} {st : List Value} {es : am_H} {N : Nat × (am_L × (List Value × am_H))} (hd : decode cc pc = .ok (.lneg, 1)) (h : am_j1 st (fun x => .long (-x)) (pc + 1) L es = some (.inl N)) (k : am_Wp p l e R s m args below meth c Q Γ M.2.2.1 E0 S0 N.1 N.2.1 N.2.2.1 N.2.2.2) : am_Wp p l e R s m args below meth c Q Γ M.2.2.1 E0 S0 pc L st es := by
  obtain ⟨hx, hb, hml, hown, hts, hKK, hb1, hb2, ho, hini, hfr, hlo⟩ := id C
  obtain ⟨x, r, rfl, rfl⟩ := am_j1_inv h
  exact fun hn H locs ls a b d => lv_lneg hx hb hd (k hn H locs ls a b d)
theorem sd_l2i (C : am_Cx p R s m args meth c Γ xs M cc E0) {pc : Nat} {L : am_L} {st : List Value} {es : am_H} {N : Nat × (am_L × (List Value × am_H))} (hd : decode cc pc = .ok (.l2i, 1)) (h : am_j1 st (fun x => .int x.toInt32) (pc + 1) L es = some (.inl N)) (k : am_Wp p l e R s m args below meth c Q Γ M.2.2.1 E0 S0 N.1 N.2.1 N.2.2.1 N.2.2.2) : am_Wp p l e R s m args below meth c Q Γ M.2.2.1 E0 S0 pc L st es := by
  obtain ⟨hx, hb, hml, hown, hts, hKK, hb1, hb2, ho, hini, hfr, hlo⟩ := id C
  obtain ⟨x, r, rfl, rfl⟩ := am_j1_inv h
  exact fun hn H locs ls a b d => lv_l2i hx hb hd rfl (k hn H locs ls a b d)
theorem sd_lshl (C : am_Cx p R s m args meth c Γ xs M cc E0) {pc : Nat} {L : am_L} {st : List Value} {es : am_H} {N : Nat × (am_L × (List Value × am_H))} (hd : decode cc pc = .ok (.lshl, 1)) (h : am_lsh st (pc + 1) L es = some (.inl N)) (k : am_Wp p l e R s m args below meth c Q Γ M.2.2.1 E0 S0 N.1 N.2.1 N.2.2.1 N.2.2.2) : am_Wp p l e R s m args below meth c Q Γ M.2.2.1 E0 S0 pc L st es := by
  obtain ⟨hx, hb, hml, hown, hts, hKK, hb1, hb2, ho, hini, hfr, hlo⟩ := id C
  unfold am_lsh at h
  split at h
  · rename_i y x r
    obtain rfl := am_nx_inv h
    exact fun hn H locs ls a b d => lv_lshl hx hb hd rfl (k hn H locs ls a b d)
  · cases h
theorem sd_iconst (C : am_Cx p R s m args meth c Γ xs M cc E0) {pc : Nat} {L : am_L} {st : List Value} {es : am_H} {N : Nat × (am_L × (List Value × am_H))} {n : Int} (hd : decode cc pc = .ok (.iconst n, 1)) (h : am_nx (pc + 1) L (.int (Int32.ofInt n) :: st) es = some (.inl N)) (k : am_Wp p l e R s m args below meth c Q Γ M.2.2.1 E0 S0 N.1 N.2.1 N.2.2.1 N.2.2.2) : am_Wp p l e R s m args below meth c Q Γ M.2.2.1 E0 S0 pc L st es := by
  obtain ⟨hx, hb, hml, hown, hts, hKK, hb1, hb2, ho, hini, hfr, hlo⟩ := id C
  obtain rfl := am_nx_inv h
  exact fun hn H locs ls a b d => lv_iconst hx hb hd rfl (k hn H locs ls a b d)
theorem sd_bipush (C : am_Cx p R s m args meth c Γ xs M cc E0) {pc : Nat} {L : am_L} {st : List Value} {es : am_H} {N : Nat × (am_L × (List Value × am_H))} {n : Int} (hd : decode cc pc = .ok (.bipush n, 2)) (h : am_nx (pc + 2) L (.int ((Int8.ofInt n).toInt32) :: st) es = some (.inl N)) (k : am_Wp p l e R s m args below meth c Q Γ M.2.2.1 E0 S0 N.1 N.2.1 N.2.2.1 N.2.2.2) : am_Wp p l e R s m args below meth c Q Γ M.2.2.1 E0 S0 pc L st es := by
  obtain ⟨hx, hb, hml, hown, hts, hKK, hb1, hb2, ho, hini, hfr, hlo⟩ := id C
  obtain rfl := am_nx_inv h
  exact fun hn H locs ls a b d => lv_bipush hx hb hd rfl (k hn H locs ls a b d)
theorem sd_sipush (C : am_Cx p R s m args meth c Γ xs M cc E0) {pc : Nat} {L : am_L} {st : List Value} {es : am_H} {N : Nat × (am_L × (List Value × am_H))} {n : Int} (hd : decode cc pc = .ok (.sipush n, 3)) (h : am_nx (pc + 3) L (.int ((Int16.ofInt n).toInt32) :: st) es = some (.inl N)) (k : am_Wp p l e R s m args below meth c Q Γ M.2.2.1 E0 S0 N.1 N.2.1 N.2.2.1 N.2.2.2) : am_Wp p l e R s m args below meth c Q Γ M.2.2.1 E0 S0 pc L st es := by
  obtain ⟨hx, hb, hml, hown, hts, hKK, hb1, hb2, ho, hini, hfr, hlo⟩ := id C
  obtain rfl := am_nx_inv h
  exact fun hn H locs ls a b d => lv_sipush hx hb hd rfl (k hn H locs ls a b d)
theorem sd_lconst (C : am_Cx p R s m args meth c Γ xs M cc E0) {pc : Nat} {L : am_L} {st : List Value} {es : am_H} {N : Nat × (am_L × (List Value × am_H))} {n : Fin 2} (hd : decode cc pc = .ok (.lconst n, 1)) (h : am_nx (pc + 1) L (.long (Int64.ofNat (n : Nat)) :: st) es = some (.inl N)) (k : am_Wp p l e R s m args below meth c Q Γ M.2.2.1 E0 S0 N.1 N.2.1 N.2.2.1 N.2.2.2) : am_Wp p l e R s m args below meth c Q Γ M.2.2.1 E0 S0 pc L st es := by
  obtain ⟨hx, hb, hml, hown, hts, hKK, hb1, hb2, ho, hini, hfr, hlo⟩ := id C
  obtain rfl := am_nx_inv h
  exact fun hn H locs ls a b d => lv_lconst hx hb hd rfl (k hn H locs ls a b d)
theorem sd_aconst_null (C : am_Cx p R s m args meth c Γ xs M cc E0) {pc : Nat} {L : am_L} {st : List Value} {es : am_H} {N : Nat × (am_L × (List Value × am_H))} (hd : decode cc pc = .ok (.aconst_null, 1)) (h : am_nx (pc + 1) L (.null :: st) es = some (.inl N)) (k : am_Wp p l e R s m args below meth c Q Γ M.2.2.1 E0 S0 N.1 N.2.1 N.2.2.1 N.2.2.2) : am_Wp p l e R s m args below meth c Q Γ M.2.2.1 E0 S0 pc L st es := by
  obtain ⟨hx, hb, hml, hown, hts, hKK, hb1, hb2, ho, hini, hfr, hlo⟩ := id C
  obtain rfl := am_nx_inv h
  exact fun hn H locs ls a b d => lv_null hx hb hd (k hn H locs ls a b d)
theorem sd_iload_n (C : am_Cx p R s m args meth c Γ xs M cc E0) {pc : Nat} {L : am_L} {st : List Value} {es : am_H} {N : Nat × (am_L × (List Value × am_H))} {n : Fin 4} (hd : decode cc pc = .ok (.iload_n n, 1)) (h : am_load st L n (pc + 1) es am_isI = some (.inl N)) (k : am_Wp p l e R s m args below meth c Q Γ M.2.2.1 E0 S0 N.1 N.2.1 N.2.2.1 N.2.2.2) : am_Wp p l e R s m args below meth c Q Γ M.2.2.1 E0 S0 pc L st es := by
  obtain ⟨hx, hb, hml, hown, hts, hKK, hb1, hb2, ho, hini, hfr, hlo⟩ := id C
  obtain ⟨v, h1, h2, rfl⟩ := am_load_inv h
  obtain ⟨x, rfl⟩ := am_isI_inv h2
  exact fun hn H locs ls a b d => lv_iload_n hx hb hd rfl (d.2.2 _ _ h1) (k hn H locs ls a b d)
theorem sd_iload (C : am_Cx p R s m args meth c Γ xs M cc E0) {pc : Nat} {L : am_L} {st : List Value} {es : am_H} {N : Nat × (am_L × (List Value × am_H))} {n : Nat} (hd : decode cc pc = .ok (.iload n, 2)) (h : am_load st L n (pc + 2) es am_isI = some (.inl N)) (k : am_Wp p l e R s m args below meth c Q Γ M.2.2.1 E0 S0 N.1 N.2.1 N.2.2.1 N.2.2.2) : am_Wp p l e R s m args below meth c Q Γ M.2.2.1 E0 S0 pc L st es := by
  obtain ⟨hx, hb, hml, hown, hts, hKK, hb1, hb2, ho, hini, hfr, hlo⟩ := id C
  obtain ⟨v, h1, h2, rfl⟩ := am_load_inv h
  obtain ⟨x, rfl⟩ := am_isI_inv h2
  exact fun hn H locs ls a b d => lv_iload hx hb hd (d.2.2 _ _ h1) (k hn H locs ls a b d)
theorem sd_lload_n (C : am_Cx p R s m args meth c Γ xs M cc E0) {pc : Nat} {L : am_L} {st : List Value} {es : am_H} {N : Nat × (am_L × (List Value × am_H))} {n : Fin 4} (hd : decode cc pc = .ok (.lload_n n, 1)) (h : am_load st L n (pc + 1) es am_isJ = some (.inl N)) (k : am_Wp p l e R s m args below meth c Q Γ M.2.2.1 E0 S0 N.1 N.2.1 N.2.2.1 N.2.2.2) : am_Wp p l e R s m args below meth c Q Γ M.2.2.1 E0 S0 pc L st es := by
  obtain ⟨hx, hb, hml, hown, hts, hKK, hb1, hb2, ho, hini, hfr, hlo⟩ := id C
  obtain ⟨v, h1, h2, rfl⟩ := am_load_inv h
  obtain ⟨x, rfl⟩ := am_isJ_inv h2
  exact fun hn H locs ls a b d => lv_lload_n hx hb hd rfl (d.2.2 _ _ h1) (k hn H locs ls a b d)
theorem sd_lload (C : am_Cx p R s m args meth c Γ xs M cc E0) {pc : Nat} {L : am_L} {st : List Value} {es : am_H} {N : Nat × (am_L × (List Value × am_H))} {n : Nat} (hd : decode cc pc = .ok (.lload n, 2)) (h : am_load st L n (pc + 2) es am_isJ = some (.inl N)) (k : am_Wp p l e R s m args below meth c Q Γ M.2.2.1 E0 S0 N.1 N.2.1 N.2.2.1 N.2.2.2) : am_Wp p l e R s m args below meth c Q Γ M.2.2.1 E0 S0 pc L st es := by
  obtain ⟨hx, hb, hml, hown, hts, hKK, hb1, hb2, ho, hini, hfr, hlo⟩ := id C
  obtain ⟨v, h1, h2, rfl⟩ := am_load_inv h
  obtain ⟨x, rfl⟩ := am_isJ_inv h2
  exact fun hn H locs ls a b d => lv_lload hx hb hd (d.2.2 _ _ h1) (k hn H locs ls a b d)
theorem sd_aload_n (C : am_Cx p R s m args meth c Γ xs M cc E0) {pc : Nat} {L : am_L} {st : List Value} {es : am_H} {N : Nat × (am_L × (List Value × am_H))} {n : Fin 4} (hd : decode cc pc = .ok (.aload_n n, 1)) (h : am_load st L n (pc + 1) es am_isA = some (.inl N)) (k : am_Wp p l e R s m args below meth c Q Γ M.2.2.1 E0 S0 N.1 N.2.1 N.2.2.1 N.2.2.2) : am_Wp p l e R s m args below meth c Q Γ M.2.2.1 E0 S0 pc L st es := by
  obtain ⟨hx, hb, hml, hown, hts, hKK, hb1, hb2, ho, hini, hfr, hlo⟩ := id C
  obtain ⟨v, h1, h2, rfl⟩ := am_load_inv h
  intro hn H locs ls a b d
  have hv := d.2.2 _ _ h1
  have kk : W p l e R s m args below meth c H locs (es.length - E0) (am_sz es - S0) Q (F0 m (pc + 1) ls (am_cV Γ v :: st.map (am_cV Γ))) := k hn H locs ls a b d
  rcases am_isA_cV (Γ := Γ) h2 with ⟨q, hq⟩ | hq
  · rw [hq] at hv kk
    exact lv_aload_n hx hb hd rfl hv kk
  · rw [hq] at hv kk
    exact lv_aload_nN hx hb hd rfl hv kk
theorem sd_aload (C : am_Cx p R s m args meth c Γ xs M cc E0) {pc : Nat} {L : am_L} {st : List Value} {es : am_H} {N : Nat × (am_L × (List Value × am_H))} {n : Nat} (hd : decode cc pc = .ok (.aload n, 2)) (h : am_load st L n (pc + 2) es am_isA = some (.inl N)) (k : am_Wp p l e R s m args below meth c Q Γ M.2.2.1 E0 S0 N.1 N.2.1 N.2.2.1 N.2.2.2) : am_Wp p l e R s m args below meth c Q Γ M.2.2.1 E0 S0 pc L st es := by
  obtain ⟨hx, hb, hml, hown, hts, hKK, hb1, hb2, ho, hini, hfr, hlo⟩ := id C
  obtain ⟨v, h1, h2, rfl⟩ := am_load_inv h
  intro hn H locs ls a b d
  have hv := d.2.2 _ _ h1
  have kk : W p l e R s m args below meth c H locs (es.length - E0) (am_sz es - S0) Q (F0 m (pc + 2) ls (am_cV Γ v :: st.map (am_cV Γ))) := k hn H locs ls a b d
  rcases am_isA_cV (Γ := Γ) h2 with ⟨q, hq⟩ | hq
  · rw [hq] at hv kk
    exact lv_aload hx hb hd hv kk
  · rw [hq] at hv kk
    exact lv_aloadN hx hb hd hv kk
theorem sd_istore_n (C : am_Cx p R s m args meth c Γ xs M cc E0) {pc : Nat} {L : am_L} {st : List Value} {es : am_H} {N : Nat × (am_L × (List Value × am_H))} {n : Fin 4} (hd : decode cc pc = .ok (.istore_n n, 1)) (h : am_store st L n (pc + 1) es 1 am_isI = some (.inl N)) (k : am_Wp p l e R s m args below meth c Q Γ M.2.2.1 E0 S0 N.1 N.2.1 N.2.2.1 N.2.2.2) : am_Wp p l e R s m args below meth c Q Γ M.2.2.1 E0 S0 pc L st es := by
  obtain ⟨hx, hb, hml, hown, hts, hKK, hb1, hb2, ho, hini, hfr, hlo⟩ := id C
  obtain ⟨v, r, rfl, h2, h3, rfl⟩ := am_store_inv h
  obtain ⟨x, rfl⟩ := am_isI_inv h2
  exact fun hn H locs ls a b d => lv_istore_n (nL := L.length) hx hb hd rfl d.has (by omega) rfl (fun ls' hl => k ((am_st_len L n (.int x)).trans hn) H locs ls' a b (am_AL.st1 (v := .int x) rfl hl))
theorem sd_istore (C : am_Cx p R s m args meth c Γ xs M cc E0) {pc : Nat} {L : am_L} {st : List Value} {es : am_H} {N : Nat × (am_L × (List Value × am_H))} {n : Nat} (hd : decode cc pc = .ok (.istore n, 2)) (h : am_store st L n (pc + 2) es 1 am_isI = some (.inl N)) (k : am_Wp p l e R s m args below meth c Q Γ M.2.2.1 E0 S0 N.1 N.2.1 N.2.2.1 N.2.2.2) : am_Wp p l e R s m args below meth c Q Γ M.2.2.1 E0 S0 pc L st es := by
  obtain ⟨hx, hb, hml, hown, hts, hKK, hb1, hb2, ho, hini, hfr, hlo⟩ := id C
  obtain ⟨v, r, rfl, h2, h3, rfl⟩ := am_store_inv h
  obtain ⟨x, rfl⟩ := am_isI_inv h2
  exact fun hn H locs ls a b d => lv_istore (nL := L.length) hx hb hd  d.has (by omega) rfl (fun ls' hl => k ((am_st_len L n (.int x)).trans hn) H locs ls' a b (am_AL.st1 (v := .int x) rfl hl))
theorem sd_lstore_n (C : am_Cx p R s m args meth c Γ xs M cc E0) {pc : Nat} {L : am_L} {st : List Value} {es : am_H} {N : Nat × (am_L × (List Value × am_H))} {n : Fin 4} (hd : decode cc pc = .ok (.lstore_n n, 1)) (h : am_store st L n (pc + 1) es 2 am_isJ = some (.inl N)) (k : am_Wp p l e R s m args below meth c Q Γ M.2.2.1 E0 S0 N.1 N.2.1 N.2.2.1 N.2.2.2) : am_Wp p l e R s m args below meth c Q Γ M.2.2.1 E0 S0 pc L st es := by
  obtain ⟨hx, hb, hml, hown, hts, hKK, hb1, hb2, ho, hini, hfr, hlo⟩ := id C
  obtain ⟨v, r, rfl, h2, h3, rfl⟩ := am_store_inv h
  obtain ⟨x, rfl⟩ := am_isJ_inv h2
  exact fun hn H locs ls a b d => lv_lstore_n (nL := L.length) hx hb hd rfl d.has (by omega) rfl (fun ls' hl => k ((am_st_len L n (.long x)).trans hn) H locs ls' a b (am_AL.st2 (v := .long x) rfl hl))
theorem sd_lstore (C : am_Cx p R s m args meth c Γ xs M cc E0) {pc : Nat} {L : am_L} {st : List Value} {es : am_H} {N : Nat × (am_L × (List Value × am_H))} {n : Nat} (hd : decode cc pc = .ok (.lstore n, 2)) (h : am_store st L n (pc + 2) es 2 am_isJ = some (.inl N)) (k : am_Wp p l e R s m args below meth c Q Γ M.2.2.1 E0 S0 N.1 N.2.1 N.2.2.1 N.2.2.2) : am_Wp p l e R s m args below meth c Q Γ M.2.2.1 E0 S0 pc L st es := by
  obtain ⟨hx, hb, hml, hown, hts, hKK, hb1, hb2, ho, hini, hfr, hlo⟩ := id C
  obtain ⟨v, r, rfl, h2, h3, rfl⟩ := am_store_inv h
  obtain ⟨x, rfl⟩ := am_isJ_inv h2
  exact fun hn H locs ls a b d => lv_lstore (nL := L.length) hx hb hd  d.has (by omega) rfl (fun ls' hl => k ((am_st_len L n (.long x)).trans hn) H locs ls' a b (am_AL.st2 (v := .long x) rfl hl))
theorem sd_astore_n (C : am_Cx p R s m args meth c Γ xs M cc E0) {pc : Nat} {L : am_L} {st : List Value} {es : am_H} {N : Nat × (am_L × (List Value × am_H))} {n : Fin 4} (hd : decode cc pc = .ok (.astore_n n, 1)) (h : am_store st L n (pc + 1) es 1 am_isA = some (.inl N)) (k : am_Wp p l e R s m args below meth c Q Γ M.2.2.1 E0 S0 N.1 N.2.1 N.2.2.1 N.2.2.2) : am_Wp p l e R s m args below meth c Q Γ M.2.2.1 E0 S0 pc L st es := by
  obtain ⟨hx, hb, hml, hown, hts, hKK, hb1, hb2, ho, hini, hfr, hlo⟩ := id C
  obtain ⟨v, r, rfl, h2, h3, rfl⟩ := am_store_inv h
  have hc : v.category = 1 := by rcases am_isA_inv h2 with rfl | ⟨x, rfl⟩ <;> rfl
  intro hn H locs ls a b d
  have kk := fun ls' hl => k ((am_st_len L n v).trans hn) H locs ls' a b (am_AL.st1 hc hl)
  show W p l e R s m args below meth c H locs (es.length - E0) (am_sz es - S0) Q (F0 m pc ls (am_cV Γ v :: r.map (am_cV Γ)))
  rcases am_isA_cV (Γ := Γ) h2 with ⟨q, hq⟩ | hq
  · rw [hq] at kk ⊢
    exact lv_astore_n (nL := L.length) hx hb hd rfl d.has (by omega) rfl kk
  · rw [hq] at kk ⊢
    exact lv_astore_nN (nL := L.length) hx hb hd rfl d.has (by omega) rfl kk
theorem sd_astore (C : am_Cx p R s m args meth c Γ xs M cc E0) {pc : Nat} {L : am_L} {st : List Value} {es : am_H} {N : Nat × (am_L × (List Value × am_H))} {n : Nat} (hd : decode cc pc = .ok (.astore n, 2)) (h : am_store st L n (pc + 2) es 1 am_isA = some (.inl N)) (k : am_Wp p l e R s m args below meth c Q Γ M.2.2.1 E0 S0 N.1 N.2.1 N.2.2.1 N.2.2.2) : am_Wp p l e R s m args below meth c Q Γ M.2.2.1 E0 S0 pc L st es := by
  obtain ⟨hx, hb, hml, hown, hts, hKK, hb1, hb2, ho, hini, hfr, hlo⟩ := id C
  obtain ⟨v, r, rfl, h2, h3, rfl⟩ := am_store_inv h
  have hc : v.category = 1 := by rcases am_isA_inv h2 with rfl | ⟨x, rfl⟩ <;> rfl
  intro hn H locs ls a b d
  have kk := fun ls' hl => k ((am_st_len L n v).trans hn) H locs ls' a b (am_AL.st1 hc hl)
  show W p l e R s m args below meth c H locs (es.length - E0) (am_sz es - S0) Q (F0 m pc ls (am_cV Γ v :: r.map (am_cV Γ)))
  rcases am_isA_cV (Γ := Γ) h2 with ⟨q, hq⟩ | hq
  · rw [hq] at kk ⊢
    exact lv_astore (nL := L.length) hx hb hd  d.has (by omega) rfl kk
  · rw [hq] at kk ⊢
    exact lv_astoreN (nL := L.length) hx hb hd  d.has (by omega) rfl kk
theorem sd_iinc (C : am_Cx p R s m args meth c Γ xs M cc E0) {pc : Nat} {L : am_L} {st : List Value} {es : am_H} {N : Nat × (am_L × (List Value × am_H))} {i : Nat} {n : Int} (hd : decode cc pc = .ok (.iinc i n, 3)) (h : am_iinc i n st (pc + 3) L es = some (.inl N)) (k : am_Wp p l e R s m args below meth c Q Γ M.2.2.1 E0 S0 N.1 N.2.1 N.2.2.1 N.2.2.2) : am_Wp p l e R s m args below meth c Q Γ M.2.2.1 E0 S0 pc L st es := by
  obtain ⟨hx, hb, hml, hown, hts, hKK, hb1, hb2, ho, hini, hfr, hlo⟩ := id C
  unfold am_iinc am_ld at h
  split at h
  · rename_i x hx1
    split at hx1
    · rename_i w hw
      cases hx1
      obtain rfl := am_nx_inv h
      intro hn H locs ls a b d
      have hm : (i, Value.int x) ∈ am_enc Γ L := am_enc_mem.mpr ⟨.int x, hw, rfl⟩
      obtain ⟨k0, hk0⟩ := List.getElem?_of_mem hm
      exact lv_iinc (nL := L.length) hx hb hd d.has hk0 rfl (List.getElem?_eq_some_iff.mp hw).1 rfl (fun ls' hl => k ((am_st_len L i (.int (x + Int32.ofInt n))).trans hn) H locs ls' a b (am_AL.st1 (v := .int (x + Int32.ofInt n)) rfl hl))
    · cases hx1
  · cases h
theorem sd_dup (C : am_Cx p R s m args meth c Γ xs M cc E0) {pc : Nat} {L : am_L} {st : List Value} {es : am_H} {N : Nat × (am_L × (List Value × am_H))} (hd : decode cc pc = .ok (.dup, 1)) (h : am_dup st (pc + 1) L es = some (.inl N)) (k : am_Wp p l e R s m args below meth c Q Γ M.2.2.1 E0 S0 N.1 N.2.1 N.2.2.1 N.2.2.2) : am_Wp p l e R s m args below meth c Q Γ M.2.2.1 E0 S0 pc L st es := by
  obtain ⟨hx, hb, hml, hown, hts, hKK, hb1, hb2, ho, hini, hfr, hlo⟩ := id C
  unfold am_dup at h
  split at h
  · rename_i v r
    split at h
    · rename_i hc
      obtain rfl := am_nx_inv h
      exact fun hn H locs ls a b d => lv_dup hx hb hd (by rw [am_cV_cat]; exact hc) (k hn H locs ls a b d)
    · cases h
  · cases h
theorem sd_pop (C : am_Cx p R s m args meth c Γ xs M cc E0) {pc : Nat} {L : am_L} {st : List Value} {es : am_H} {N : Nat × (am_L × (List Value × am_H))} (hd : decode cc pc = .ok (.pop, 1)) (h : am_pop st (pc + 1) L es = some (.inl N)) (k : am_Wp p l e R s m args below meth c Q Γ M.2.2.1 E0 S0 N.1 N.2.1 N.2.2.1 N.2.2.2) : am_Wp p l e R s m args below meth c Q Γ M.2.2.1 E0 S0 pc L st es := by
  obtain ⟨hx, hb, hml, hown, hts, hKK, hb1, hb2, ho, hini, hfr, hlo⟩ := id C
  unfold am_pop at h
  split at h
  · rename_i v r
    split at h
    · rename_i hc
      obtain rfl := am_nx_inv h
      exact fun hn H locs ls a b d => lv_pop hx hb hd (by rw [am_cV_cat]; exact hc) (k hn H locs ls a b d)
    · cases h
  · cases h
theorem sd_dup_x1 (C : am_Cx p R s m args meth c Γ xs M cc E0) {pc : Nat} {L : am_L} {st : List Value} {es : am_H} {N : Nat × (am_L × (List Value × am_H))} (hd : decode cc pc = .ok (.dup_x1, 1)) (h : am_dupx st (pc + 1) L es = some (.inl N)) (k : am_Wp p l e R s m args below meth c Q Γ M.2.2.1 E0 S0 N.1 N.2.1 N.2.2.1 N.2.2.2) : am_Wp p l e R s m args below meth c Q Γ M.2.2.1 E0 S0 pc L st es := by
  obtain ⟨hx, hb, hml, hown, hts, hKK, hb1, hb2, ho, hini, hfr, hlo⟩ := id C
  unfold am_dupx at h
  split at h
  · rename_i v u r
    split at h
    · rename_i hc
      obtain rfl := am_nx_inv h
      exact fun hn H locs ls a b d => lv_dup_x1 hx hb hd (by rw [am_cV_cat]; exact hc.1) (by rw [am_cV_cat]; exact hc.2) (k hn H locs ls a b d)
    · cases h
  · cases h
theorem sd_dup2 (C : am_Cx p R s m args meth c Γ xs M cc E0) {pc : Nat} {L : am_L} {st : List Value} {es : am_H} {N : Nat × (am_L × (List Value × am_H))} (hd : decode cc pc = .ok (.dup2, 1)) (h : am_dup2 st (pc + 1) L es = some (.inl N)) (k : am_Wp p l e R s m args below meth c Q Γ M.2.2.1 E0 S0 N.1 N.2.1 N.2.2.1 N.2.2.2) : am_Wp p l e R s m args below meth c Q Γ M.2.2.1 E0 S0 pc L st es := by
  obtain ⟨hx, hb, hml, hown, hts, hKK, hb1, hb2, ho, hini, hfr, hlo⟩ := id C
  unfold am_dup2 at h
  split at h
  · rename_i v r
    split at h
    · rename_i hc
      obtain rfl := am_nx_inv h
      exact fun hn H locs ls a b d => lv_dup2_2 hx hb hd (by rw [am_cV_cat]; exact hc) (k hn H locs ls a b d)
    · split at h
      · rename_i u r'
        split at h
        · rename_i hc
          obtain rfl := am_nx_inv h
          exact fun hn H locs ls a b d => lv_dup2_11 hx hb hd (by rw [am_cV_cat]; exact hc.2) (by rw [am_cV_cat]; exact hc.1) (k hn H locs ls a b d)
        · cases h
      · cases h
  · cases h
theorem sd_goto (C : am_Cx p R s m args meth c Γ xs M cc E0) {pc : Nat} {L : am_L} {st : List Value} {es : am_H} {N : Nat × (am_L × (List Value × am_H))} {off : Int} (hd : decode cc pc = .ok (.goto off, 3)) (h : am_go pc off L st es = some (.inl N)) (k : am_Wp p l e R s m args below meth c Q Γ M.2.2.1 E0 S0 N.1 N.2.1 N.2.2.1 N.2.2.2) : am_Wp p l e R s m args below meth c Q Γ M.2.2.1 E0 S0 pc L st es := by
  obtain ⟨hx, hb, hml, hown, hts, hKK, hb1, hb2, ho, hini, hfr, hlo⟩ := id C
  obtain ⟨t, ht, rfl⟩ := am_jmp_inv h
  exact fun hn H locs ls a b d => lv_goto hx hb hd ht (k hn H locs ls a b d)
theorem sd_if1 (C : am_Cx p R s m args meth c Γ xs M cc E0) {pc : Nat} {L : am_L} {st : List Value} {es : am_H} {N : Nat × (am_L × (List Value × am_H))} {cd : ClassFile.Cond} {off : Int} (hd : decode cc pc = .ok (.ifCond cd off, 3)) (h : am_if1 cd off st pc L es = some (.inl N)) (k : am_Wp p l e R s m args below meth c Q Γ M.2.2.1 E0 S0 N.1 N.2.1 N.2.2.1 N.2.2.2) : am_Wp p l e R s m args below meth c Q Γ M.2.2.1 E0 S0 pc L st es := by
  obtain ⟨hx, hb, hml, hown, hts, hKK, hb1, hb2, ho, hini, hfr, hlo⟩ := id C
  unfold am_if1 at h
  split at h
  · rename_i x r
    obtain ⟨t, ht, hN⟩ := am_cond_inv h
    rcases hN with ⟨hc, rfl⟩ | ⟨hc, rfl⟩
    · cases cd <;> simp only [am_cmp, decide_eq_true_eq] at hc
      · exact fun hn H locs ls a b d => lv_if_eq hx hb hd ht (fun _ => k hn H locs ls a b d) (fun q => absurd hc q)
      · exact fun hn H locs ls a b d => lv_if_ne hx hb hd ht (fun _ => k hn H locs ls a b d) (fun q => absurd q hc)
      · exact fun hn H locs ls a b d => lv_if_lt hx hb hd ht (fun _ => k hn H locs ls a b d) (fun q => absurd hc q)
      · exact fun hn H locs ls a b d => lv_if_ge hx hb hd ht (fun _ => k hn H locs ls a b d) (fun q => absurd hc q)
      · exact fun hn H locs ls a b d => lv_if_gt hx hb hd ht (fun _ => k hn H locs ls a b d) (fun q => absurd hc q)
      · exact fun hn H locs ls a b d => lv_if_le hx hb hd ht (fun _ => k hn H locs ls a b d) (fun q => absurd hc q)
    · cases cd <;> simp only [am_cmp, decide_eq_false_iff_not] at hc
      · exact fun hn H locs ls a b d => lv_if_eq hx hb hd ht (fun q => absurd q hc) (fun _ => k hn H locs ls a b d)
      · exact fun hn H locs ls a b d => lv_if_ne hx hb hd ht (fun q => absurd q hc) (fun _ => k hn H locs ls a b d)
      · exact fun hn H locs ls a b d => lv_if_lt hx hb hd ht (fun q => absurd q hc) (fun _ => k hn H locs ls a b d)
      · exact fun hn H locs ls a b d => lv_if_ge hx hb hd ht (fun q => absurd q hc) (fun _ => k hn H locs ls a b d)
      · exact fun hn H locs ls a b d => lv_if_gt hx hb hd ht (fun q => absurd q hc) (fun _ => k hn H locs ls a b d)
      · exact fun hn H locs ls a b d => lv_if_le hx hb hd ht (fun q => absurd q hc) (fun _ => k hn H locs ls a b d)
  · cases h
theorem sd_if2 (C : am_Cx p R s m args meth c Γ xs M cc E0) {pc : Nat} {L : am_L} {st : List Value} {es : am_H} {N : Nat × (am_L × (List Value × am_H))} {cd : ClassFile.Cond} {off : Int} (hd : decode cc pc = .ok (.if_icmp cd off, 3)) (h : am_if2 cd off st pc L es = some (.inl N)) (k : am_Wp p l e R s m args below meth c Q Γ M.2.2.1 E0 S0 N.1 N.2.1 N.2.2.1 N.2.2.2) : am_Wp p l e R s m args below meth c Q Γ M.2.2.1 E0 S0 pc L st es := by
  obtain ⟨hx, hb, hml, hown, hts, hKK, hb1, hb2, ho, hini, hfr, hlo⟩ := id C
  unfold am_if2 at h
  split at h
  · rename_i y x r
    obtain ⟨t, ht, hN⟩ := am_cond_inv h
    rcases hN with ⟨hc, rfl⟩ | ⟨hc, rfl⟩
    · cases cd <;> simp only [am_cmp, decide_eq_true_eq] at hc
      · exact fun hn H locs ls a b d => lv_icmp_eq hx hb hd ht (fun _ => k hn H locs ls a b d) (fun q => absurd hc q)
      · exact fun hn H locs ls a b d => lv_icmp_ne hx hb hd ht (fun _ => k hn H locs ls a b d) (fun q => absurd q hc)
      · exact fun hn H locs ls a b d => lv_icmp_lt hx hb hd ht (fun _ => k hn H locs ls a b d) (fun q => absurd hc q)
      · exact fun hn H locs ls a b d => lv_icmp_ge hx hb hd ht (fun _ => k hn H locs ls a b d) (fun q => absurd hc q)
      · exact fun hn H locs ls a b d => lv_icmp_gt hx hb hd ht (fun _ => k hn H locs ls a b d) (fun q => absurd hc q)
      · exact fun hn H locs ls a b d => lv_icmp_le hx hb hd ht (fun _ => k hn H locs ls a b d) (fun q => absurd hc q)
    · cases cd <;> simp only [am_cmp, decide_eq_false_iff_not] at hc
      · exact fun hn H locs ls a b d => lv_icmp_eq hx hb hd ht (fun q => absurd q hc) (fun _ => k hn H locs ls a b d)
      · exact fun hn H locs ls a b d => lv_icmp_ne hx hb hd ht (fun q => absurd q hc) (fun _ => k hn H locs ls a b d)
      · exact fun hn H locs ls a b d => lv_icmp_lt hx hb hd ht (fun q => absurd q hc) (fun _ => k hn H locs ls a b d)
      · exact fun hn H locs ls a b d => lv_icmp_ge hx hb hd ht (fun q => absurd q hc) (fun _ => k hn H locs ls a b d)
      · exact fun hn H locs ls a b d => lv_icmp_gt hx hb hd ht (fun q => absurd q hc) (fun _ => k hn H locs ls a b d)
      · exact fun hn H locs ls a b d => lv_icmp_le hx hb hd ht (fun q => absurd q hc) (fun _ => k hn H locs ls a b d)
  · cases h
theorem sd_ifnull (C : am_Cx p R s m args meth c Γ xs M cc E0) {pc : Nat} {L : am_L} {st : List Value} {es : am_H} {N : Nat × (am_L × (List Value × am_H))} {off : Int} (hd : decode cc pc = .ok (.ifnull off, 3)) (h : am_nul st true pc off L es = some (.inl N)) (k : am_Wp p l e R s m args below meth c Q Γ M.2.2.1 E0 S0 N.1 N.2.1 N.2.2.1 N.2.2.2) : am_Wp p l e R s m args below meth c Q Γ M.2.2.1 E0 S0 pc L st es := by
  obtain ⟨hx, hb, hml, hown, hts, hKK, hb1, hb2, ho, hini, hfr, hlo⟩ := id C
  unfold am_nul at h
  split at h
  · rename_i r
    simp only [if_true, if_false, Bool.false_eq_true] at h
    obtain ⟨t, ht, rfl⟩ := am_jmp_inv h
    exact fun hn H locs ls a b d => lv_ifnullN hx hb hd ht (k hn H locs ls a b d)
  · rename_i x r
    by_cases hlt : 1000005 ≤ x
    · rw [if_pos hlt] at h; cases h
    · rw [if_neg hlt] at h
      simp only [if_true, if_false, Bool.false_eq_true] at h
      obtain rfl := am_nx_inv h
      intro hn H locs ls a b d
      have kk := k hn H locs ls a b d
      show W p l e R s m args below meth c H locs (es.length - E0) (am_sz es - S0) Q (F0 m pc ls (am_cV Γ (.ref x) :: r.map (am_cV Γ)))
      obtain ⟨q, hq⟩ : ∃ q, am_cV Γ (.ref x) = .ref q := by
        by_cases hx1 : x < 1000000
        · exact ⟨_, am_cV_lo hx1⟩
        · rw [am_cV_hi hx1]
          unfold am_rov
          have h10 : x - 1000000 < 5 := by have h11 : x < 1000005 := Nat.not_le.mp hlt; exact Nat.sub_lt_left_of_lt_add (Nat.not_lt.mp hx1) h11
          rw [if_pos h10]
          exact ⟨_, rfl⟩
      rw [hq]
      exact lv_ifnull hx hb hd kk
  · cases h
theorem sd_ifnonnull (C : am_Cx p R s m args meth c Γ xs M cc E0) {pc : Nat} {L : am_L} {st : List Value} {es : am_H} {N : Nat × (am_L × (List Value × am_H))} {off : Int} (hd : decode cc pc = .ok (.ifnonnull off, 3)) (h : am_nul st false pc off L es = some (.inl N)) (k : am_Wp p l e R s m args below meth c Q Γ M.2.2.1 E0 S0 N.1 N.2.1 N.2.2.1 N.2.2.2) : am_Wp p l e R s m args below meth c Q Γ M.2.2.1 E0 S0 pc L st es := by
  obtain ⟨hx, hb, hml, hown, hts, hKK, hb1, hb2, ho, hini, hfr, hlo⟩ := id C
  unfold am_nul at h
  split at h
  · rename_i r
    simp only [if_true, if_false, Bool.false_eq_true] at h
    obtain rfl := am_nx_inv h
    exact fun hn H locs ls a b d => lv_ifnonnullN hx hb hd (k hn H locs ls a b d)
  · rename_i x r
    by_cases hlt : 1000005 ≤ x
    · rw [if_pos hlt] at h; cases h
    · rw [if_neg hlt] at h
      simp only [if_true, if_false, Bool.false_eq_true] at h
      obtain ⟨t, ht, rfl⟩ := am_jmp_inv h
      intro hn H locs ls a b d
      have kk := k hn H locs ls a b d
      show W p l e R s m args below meth c H locs (es.length - E0) (am_sz es - S0) Q (F0 m pc ls (am_cV Γ (.ref x) :: r.map (am_cV Γ)))
      obtain ⟨q, hq⟩ : ∃ q, am_cV Γ (.ref x) = .ref q := by
        by_cases hx1 : x < 1000000
        · exact ⟨_, am_cV_lo hx1⟩
        · rw [am_cV_hi hx1]
          unfold am_rov
          have h10 : x - 1000000 < 5 := by have h11 : x < 1000005 := Nat.not_le.mp hlt; exact Nat.sub_lt_left_of_lt_add (Nat.not_lt.mp hx1) h11
          rw [if_pos h10]
          exact ⟨_, rfl⟩
      rw [hq]
      exact lv_ifnonnull hx hb hd ht kk
  · cases h
theorem sd_tableswitch (C : am_Cx p R s m args meth c Γ xs M cc E0) {pc : Nat} {L : am_L} {st : List Value} {es : am_H} {N : Nat × (am_L × (List Value × am_H))} {dd lo hi : Int} {offs : Array Int} {len : Nat} (hd : decode cc pc = .ok (.tableswitch dd lo hi offs, len)) (h : am_tsw dd lo hi offs pc st L es = some (.inl N)) (k : am_Wp p l e R s m args below meth c Q Γ M.2.2.1 E0 S0 N.1 N.2.1 N.2.2.1 N.2.2.2) : am_Wp p l e R s m args below meth c Q Γ M.2.2.1 E0 S0 pc L st es := by
  obtain ⟨hx, hb, hml, hown, hts, hKK, hb1, hb2, ho, hini, hfr, hlo⟩ := id C
  unfold am_tsw at h
  split at h
  · rename_i x r
    split at h
    · rename_i hc
      obtain ⟨t, ht, rfl⟩ := am_jmp_inv h
      exact fun hn H locs ls a b d => lv_tableOut hx hb hd hc ht (k hn H locs ls a b d)
    · rename_i hc
      split at h
      · rename_i off hoff
        obtain ⟨t, ht, rfl⟩ := am_jmp_inv h
        exact fun hn H locs ls a b d => lv_tableIn hx hb hd (fun q => hc (Or.inl q)) (fun q => hc (Or.inr q)) hoff ht (k hn H locs ls a b d)
      · cases h
  · cases h
theorem sd_lookupswitch (C : am_Cx p R s m args meth c Γ xs M cc E0) {pc : Nat} {L : am_L} {st : List Value} {es : am_H} {N : Nat × (am_L × (List Value × am_H))} {dd : Int} {ps : Array (Int × Int)} {len : Nat} (hd : decode cc pc = .ok (.lookupswitch dd ps, len)) (h : am_lsw dd ps pc st L es = some (.inl N)) (k : am_Wp p l e R s m args below meth c Q Γ M.2.2.1 E0 S0 N.1 N.2.1 N.2.2.1 N.2.2.2) : am_Wp p l e R s m args below meth c Q Γ M.2.2.1 E0 S0 pc L st es := by
  obtain ⟨hx, hb, hml, hown, hts, hKK, hb1, hb2, ho, hini, hfr, hlo⟩ := id C
  unfold am_lsw at h
  split at h
  · rename_i x r
    split at h
    · rename_i hc
      obtain ⟨t, ht, rfl⟩ := am_jmp_inv h
      exact fun hn H locs ls a b d => lv_lookup hx hb hd hc rfl ht (k hn H locs ls a b d)
    · cases h
  · cases h
theorem sd_getfield (C : am_Cx p R s m args meth c Γ xs M cc E0) {pc : Nat} {L : am_L} {st : List Value} {es : am_H} {N : Nat × (am_L × (List Value × am_H))} {idx : Nat} (hd : decode cc pc = .ok (.getfield idx, 3)) (h : am_getf M.1 idx st (pc + 3) L es = some (.inl N)) (k : am_Wp p l e R s m args below meth c Q Γ M.2.2.1 E0 S0 N.1 N.2.1 N.2.2.1 N.2.2.2) : am_Wp p l e R s m args below meth c Q Γ M.2.2.1 E0 S0 pc L st es := by
  obtain ⟨hx, hb, hml, hown, hts, hKK, hb1, hb2, ho, hini, hfr, hlo⟩ := id C
  unfold am_getf at h
  split at h
  · rename_i x r
    split at h
    · rename_i ha
      split at h
      · rename_i ci k0 cj fs h1 h2
        split at h
        · rename_i hc
          subst hc
          split at h
          · rename_i v hv
            obtain rfl := am_nx_inv h
            obtain ⟨hci, hk, hlk, hdc⟩ := am_fld_ok M.1 _ (am_lk h1)
            intro hn H locs ls a b d
            have kk : W p l e R s m args below meth c H locs (es.length - E0) (am_sz es - S0) Q (F0 m (pc + 3) ls (am_cV Γ v :: r.map (am_cV Γ))) := k hn H locs ls a b d
            show W p l e R s m args below meth c H locs (es.length - E0) (am_sz es - S0) Q (F0 m pc ls (am_cV Γ (.ref x) :: r.map (am_cV Γ)))
            rw [am_cV_lo ha]
            exact va_get (C := am_cn ci) (T := am_T ci) (N := am_nf ci) (ci := ci) (ref := am_cn ci) (fs := fs.map (am_cV Γ)) hx hb hts (am_wsB hci) hown hKK.1 a.2.1 x (am_cW_at h2) (am_cls_ok ci hci) k0 hk (hts _ (am_gB hlk rfl)) (by dsimp only at hdc; rw [hdc]; exact fun _ q => q) (by rw [List.getElem?_map, hv]; rfl) hd kk
          · cases h
        · cases h
      · cases h
    · rename_i ha
      split at h
      · rename_i ha2
        have h10 : x - 1000000 < 5 := Nat.sub_lt_left_of_lt_add (Nat.not_lt.mp ha) ha2
        have hk0 : am_cV Γ (.ref x) = .ref (Γ.2.2.2.1 (x - 1000000)) := by rw [am_cV_hi ha]; unfold am_rov; rw [if_pos h10]
        have h6 := vk_S.kept hKK.2.2.2.2.2.1 (H1 := s.heap) (fun q hq _ => hb2 q hq)
        split at h
        · rename_i hs
          obtain rfl := am_nx_inv h
          rcases am_sfl_ok M.1 _ (am_lk hs) with ⟨-, hlk⟩ | ⟨h0, -⟩
          · intro hn H locs ls a b d
            have kk : W p l e R s m args below meth c H locs (es.length - E0) (am_sz es - S0) Q (F0 m (pc + 3) ls (am_cV Γ (.ref (x + 100)) :: r.map (am_cV Γ))) := k hn H locs ls a b d
            show W p l e R s m args below meth c H locs (es.length - E0) (am_sz es - S0) Q (F0 m pc ls (am_cV Γ (.ref x) :: r.map (am_cV Γ)))
            have hk1 : am_cV Γ (.ref (x + 100)) = .ref (Γ.2.2.2.2.1 (x - 1000000)) := by
              have e1 : ¬ x + 100 < 1000000 := fun q => ha (Nat.lt_of_le_of_lt (Nat.le_add_right _ _) q)
              have e2 : x + 100 - 1000000 = x - 1000000 + 100 := Nat.sub_add_comm (Nat.not_lt.mp ha)
              rw [am_cV_hi e1, e2]
              unfold am_rov
              rw [if_neg (by omega), if_pos (Nat.add_lt_add_right h10 100), Nat.add_sub_cancel]
            rw [hk0]
            rw [hk1] at kk
            exact vk_getf hx hb (h6.1 _ h10).2.2.1 b hown (hts _ (am_gB hlk rfl)) (fun _ q => q) hd kk
          · cases h0
        · rename_i hs
          obtain rfl := am_nx_inv h
          rcases am_sfl_ok M.1 _ (am_lk hs) with ⟨h0, -⟩ | ⟨-, hlk⟩
          · cases h0
          · intro hn H locs ls a b d
            have kk : W p l e R s m args below meth c H locs (es.length - E0) (am_sz es - S0) Q (F0 m (pc + 3) ls (.int 0 :: r.map (am_cV Γ))) := k hn H locs ls a b d
            show W p l e R s m args below meth c H locs (es.length - E0) (am_sz es - S0) Q (F0 m pc ls (am_cV Γ (.ref x) :: r.map (am_cV Γ)))
            rw [hk0]
            exact vk_getf hx hb (h6.1 _ h10).2.1 b hown (hts _ (am_gB hlk rfl)) (fun _ q => q) hd kk
        · cases h
      · cases h
  · cases h
theorem am_cV_nar {ty : FieldType} {v : Value} (h : narrow ty v = v) (hf : fits ty v = true) : narrow ty (am_cV Γ v) = am_cV Γ v ∧ fits ty (am_cV Γ v) = true := by
  cases v with
  | ref i =>
    have hk : (∃ t, ty = .object t) ∨ ∃ t, ty = .array t := by
      cases ty <;> first | exact Or.inl ⟨_, rfl⟩ | exact Or.inr ⟨_, rfl⟩ | (exact absurd hf (by simp [fits]))
    rcases am_cV_ref Γ i with ⟨q, hq⟩ | hq <;> rw [hq] <;> rcases hk with ⟨t, rfl⟩ | ⟨t, rfl⟩ <;> exact ⟨rfl, rfl⟩
  | _ => exact ⟨h, hf⟩
theorem sd_putfield (C : am_Cx p R s m args meth c Γ xs M cc E0) {pc : Nat} {L : am_L} {st : List Value} {es : am_H} {N : Nat × (am_L × (List Value × am_H))} {idx : Nat} (hd : decode cc pc = .ok (.putfield idx, 3)) (h : am_putf M.1 idx M.2.2.2.1 st (pc + 3) L es = some (.inl N)) (k : am_Wp p l e R s m args below meth c Q Γ M.2.2.1 E0 S0 N.1 N.2.1 N.2.2.1 N.2.2.2) : am_Wp p l e R s m args below meth c Q Γ M.2.2.1 E0 S0 pc L st es := by
  obtain ⟨hx, hb, hml, hown, hts, hKK, hb1, hb2, ho, hini, hfr, hlo⟩ := id C
  unfold am_putf at h
  split at h
  · rename_i v x r
    split at h
    · rename_i ci k0 cj fs h1 h2
      split at h
      · rename_i hc
        obtain ⟨hc, ha, hkl, hnr, hft, hfin⟩ := hc
        subst hc
        obtain rfl := am_nx_inv h
        obtain ⟨hci, hk, hlk, hdc⟩ := am_fld_ok M.1 _ (am_lk h1)
        obtain ⟨hn2, hf2⟩ := am_cV_nar (Γ := Γ) hnr hft
        intro hn H locs ls a b d
        show W p l e R s m args below meth c H locs (es.length - E0) (am_sz es - S0) Q (F0 m pc ls (am_cV Γ v :: am_cV Γ (.ref x) :: r.map (am_cV Γ)))
        rw [am_cV_lo ha]
        have hA := am_cW_D Γ es
        have kk : ∀ (H1 : Heap) (locs1 : List Loc), va_P Γ.1 am_cl ((am_cW Γ es).set x (am_base Γ + x, .inr (ci, (fs.map (am_cV Γ)).set k0 (am_cV Γ v)))) H1 → va_D (fun q : Nat => am_base Γ ≤ q) ((am_cW Γ es).set x (am_base Γ + x, .inr (ci, (fs.map (am_cV Γ)).set k0 (am_cV Γ v)))) → va_S (fun q : Nat => am_base Γ ≤ q) s.heap H1 locs1 → W p l e R s m args below meth c H1 locs1 (es.length - E0) (am_sz es - S0) Q (F0 m (pc + 3) ls (r.map (am_cV Γ))) := by
          intro H1 locs1 hP1 _ hS1
          rw [← List.map_set] at hP1
          have hW1 : am_Wd Γ (es.set x (.inr (ci, fs.set k0 v))) s H1 := am_Wd.put a h2 hP1 hS1 hb1 hb2 (fun ty a' q => by cases q)
          have := k hn H1 locs1 ls hW1 hS1 d
          rwa [List.length_set, am_sz_set h2 (by simp [am_esz])] at this
        cases hfn : (am_T ci k0).2.2.2 with
        | false => exact va_put (C := am_cn ci) (T := am_T ci) (N := am_nf ci) (ci := ci) (ref := am_cn ci) (fs := fs.map (am_cV Γ)) hx hb hts (am_wsB hci) (am_y ci) (am_tyk_ok ci hci) (am_nm_ok ci hci) hown hKK.1 a.2.1 hA b x (am_cW_at h2) (am_cls_ok ci hci) k0 hk (hts _ (am_gB hlk rfl)) (by dsimp only at hdc; rw [hdc]; exact fun _ q => q) hfn (am_tyk_ok ci hci k0 hk) hn2 hf2 (by rw [List.length_map]; exact hkl) hd kk
        | true =>
          obtain ⟨hi1, hi2⟩ := hfin hfn
          exact va_putF (C := am_cn ci) (T := am_T ci) (N := am_nf ci) (ci := ci) (ref := am_cn ci) (fs := fs.map (am_cV Γ)) hx hb hts (am_wsB hci) (am_y ci) (am_tyk_ok ci hci) (am_nm_ok ci hci) hown hKK.1 a.2.1 hA b x (am_cW_at h2) (am_cls_ok ci hci) k0 hk (hts _ (am_gB hlk rfl)) (by dsimp only at hdc; rw [hdc]; exact fun _ q => q) hfn (hini hi1) (hdc.trans hi2) (am_tyk_ok ci hci k0 hk) hn2 hf2 (by rw [List.length_map]; exact hkl) hd kk
      · cases h
    · cases h
  · cases h
theorem sd_getstatic (C : am_Cx p R s m args meth c Γ xs M cc E0) {pc : Nat} {L : am_L} {st : List Value} {es : am_H} {N : Nat × (am_L × (List Value × am_H))} {idx : Nat} (hd : decode cc pc = .ok (.getstatic idx, 3)) (h : am_gets M.1 idx st (pc + 3) L es = some (.inl N)) (k : am_Wp p l e R s m args below meth c Q Γ M.2.2.1 E0 S0 N.1 N.2.1 N.2.2.1 N.2.2.2) : am_Wp p l e R s m args below meth c Q Γ M.2.2.1 E0 S0 pc L st es := by
  obtain ⟨hx, hb, hml, hown, hts, hKK, hb1, hb2, ho, hini, hfr, hlo⟩ := id C
  unfold am_gets at h
  split at h
  · rename_i hs
    obtain rfl := am_nx_inv h
    have hlk := (am_sta_ok M.1 _ (am_lk hs)).2
    exact fun hn H locs ls a b d => va_gets hx hb (va_Z.kept hKK.2.2.2.2.2.2.1 (H1 := s.heap) (fun q hq _ => hb2 q hq)) b hown (hts _ (am_gB hlk rfl)) (fun _ q => q) hd (k hn H locs ls a b d)
  · rename_i hs
    obtain rfl := am_nx_inv h
    have hlk := (am_sta_ok M.1 _ (am_lk hs)).2
    exact fun hn H locs ls a b d => va_gets hx hb (va_Z.kept hKK.2.2.2.2.2.2.2.1 (H1 := s.heap) (fun q hq _ => hb2 q hq)) b hown (hts _ (am_gB hlk rfl)) (fun _ q => q) hd (k hn H locs ls a b d)
  · rename_i hs
    obtain rfl := am_nx_inv h
    have hlk := (am_sta_ok M.1 _ (am_lk hs)).2
    exact fun hn H locs ls a b d => va_gets hx hb (va_Z.kept hKK.2.2.2.2.2.2.2.2.1 (H1 := s.heap) (fun q hq _ => hb2 q hq)) b hown (hts _ (am_gB hlk rfl)) (fun _ q => q) hd (k hn H locs ls a b d)
  · rename_i hs
    obtain rfl := am_nx_inv h
    have hlk := (am_sta_ok M.1 _ (am_lk hs)).2
    exact fun hn H locs ls a b d => va_gets hx hb (va_Z.kept hKK.2.2.2.2.2.2.2.2.2.1 (H1 := s.heap) (fun q hq _ => hb2 q hq)) b hown (hts _ (am_gB hlk rfl)) (fun _ q => q) hd (k hn H locs ls a b d)
  · cases h
theorem sd_ldc (C : am_Cx p R s m args meth c Γ xs M cc E0) {pc : Nat} {L : am_L} {st : List Value} {es : am_H} {N : Nat × (am_L × (List Value × am_H))} {idx : Nat} (hd : decode cc pc = .ok (.ldc idx, 2)) (h : am_conl M.1 idx st (pc + 2) L es (fun v => am_isI v || am_isA v) = some (.inl N)) (k : am_Wp p l e R s m args below meth c Q Γ M.2.2.1 E0 S0 N.1 N.2.1 N.2.2.1 N.2.2.2) : am_Wp p l e R s m args below meth c Q Γ M.2.2.1 E0 S0 pc L st es := by
  obtain ⟨hx, hb, hml, hown, hts, hKK, hb1, hb2, ho, hini, hfr, hlo⟩ := id C
  unfold am_conl at h
  split at h
  · rename_i v hs
    split at h
    · rename_i hok
      obtain rfl := am_nx_inv h
      rcases am_con_ok M.1 _ (am_lk hs) with ⟨w, hw, hlk⟩ | ⟨w, hw, hlk⟩ | ⟨j, i0, tx, hw, hj, hsk, hji, hlk⟩
      · dsimp only at hw
        subst hw
        exact fun hn H locs ls a b d => lv_ldc hx hb hown (hts _ (am_gB hlk rfl)) hd (k hn H locs ls a b d)
      · dsimp only at hw
        subst hw
        cases hok
      · dsimp only at hw
        subst hw
        have hR := hKK.2.2.2.2.1 i0 _ hsk
        rw [hji] at hR
        have hk0 : am_cV Γ (.ref (1000000 + j)) = .ref (Γ.2.2.2.1 j) := by
          rw [am_cV_hi (by omega), Nat.add_sub_cancel_left]
          unfold am_rov
          rw [if_pos hj]
        intro hn H locs ls a b d
        have kk : W p l e R s m args below meth c H locs (es.length - E0) (am_sz es - S0) Q (F0 m (pc + 2) ls (am_cV Γ (.ref (1000000 + j)) :: st.map (am_cV Γ))) := k hn H locs ls a b d
        rw [hk0] at kk
        exact va_ldcS hx hb hown hR hd kk
    · cases h
  · cases h
theorem sd_ldc_w (C : am_Cx p R s m args meth c Γ xs M cc E0) {pc : Nat} {L : am_L} {st : List Value} {es : am_H} {N : Nat × (am_L × (List Value × am_H))} {idx : Nat} (hd : decode cc pc = .ok (.ldc_w idx, 3)) (h : am_conl M.1 idx st (pc + 3) L es am_isI = some (.inl N)) (k : am_Wp p l e R s m args below meth c Q Γ M.2.2.1 E0 S0 N.1 N.2.1 N.2.2.1 N.2.2.2) : am_Wp p l e R s m args below meth c Q Γ M.2.2.1 E0 S0 pc L st es := by
  obtain ⟨hx, hb, hml, hown, hts, hKK, hb1, hb2, ho, hini, hfr, hlo⟩ := id C
  unfold am_conl at h
  split at h
  · rename_i v hs
    split at h
    · rename_i hok
      obtain rfl := am_nx_inv h
      rcases am_con_ok M.1 _ (am_lk hs) with ⟨w, hw, hlk⟩ | ⟨w, hw, hlk⟩ | ⟨j, i0, tx, hw, hj, hsk, hji, hlk⟩
      · dsimp only at hw
        subst hw
        exact fun hn H locs ls a b d => lv_ldcw hx hb hown (hts _ (am_gB hlk rfl)) hd (k hn H locs ls a b d)
      · dsimp only at hw
        subst hw
        cases hok
      · dsimp only at hw
        subst hw
        cases hok
    · cases h
  · cases h
theorem sd_ldc2_w (C : am_Cx p R s m args meth c Γ xs M cc E0) {pc : Nat} {L : am_L} {st : List Value} {es : am_H} {N : Nat × (am_L × (List Value × am_H))} {idx : Nat} (hd : decode cc pc = .ok (.ldc2_w idx, 3)) (h : am_conl M.1 idx st (pc + 3) L es am_isJ = some (.inl N)) (k : am_Wp p l e R s m args below meth c Q Γ M.2.2.1 E0 S0 N.1 N.2.1 N.2.2.1 N.2.2.2) : am_Wp p l e R s m args below meth c Q Γ M.2.2.1 E0 S0 pc L st es := by
  obtain ⟨hx, hb, hml, hown, hts, hKK, hb1, hb2, ho, hini, hfr, hlo⟩ := id C
  unfold am_conl at h
  split at h
  · rename_i v hs
    split at h
    · rename_i hok
      obtain rfl := am_nx_inv h
      rcases am_con_ok M.1 _ (am_lk hs) with ⟨w, hw, hlk⟩ | ⟨w, hw, hlk⟩ | ⟨j, i0, tx, hw, hj, hsk, hji, hlk⟩
      · dsimp only at hw
        subst hw
        cases hok
      · dsimp only at hw
        subst hw
        exact fun hn H locs ls a b d => lv_ldc2 hx hb hown (hts _ (am_gB hlk rfl)) hd (k hn H locs ls a b d)
      · dsimp only at hw
        subst hw
        cases hok
    · cases h
  · cases h
theorem am_arr_inv {es : am_H} {x : Nat} {q : FieldType × am_A} (h : am_arr xs es x = some q) : (x < 1000000 ∧ es[x]? = some (Sum.inl q)) ∨ (¬ x < 1000000 ∧ ∃ l, am_ro xs (x - 1000000) = some (q.1, l) ∧ q.2 = Sum.inl l) := by
  unfold am_arr at h
  split at h
  · rename_i hx
    split at h
    · rename_i q' hq
      cases h
      exact Or.inl ⟨hx, hq⟩
    · cases h
  · rename_i hx
    split at h
    · rename_i ty l hq
      cases h
      exact Or.inr ⟨hx, l, hq, rfl⟩
    · cases h
theorem am_ro_inv {j : Nat} {q : FieldType × List Int32} (hKK : am_KK Γ xs s) (hb2 : ∀ a : Nat, a < am_base Γ → s.heap[a]? = Γ.2.2.1[a]?) (h : am_ro xs j = some q) : ∃ t : Nat, am_rov Γ j = .ref t ∧ va_T q.1 t q.2.length (fun k => .int (q.2.getD k 0)) (fun q : Nat => am_base Γ ≤ q) s s.heap := by
  have hq : ∀ a : Nat, a < Γ.2.2.1.size → ¬ am_base Γ ≤ a → s.heap[a]? = Γ.2.2.1[a]? := fun a ha _ => hb2 a ha
  obtain ⟨-, -, -, -, -, h6, -, -, -, -, h11, h12, h13⟩ := hKK
  unfold am_ro at h
  split at h
  · rename_i hj
    cases h; subst hj
    exact ⟨_, rfl, va_T.kept h11 hq⟩
  · split at h
    · rename_i hj
      cases h; subst hj
      exact ⟨_, rfl, va_T.kept h12 hq⟩
    · split at h
      · rename_i hj
        cases h; subst hj
        exact ⟨_, rfl, va_T.kept h13 hq⟩
      · split at h
        · rename_i hj
          split at h
          · rename_i lb hl
            cases h
            have hlt : j - 100 < 5 := (List.getElem?_eq_some_iff.mp hl).1
            have h7 := va_T.kept (h6.1 (j - 100) hlt).2.2.2 hq
            refine ⟨Γ.2.2.2.2.1 (j - 100), ?_, ?_⟩
            · unfold am_rov
              rw [if_neg (by omega), if_pos (by omega)]
            · have e1 : (am_bs.map List.length).getD (j - 100) 0 = lb.length := by
                rw [List.getD_eq_getElem?_getD, List.getElem?_map, hl]; rfl
              have e2 : am_bs.getD (j - 100) [] = lb := by rw [List.getD_eq_getElem?_getD, hl]; rfl
              rw [e1, e2] at h7
              exact h7
          · cases h
        · cases h
theorem sd_iaload (C : am_Cx p R s m args meth c Γ xs M cc E0) {pc : Nat} {L : am_L} {st : List Value} {es : am_H} {N : Nat × (am_L × (List Value × am_H))} (hd : decode cc pc = .ok (.iaload, 1)) (h : am_aload xs st (pc + 1) L es [.int] = some (.inl N)) (k : am_Wp p l e R s m args below meth c Q Γ M.2.2.1 E0 S0 N.1 N.2.1 N.2.2.1 N.2.2.2) : am_Wp p l e R s m args below meth c Q Γ M.2.2.1 E0 S0 pc L st es := by
  obtain ⟨hx, hb, hml, hown, hts, hKK, hb1, hb2, ho, hini, hfr, hlo⟩ := id C
  unfold am_aload at h
  split at h
  · rename_i i x r
    split at h
    · rename_i ty lst hq
      split at h
      · rename_i hty
        split at h
        · rename_i v hv
          obtain rfl := am_nx_inv h
          obtain ⟨hin, hv⟩ := am_get_inv hv
          intro hn H locs ls a b d
          have kk : W p l e R s m args below meth c H locs (es.length - E0) (am_sz es - S0) Q (F0 m (pc + 1) ls (.int v :: r.map (am_cV Γ))) := k hn H locs ls a b d
          show W p l e R s m args below meth c H locs (es.length - E0) (am_sz es - S0) Q (F0 m pc ls (.int i :: am_cV Γ (.ref x) :: r.map (am_cV Γ)))
          have hgd : lst.getD i.toNatClampNeg 0 = v := by rw [List.getD_eq_getElem?_getD, hv]; rfl
          rcases am_arr_inv hq with ⟨ha, he⟩ | ⟨ha, l2, he, h2⟩
          · rw [am_cV_lo ha]
            have hc := am_cW_at (Γ := Γ) he
            have hK1 := am_K1 hKK a he
            rw [← hgd] at kk
            obtain rfl := List.mem_singleton.mp hty
            exact va_iald (f := fun j => lst.getD j 0) hx hb hK1 a.2.1 x 0 hc rfl hin hd kk
          · obtain ⟨t, ht1, ht2⟩ := am_ro_inv hKK hb2 he
            cases h2
            rw [am_cV_hi ha, ht1]
            obtain rfl := List.mem_singleton.mp hty
            exact va_ti hx hb ht2 b hin (by show Value.int _ = _; rw [hgd]) hd kk
        · cases h
      · cases h
    · cases h
  · cases h
theorem sd_baload (C : am_Cx p R s m args meth c Γ xs M cc E0) {pc : Nat} {L : am_L} {st : List Value} {es : am_H} {N : Nat × (am_L × (List Value × am_H))} (hd : decode cc pc = .ok (.baload, 1)) (h : am_aload xs st (pc + 1) L es [.byte, .boolean] = some (.inl N)) (k : am_Wp p l e R s m args below meth c Q Γ M.2.2.1 E0 S0 N.1 N.2.1 N.2.2.1 N.2.2.2) : am_Wp p l e R s m args below meth c Q Γ M.2.2.1 E0 S0 pc L st es := by
  obtain ⟨hx, hb, hml, hown, hts, hKK, hb1, hb2, ho, hini, hfr, hlo⟩ := id C
  unfold am_aload at h
  split at h
  · rename_i i x r
    split at h
    · rename_i ty lst hq
      split at h
      · rename_i hty
        split at h
        · rename_i v hv
          obtain rfl := am_nx_inv h
          obtain ⟨hin, hv⟩ := am_get_inv hv
          intro hn H locs ls a b d
          have kk : W p l e R s m args below meth c H locs (es.length - E0) (am_sz es - S0) Q (F0 m (pc + 1) ls (.int v :: r.map (am_cV Γ))) := k hn H locs ls a b d
          show W p l e R s m args below meth c H locs (es.length - E0) (am_sz es - S0) Q (F0 m pc ls (.int i :: am_cV Γ (.ref x) :: r.map (am_cV Γ)))
          have hgd : lst.getD i.toNatClampNeg 0 = v := by rw [List.getD_eq_getElem?_getD, hv]; rfl
          rcases am_arr_inv hq with ⟨ha, he⟩ | ⟨ha, l2, he, h2⟩
          · rw [am_cV_lo ha]
            have hc := am_cW_at (Γ := Γ) he
            have hK1 := am_K1 hKK a he
            rw [← hgd] at kk
            rcases (show ty = .byte ∨ ty = .boolean by simpa using hty) with rfl | rfl
            · exact va_bald (f := fun j => lst.getD j 0) hx hb hK1 a.2.1 x 0 hc rfl hin hd kk
            · exact va_zald (f := fun j => lst.getD j 0) hx hb hK1 a.2.1 x 0 hc rfl hin hd kk
          · obtain ⟨t, ht1, ht2⟩ := am_ro_inv hKK hb2 he
            cases h2
            rw [am_cV_hi ha, ht1]
            rcases (show ty = .byte ∨ ty = .boolean by simpa using hty) with rfl | rfl
            · exact va_tb hx hb ht2 b hin (by show Value.int _ = _; rw [hgd]) hd kk
            · exact va_tz hx hb ht2 b hin (by show Value.int _ = _; rw [hgd]) hd kk
        · cases h
      · cases h
    · cases h
  · cases h
theorem sd_laload (C : am_Cx p R s m args meth c Γ xs M cc E0) {pc : Nat} {L : am_L} {st : List Value} {es : am_H} {N : Nat × (am_L × (List Value × am_H))} (hd : decode cc pc = .ok (.laload, 1)) (h : am_lald xs st (pc + 1) L es = some (.inl N)) (k : am_Wp p l e R s m args below meth c Q Γ M.2.2.1 E0 S0 N.1 N.2.1 N.2.2.1 N.2.2.2) : am_Wp p l e R s m args below meth c Q Γ M.2.2.1 E0 S0 pc L st es := by
  obtain ⟨hx, hb, hml, hown, hts, hKK, hb1, hb2, ho, hini, hfr, hlo⟩ := id C
  unfold am_lald at h
  split at h
  · rename_i i x r
    split at h
    · rename_i lst hq
      split at h
      · rename_i v hv
        obtain rfl := am_nx_inv h
        obtain ⟨hin, hv⟩ := am_get_inv hv
        intro hn H locs ls a b d
        have kk : W p l e R s m args below meth c H locs (es.length - E0) (am_sz es - S0) Q (F0 m (pc + 1) ls (.long v :: r.map (am_cV Γ))) := k hn H locs ls a b d
        show W p l e R s m args below meth c H locs (es.length - E0) (am_sz es - S0) Q (F0 m pc ls (.int i :: am_cV Γ (.ref x) :: r.map (am_cV Γ)))
        have hgd : lst.getD i.toNatClampNeg 0 = v := by rw [List.getD_eq_getElem?_getD, hv]; rfl
        rcases am_arr_inv hq with ⟨ha, he⟩ | ⟨ha, l2, he, h2⟩
        · rw [am_cV_lo ha]
          have hc := am_cW_at (Γ := Γ) he
          have hK1 := am_K1 hKK a he
          rw [← hgd] at kk
          exact va_lald (f := fun j => lst.getD j 0) hx hb hK1 a.2.1 x 0 hc rfl hin hd kk
        · cases h2
      · cases h
    · cases h
  · cases h
theorem sd_aaload (C : am_Cx p R s m args meth c Γ xs M cc E0) {pc : Nat} {L : am_L} {st : List Value} {es : am_H} {N : Nat × (am_L × (List Value × am_H))} (hd : decode cc pc = .ok (.aaload, 1)) (h : am_aald xs st (pc + 1) L es = some (.inl N)) (k : am_Wp p l e R s m args below meth c Q Γ M.2.2.1 E0 S0 N.1 N.2.1 N.2.2.1 N.2.2.2) : am_Wp p l e R s m args below meth c Q Γ M.2.2.1 E0 S0 pc L st es := by
  obtain ⟨hx, hb, hml, hown, hts, hKK, hb1, hb2, ho, hini, hfr, hlo⟩ := id C
  unfold am_aald at h
  split at h
  · rename_i i x r
    split at h
    · rename_i CC lst hq
      split at h
      · rename_i v hv
        by_cases hvl : v.all (fun q => decide (q < 1000000)) = true
        case neg => rw [if_neg hvl] at h; cases h
        rw [if_pos hvl] at h
        obtain rfl := am_nx_inv h
        obtain ⟨hin, hv⟩ := am_get_inv hv
        have hgd : lst.getD i.toNatClampNeg none = v := by rw [List.getD_eq_getElem?_getD, hv]; rfl
        rcases am_arr_inv hq with ⟨ha, he⟩ | ⟨ha, l2, he, h2⟩
        · intro hn H locs ls a b d
          have hve : am_cV Γ (am_rf v) = va_rf (v.map (fun q => am_base Γ + q)) := by
            cases v with
            | none => rfl
            | some q => exact am_cV_lo (by simpa using hvl)
          have kk : W p l e R s m args below meth c H locs (es.length - E0) (am_sz es - S0) Q (F0 m (pc + 1) ls (va_rf (v.map (fun q => am_base Γ + q)) :: r.map (am_cV Γ))) := by rw [← hve]; exact k hn H locs ls a b d
          show W p l e R s m args below meth c H locs (es.length - E0) (am_sz es - S0) Q (F0 m pc ls (.int i :: am_cV Γ (.ref x) :: r.map (am_cV Γ)))
          rw [am_cV_lo ha]
          have hc := am_cW_at (Γ := Γ) he
          have hK1 := am_K1 hKK a he
          rw [← hgd] at kk
          exact va_aldq (f := fun j => (lst.getD j none).map (fun q => am_base Γ + q)) hx hb hK1 a.2.1 x 0 hc rfl hin hd kk
        · cases h2
      · cases h
    · cases h
  · cases h
theorem sd_arraylength (C : am_Cx p R s m args meth c Γ xs M cc E0) {pc : Nat} {L : am_L} {st : List Value} {es : am_H} {N : Nat × (am_L × (List Value × am_H))} (hd : decode cc pc = .ok (.arraylength, 1)) (h : am_alen xs st (pc + 1) L es = some (.inl N)) (k : am_Wp p l e R s m args below meth c Q Γ M.2.2.1 E0 S0 N.1 N.2.1 N.2.2.1 N.2.2.2) : am_Wp p l e R s m args below meth c Q Γ M.2.2.1 E0 S0 pc L st es := by
  obtain ⟨hx, hb, hml, hown, hts, hKK, hb1, hb2, ho, hini, hfr, hlo⟩ := id C
  unfold am_alen at h
  split at h
  · rename_i x r
    split at h
    · rename_i ty q2 hq
      obtain rfl := am_nx_inv h
      intro hn H locs ls a b d
      have kk : W p l e R s m args below meth c H locs (es.length - E0) (am_sz es - S0) Q (F0 m (pc + 1) ls (.int (Int32.ofNat (am_len q2)) :: r.map (am_cV Γ))) := k hn H locs ls a b d
      show W p l e R s m args below meth c H locs (es.length - E0) (am_sz es - S0) Q (F0 m pc ls (am_cV Γ (.ref x) :: r.map (am_cV Γ)))
      rcases am_arr_inv hq with ⟨ha, he⟩ | ⟨ha, l2, he, h2⟩
      · rw [am_cV_lo ha]
        have hc := am_cW_at (Γ := Γ) he
        have hK1 := am_K1 hKK a he
        exact va_alen hx hb hK1 a.2.1 x 0 (x := am_cA Γ q2) hc rfl (by rcases q2 with f | f | f <;> rfl) hd kk
      · obtain ⟨t, ht1, ht2⟩ := am_ro_inv hKK hb2 he
        cases h2
        rw [am_cV_hi ha, ht1]
        exact va_tlen hx hb ht2 b rfl hd kk
    · cases h
  · cases h
theorem am_updL (lst : List Int32) {k : Nat} (hk : k < lst.length) (v : Int32) : (upd (fun j => lst.getD j 0) k v) = fun j => (lst.set k v).getD j 0 := by
  funext j
  unfold upd
  simp only [List.getD_eq_getElem?_getD, List.getElem?_set]
  by_cases h : j = k
  · subst h
    rw [if_pos rfl, if_pos rfl, if_pos hk]; rfl
  · rw [if_neg h, if_neg (fun q => h q.symm)]
theorem am_updJ (lst : List Int64) {k : Nat} (hk : k < lst.length) (v : Int64) : (vp_updL (fun j => lst.getD j 0) k v) = fun j => (lst.set k v).getD j 0 := by
  funext j
  unfold vp_updL
  simp only [List.getD_eq_getElem?_getD, List.getElem?_set]
  by_cases h : j = k
  · subst h
    rw [if_pos rfl, if_pos rfl, if_pos hk]; rfl
  · rw [if_neg h, if_neg (fun q => h q.symm)]
theorem am_updA (Γ : am_G) (lst : List (Option Nat)) {k v : Nat} (hk : k < lst.length) : (va_up (fun j => (lst.getD j none).map (fun q => am_base Γ + q)) k (some (am_base Γ + v))) = fun j => ((lst.set k (some v)).getD j none).map (fun q => am_base Γ + q) := by
  funext j
  unfold va_up
  simp only [List.getD_eq_getElem?_getD, List.getElem?_set]
  by_cases h : j = k
  · subst h
    rw [if_pos rfl, if_pos rfl, if_pos hk]; rfl
  · rw [if_neg h, if_neg (fun q => h q.symm)]
theorem sd_iastore (C : am_Cx p R s m args meth c Γ xs M cc E0) {pc : Nat} {L : am_L} {st : List Value} {es : am_H} {N : Nat × (am_L × (List Value × am_H))} (hd : decode cc pc = .ok (.iastore, 1)) (h : am_astore st (pc + 1) L es [.int] (fun _ x => x) = some (.inl N)) (k : am_Wp p l e R s m args below meth c Q Γ M.2.2.1 E0 S0 N.1 N.2.1 N.2.2.1 N.2.2.2) : am_Wp p l e R s m args below meth c Q Γ M.2.2.1 E0 S0 pc L st es := by
  obtain ⟨hx, hb, hml, hown, hts, hKK, hb1, hb2, ho, hini, hfr, hlo⟩ := id C
  unfold am_astore at h
  split at h
  · rename_i v i x r
    split at h
    · rename_i ty lst he
      split at h
      · rename_i hc0
        obtain ⟨ha, hi0, hil, hty⟩ := hc0
        obtain rfl := am_nx_inv h
        intro hn H locs ls a b d
        show W p l e R s m args below meth c H locs (es.length - E0) (am_sz es - S0) Q (F0 m pc ls (.int v :: .int i :: am_cV Γ (.ref x) :: r.map (am_cV Γ)))
        rw [am_cV_lo ha]
        have hc := am_cW_at (Γ := Γ) he
        have hK1 := am_K1 hKK a he
        have hA := am_cW_D Γ es
        have hin : vp_in i lst.length := fun q => q.elim hi0 (fun q => absurd hil (Nat.not_lt.mpr q))
        obtain rfl := List.mem_singleton.mp hty
        have kk : ∀ (H1 : Heap) (locs1 : List Loc), va_P Γ.1 am_cl ((am_cW Γ es).set x (am_base Γ + x, .inl (am_cT Γ .int, lst.length, .inl (upd (fun j => lst.getD j 0) i.toNatClampNeg (v))))) H1 → va_D (fun q : Nat => am_base Γ ≤ q) ((am_cW Γ es).set x (am_base Γ + x, .inl (am_cT Γ .int, lst.length, .inl (upd (fun j => lst.getD j 0) i.toNatClampNeg (v))))) → va_S (fun q : Nat => am_base Γ ≤ q) s.heap H1 locs1 → W p l e R s m args below meth c H1 locs1 (es.length - E0) (am_sz es - S0) Q (F0 m (pc + 1) ls (r.map (am_cV Γ))) := by
          intro H1 locs1 hP1 _ hS1
          rw [am_updL lst hil (v)] at hP1
          have hW1 : am_Wd Γ (es.set x (.inl (.int, .inl (lst.set i.toNatClampNeg (v))))) s H1 := am_Wd.put a he (by rw [show am_cE Γ (.inl (.int, .inl (lst.set i.toNatClampNeg (v)))) = .inl (am_cT Γ .int, (lst.set i.toNatClampNeg (v)).length, .inl (fun j => (lst.set i.toNatClampNeg (v)).getD j 0)) from rfl, List.length_set]; exact hP1) hS1 hb1 hb2 (fun ty a' q => by cases q; exact ⟨_, rfl⟩)
          have := k hn H1 locs1 ls hW1 hS1 d
          rwa [List.length_set, am_sz_set he (by simp [am_esz, am_len])] at this
        exact va_iast (f := fun j => lst.getD j 0) hx hb hK1 a.2.1 hA b x 0 hc rfl hin hd kk
      · cases h
    · cases h
  · cases h
theorem sd_bastore (C : am_Cx p R s m args meth c Γ xs M cc E0) {pc : Nat} {L : am_L} {st : List Value} {es : am_H} {N : Nat × (am_L × (List Value × am_H))} (hd : decode cc pc = .ok (.bastore, 1)) (h : am_astore st (pc + 1) L es [.byte, .boolean] vp_nar = some (.inl N)) (k : am_Wp p l e R s m args below meth c Q Γ M.2.2.1 E0 S0 N.1 N.2.1 N.2.2.1 N.2.2.2) : am_Wp p l e R s m args below meth c Q Γ M.2.2.1 E0 S0 pc L st es := by
  obtain ⟨hx, hb, hml, hown, hts, hKK, hb1, hb2, ho, hini, hfr, hlo⟩ := id C
  unfold am_astore at h
  split at h
  · rename_i v i x r
    split at h
    · rename_i ty lst he
      split at h
      · rename_i hc0
        obtain ⟨ha, hi0, hil, hty⟩ := hc0
        obtain rfl := am_nx_inv h
        intro hn H locs ls a b d
        show W p l e R s m args below meth c H locs (es.length - E0) (am_sz es - S0) Q (F0 m pc ls (.int v :: .int i :: am_cV Γ (.ref x) :: r.map (am_cV Γ)))
        rw [am_cV_lo ha]
        have hc := am_cW_at (Γ := Γ) he
        have hK1 := am_K1 hKK a he
        have hA := am_cW_D Γ es
        have hin : vp_in i lst.length := fun q => q.elim hi0 (fun q => absurd hil (Nat.not_lt.mpr q))
        rcases (show ty = .byte ∨ ty = .boolean by simpa using hty) with rfl | rfl
        · have kk : ∀ (H1 : Heap) (locs1 : List Loc), va_P Γ.1 am_cl ((am_cW Γ es).set x (am_base Γ + x, .inl (am_cT Γ .byte, lst.length, .inl (upd (fun j => lst.getD j 0) i.toNatClampNeg (vp_nar .byte v))))) H1 → va_D (fun q : Nat => am_base Γ ≤ q) ((am_cW Γ es).set x (am_base Γ + x, .inl (am_cT Γ .byte, lst.length, .inl (upd (fun j => lst.getD j 0) i.toNatClampNeg (vp_nar .byte v))))) → va_S (fun q : Nat => am_base Γ ≤ q) s.heap H1 locs1 → W p l e R s m args below meth c H1 locs1 (es.length - E0) (am_sz es - S0) Q (F0 m (pc + 1) ls (r.map (am_cV Γ))) := by
            intro H1 locs1 hP1 _ hS1
            rw [am_updL lst hil (vp_nar .byte v)] at hP1
            have hW1 : am_Wd Γ (es.set x (.inl (.byte, .inl (lst.set i.toNatClampNeg (vp_nar .byte v))))) s H1 := am_Wd.put a he (by rw [show am_cE Γ (.inl (.byte, .inl (lst.set i.toNatClampNeg (vp_nar .byte v)))) = .inl (am_cT Γ .byte, (lst.set i.toNatClampNeg (vp_nar .byte v)).length, .inl (fun j => (lst.set i.toNatClampNeg (vp_nar .byte v)).getD j 0)) from rfl, List.length_set]; exact hP1) hS1 hb1 hb2 (fun ty a' q => by cases q; exact ⟨_, rfl⟩)
            have := k hn H1 locs1 ls hW1 hS1 d
            rwa [List.length_set, am_sz_set he (by simp [am_esz, am_len])] at this
          exact va_bast (f := fun j => lst.getD j 0) hx hb hK1 a.2.1 hA b x 0 hc rfl hin hd kk
        · have kk : ∀ (H1 : Heap) (locs1 : List Loc), va_P Γ.1 am_cl ((am_cW Γ es).set x (am_base Γ + x, .inl (am_cT Γ .boolean, lst.length, .inl (upd (fun j => lst.getD j 0) i.toNatClampNeg (vp_nar .boolean v))))) H1 → va_D (fun q : Nat => am_base Γ ≤ q) ((am_cW Γ es).set x (am_base Γ + x, .inl (am_cT Γ .boolean, lst.length, .inl (upd (fun j => lst.getD j 0) i.toNatClampNeg (vp_nar .boolean v))))) → va_S (fun q : Nat => am_base Γ ≤ q) s.heap H1 locs1 → W p l e R s m args below meth c H1 locs1 (es.length - E0) (am_sz es - S0) Q (F0 m (pc + 1) ls (r.map (am_cV Γ))) := by
            intro H1 locs1 hP1 _ hS1
            rw [am_updL lst hil (vp_nar .boolean v)] at hP1
            have hW1 : am_Wd Γ (es.set x (.inl (.boolean, .inl (lst.set i.toNatClampNeg (vp_nar .boolean v))))) s H1 := am_Wd.put a he (by rw [show am_cE Γ (.inl (.boolean, .inl (lst.set i.toNatClampNeg (vp_nar .boolean v)))) = .inl (am_cT Γ .boolean, (lst.set i.toNatClampNeg (vp_nar .boolean v)).length, .inl (fun j => (lst.set i.toNatClampNeg (vp_nar .boolean v)).getD j 0)) from rfl, List.length_set]; exact hP1) hS1 hb1 hb2 (fun ty a' q => by cases q; exact ⟨_, rfl⟩)
            have := k hn H1 locs1 ls hW1 hS1 d
            rwa [List.length_set, am_sz_set he (by simp [am_esz, am_len])] at this
          exact va_zast (f := fun j => lst.getD j 0) hx hb hK1 a.2.1 hA b x 0 hc rfl hin hd kk
      · cases h
    · cases h
  · cases h
theorem sd_lastore (C : am_Cx p R s m args meth c Γ xs M cc E0) {pc : Nat} {L : am_L} {st : List Value} {es : am_H} {N : Nat × (am_L × (List Value × am_H))} (hd : decode cc pc = .ok (.lastore, 1)) (h : am_last st (pc + 1) L es = some (.inl N)) (k : am_Wp p l e R s m args below meth c Q Γ M.2.2.1 E0 S0 N.1 N.2.1 N.2.2.1 N.2.2.2) : am_Wp p l e R s m args below meth c Q Γ M.2.2.1 E0 S0 pc L st es := by
  obtain ⟨hx, hb, hml, hown, hts, hKK, hb1, hb2, ho, hini, hfr, hlo⟩ := id C
  unfold am_last at h
  split at h
  · rename_i v i x r
    split at h
    · rename_i lst he
      split at h
      · rename_i hc0
        obtain ⟨ha, hi0, hil⟩ := hc0
        obtain rfl := am_nx_inv h
        intro hn H locs ls a b d
        show W p l e R s m args below meth c H locs (es.length - E0) (am_sz es - S0) Q (F0 m pc ls (.long v :: .int i :: am_cV Γ (.ref x) :: r.map (am_cV Γ)))
        rw [am_cV_lo ha]
        have hc := am_cW_at (Γ := Γ) he
        have hK1 := am_K1 hKK a he
        have hA := am_cW_D Γ es
        have hin : vp_in i lst.length := fun q => q.elim hi0 (fun q => absurd hil (Nat.not_lt.mpr q))
        refine va_last (f := fun j => lst.getD j 0) hx hb hK1 a.2.1 hA b x 0 hc rfl hin hd ?_
        intro H1 locs1 hP1 _ hS1
        rw [am_updJ lst hil v] at hP1
        have hW1 : am_Wd Γ (es.set x (.inl (.long, .inr (.inl (lst.set i.toNatClampNeg v))))) s H1 := am_Wd.put a he (by rw [show am_cE Γ (.inl (.long, .inr (.inl (lst.set i.toNatClampNeg v)))) = .inl (am_cT Γ .long, (lst.set i.toNatClampNeg v).length, .inr (.inl (fun j => (lst.set i.toNatClampNeg v).getD j 0))) from rfl, List.length_set]; exact hP1) hS1 hb1 hb2 (fun ty a' q => by cases q; exact ⟨_, rfl⟩)
        have := k hn H1 locs1 ls hW1 hS1 d
        rwa [List.length_set, am_sz_set he (by simp [am_esz, am_len])] at this
      · cases h
    · cases h
  · cases h
theorem sd_aastore (C : am_Cx p R s m args meth c Γ xs M cc E0) {pc : Nat} {L : am_L} {st : List Value} {es : am_H} {N : Nat × (am_L × (List Value × am_H))} (hd : decode cc pc = .ok (.aastore, 1)) (h : am_aast st (pc + 1) L es = some (.inl N)) (k : am_Wp p l e R s m args below meth c Q Γ M.2.2.1 E0 S0 N.1 N.2.1 N.2.2.1 N.2.2.2) : am_Wp p l e R s m args below meth c Q Γ M.2.2.1 E0 S0 pc L st es := by
  obtain ⟨hx, hb, hml, hown, hts, hKK, hb1, hb2, ho, hini, hfr, hlo⟩ := id C
  unfold am_aast at h
  split at h
  · rename_i v i x r
    split at h
    · rename_i CC lst ci fs he hv
      split at h
      · rename_i hc0
        obtain ⟨ha, hva, hci, hCC, hi0, hil⟩ := hc0
        subst hCC
        obtain rfl := am_nx_inv h
        intro hn H locs ls a b d
        show W p l e R s m args below meth c H locs (es.length - E0) (am_sz es - S0) Q (F0 m pc ls (am_cV Γ (.ref v) :: .int i :: am_cV Γ (.ref x) :: r.map (am_cV Γ)))
        rw [am_cV_lo ha, am_cV_lo hva]
        have hc := am_cW_at (Γ := Γ) he
        have hcv := am_cW_at (Γ := Γ) hv
        have hK1 := am_K1 hKK a he
        have hA := am_cW_D Γ es
        have hin : vp_in i lst.length := fun q => q.elim hi0 (fun q => absurd hil (Nat.not_lt.mpr q))
        refine va_astq (r := (am_cn ci, am_T ci, am_nf ci)) (f := fun j => (lst.getD j none).map (fun q => am_base Γ + q)) hx hb hK1 a.2.1 hA b x 0 v ci hc rfl hcv (am_cls_ok ci hci) hin hd ?_
        intro H1 locs1 hP1 _ hS1
        rw [am_updA Γ lst hil] at hP1
        have hW1 : am_Wd Γ (es.set x (.inl (.object (am_cn ci), .inr (.inr (lst.set i.toNatClampNeg (some v)))))) s H1 := am_Wd.put a he (by rw [show am_cE Γ (.inl (.object (am_cn ci), .inr (.inr (lst.set i.toNatClampNeg (some v))))) = .inl (am_cT Γ (.object (am_cn ci)), (lst.set i.toNatClampNeg (some v)).length, .inr (.inr (.inr (.inr (fun j => ((lst.set i.toNatClampNeg (some v)).getD j none).map (fun q => am_base Γ + q)))))) from rfl, List.length_set]; exact hP1) hS1 hb1 hb2 (fun ty a' q => by cases q; exact ⟨_, rfl⟩)
        have := k hn H1 locs1 ls hW1 hS1 d
        rwa [List.length_set, am_sz_set he (by simp [am_esz, am_len])] at this
      · cases h
    · cases h
  · cases h
theorem am_df_cV (Γ : am_G) : ∀ i, i < 10 → (am_df i).map (am_cV Γ) = am_df i := fun i h => match i, h with
  | 0, _ => rfl | 1, _ => rfl | 2, _ => rfl | 3, _ => rfl | 4, _ => rfl | 5, _ => rfl | 6, _ => rfl | 7, _ => rfl | 8, _ => rfl | 9, _ => rfl
  | i + 10, h => absurd h (by omega)
theorem am_cW_len (Γ : am_G) (es : am_H) : (am_cW Γ es).length = es.length := by unfold am_cW; simp
theorem am_born {es : am_H} {H1 : Heap} {q : Nat} {x : va_E} (hE : E0 ≤ es.length) (hb1 : s.heap.size = am_base Γ + E0) (hP : va_P Γ.1 am_cl (am_cW Γ es ++ [(q, x)]) H1) (hD : va_D (fun q : Nat => am_base Γ ≤ q) (am_cW Γ es ++ [(q, x)])) (hz : H1.size ≤ s.heap.size + (es.length - E0 + 1)) : q = am_base Γ + es.length := by
  have hl : (am_cW Γ es ++ [(q, x)])[es.length]? = some (q, x) := by
    rw [List.getElem?_append_right (by rw [am_cW_len]; exact Nat.le_refl _), am_cW_len, Nat.sub_self]; rfl
  have h1 := va_at.lt (hP _ _ hl)
  have h2 := hD.2 _ _ hl
  dsimp only at h1 h2
  rcases Nat.lt_or_ge q (am_base Γ + es.length) with h3 | h3
  · obtain ⟨j, rfl⟩ := Nat.exists_eq_add_of_le h2
    have hj : j < es.length := by omega
    have h4 : (am_cW Γ es ++ [(am_base Γ + j, x)])[j]? = some (am_base Γ + j, am_cE Γ es[j]) := by
      rw [List.getElem?_append_left (by rw [am_cW_len]; exact hj)]
      exact am_cW_at (List.getElem?_eq_getElem hj)
    have h5 := hD.1 _ _ _ _ h4 hl rfl
    omega
  · omega
theorem am_Wd.push {es : am_H} {x : am_E} {H H1 : Heap} {locs1 : List Loc} (hW : am_Wd Γ es s H) (hP : va_P Γ.1 am_cl (am_cW Γ es ++ [(am_base Γ + es.length, am_cE Γ x)]) H1) (hS : va_S (fun q : Nat => am_base Γ ≤ q) s.heap H1 locs1) (hb : s.heap.size = am_base Γ + E0) (hbq : ∀ a : Nat, a < am_base Γ → s.heap[a]? = Γ.2.2.1[a]?) (hty : ∀ ty a, x = Sum.inl (ty, a) → ArrOfT s (am_cT Γ ty) ty ∧ va_RA s (am_cT Γ ty) ty) : am_Wd Γ (es ++ [x]) s H1 := by
  refine ⟨fun a ha => ?_, by rw [← am_cW_push]; exact hP, fun j ty a hj => ?_⟩
  · rw [hS.2.1 a (by omega) (by omega)]
    exact hbq a ha
  · by_cases hlt : j < es.length
    · rw [List.getElem?_append_left hlt] at hj
      exact hW.2.2 j ty a hj
    · rw [List.getElem?_append_right (by omega)] at hj
      have h0 : j - es.length < 1 := (List.getElem?_eq_some_iff.mp hj).1
      rw [show j - es.length = 0 by omega] at hj
      cases hj
      exact hty ty a rfl
theorem sd_new (C : am_Cx p R s m args meth c Γ xs M cc E0) {pc : Nat} {L : am_L} {st : List Value} {es : am_H} {N : Nat × (am_L × (List Value × am_H))} {idx : Nat} (hd : decode cc pc = .ok (.new idx, 3)) (h : am_newo M.1 idx st (pc + 3) L es = some (.inl N)) (hE : E0 ≤ es.length) (hS0 : S0 ≤ am_sz es) (hE' : N.2.2.2.length - E0 ≤ R.cells) (hS' : am_sz N.2.2.2 - S0 ≤ R.slots) (k : am_Wp p l e R s m args below meth c Q Γ M.2.2.1 E0 S0 N.1 N.2.1 N.2.2.1 N.2.2.2) : am_Wp p l e R s m args below meth c Q Γ M.2.2.1 E0 S0 pc L st es := by
  obtain ⟨hx, hb, hml, hown, hts, hKK, hb1, hb2, ho, hini, hfr, hlo⟩ := id C
  unfold am_newo at h
  split at h
  · rename_i ci hs
    split at h
    · rename_i hlt
      obtain rfl := am_nx_inv h
      obtain ⟨hci, hcl⟩ := am_new_ok M.1 _ (am_lk hs)
      dsimp only at hci hcl
      have hnf : am_esz (.inr (ci, am_df ci)) = am_nf ci := (am_dfk_ok ci hci).1
      rw [List.length_append, List.length_singleton] at hE'
      rw [am_sz_push, hnf] at hS'
      intro hn H locs ls a b d
      refine va_new (C := am_cn ci) (T := am_T ci) (N := am_nf ci) (ci := ci) (fs := am_df ci) hx hb hts (am_wsB hci) (am_y ci) (am_tyk_ok ci hci) hown (hts _ (am_gB hcl rfl)) (hts _ (am_gB (am_ink_ok ci hci).1 rfl)) (hts _ (am_gB (am_ink_ok ci hci).2 rfl)) hKK.1 a.2.1 (am_cW_D Γ es) b (fun q hq => by show am_base Γ ≤ q; omega) (am_cls_ok ci hci) (am_dfk_ok ci hci).2 (by omega) (by omega) hd ?_
      intro q H1 hP1 hD1 hS1
      refine am_up fun hz => ?_
      obtain rfl := am_born hE hb1 hP1 hD1 hz
      have hW1 : am_Wd Γ (es ++ [.inr (ci, am_df ci)]) s H1 := am_Wd.push a (by rw [show am_cE Γ (.inr (ci, am_df ci)) = .inr (ci, (am_df ci).map (am_cV Γ)) from rfl, am_df_cV Γ ci hci]; exact hP1) hS1 hb1 hb2 (fun ty a' q => by cases q)
      have kk := k hn H1 locs ls hW1 hS1 d
      rw [List.length_append, List.length_singleton, am_sz_push, hnf, show es.length + 1 - E0 = es.length - E0 + 1 by omega, show am_sz es + am_nf ci - S0 = am_sz es - S0 + am_nf ci by omega] at kk
      have e1 : am_cV Γ (.ref es.length) = .ref (am_base Γ + es.length) := am_cV_lo (by omega)
      rw [← e1]
      exact kk
    · cases h
  · cases h
theorem sd_newarray (C : am_Cx p R s m args meth c Γ xs M cc E0) {pc : Nat} {L : am_L} {st : List Value} {es : am_H} {N : Nat × (am_L × (List Value × am_H))} {at_ : ArrayType} (hd : decode cc pc = .ok (.newarray at_, 2)) (h : am_newa at_ st (pc + 2) L es = some (.inl N)) (hE : E0 ≤ es.length) (hS0 : S0 ≤ am_sz es) (hE' : N.2.2.2.length - E0 ≤ R.cells) (hS' : am_sz N.2.2.2 - S0 ≤ R.slots) (k : am_Wp p l e R s m args below meth c Q Γ M.2.2.1 E0 S0 N.1 N.2.1 N.2.2.1 N.2.2.2) : am_Wp p l e R s m args below meth c Q Γ M.2.2.1 E0 S0 pc L st es := by
  obtain ⟨hx, hb, hml, hown, hts, hKK, hb1, hb2, ho, hini, hfr, hlo⟩ := id C
  unfold am_newa at h
  split at h
  · rename_i z r
    split at h
    · cases h
    · rename_i hc0
      have hz0 : ¬ z < 0 := fun q => hc0 (Or.inl q)
      have hz1 : z.toNatClampNeg ≤ 1000 := Nat.not_lt.mp fun q => hc0 (Or.inr (Or.inl q))
      have hlt : es.length < 1000 := Decidable.byContradiction fun q => hc0 (Or.inr (Or.inr q))
      split at h
      · obtain rfl := am_nx_inv h
        have hnf : am_esz (.inl (.int, .inl (List.replicate z.toNatClampNeg (0 : Int32)))) = z.toNatClampNeg := List.length_replicate
        rw [List.length_append, List.length_singleton] at hE'
        rw [am_sz_push, hnf] at hS'
        intro hn H locs ls a b d
        refine va_newa (atype := .int) (a0 := (z.toNatClampNeg, .inl (fun j => (List.replicate z.toNatClampNeg (0 : Int32)).getD j 0))) hx hb (hts _ (am_gB am_arr_94 rfl)) rfl hKK.1 a.2.1 (am_cW_D Γ es) b (fun q hq => by show am_base Γ ≤ q; omega) (fun cA => by rw [vp_cell_i]; congr 1; funext j; simp [List.getD_eq_getElem?_getD, List.getElem?_replicate]; split <;> rfl) hz0 rfl (Nat.le_trans (Nat.mul_le_mul hz1 (Nat.le_of_ble_eq_true rfl)) (Nat.le_of_ble_eq_true rfl : 1000 * 8 ≤ 536870912)) (by omega) (by omega) hd ?_
        intro q cA H1 hK1 hP1 hD1 hS1
        refine am_up fun hz => ?_
        obtain ⟨hr1, hr2⟩ := hK1.2 0 _ rfl
        have hcA : cA = am_cT Γ .int := by
          have h9 : s.vm.findClass ("[" ++ FieldType.int.toString) = some cA := hr2
          rw [hKK.2.1] at h9
          unfold am_cT
          rw [h9]; rfl
        subst hcA
        obtain rfl := am_born hE hb1 hP1 hD1 hz
        have hW1 : am_Wd Γ (es ++ [.inl (.int, .inl (List.replicate z.toNatClampNeg (0 : Int32)))]) s H1 := am_Wd.push a (by rw [show am_cE Γ (.inl (.int, .inl (List.replicate z.toNatClampNeg (0 : Int32)))) = .inl (am_cT Γ .int, (List.replicate z.toNatClampNeg (0 : Int32)).length, .inl (fun j => (List.replicate z.toNatClampNeg (0 : Int32)).getD j 0)) from rfl, List.length_replicate]; exact hP1) hS1 hb1 hb2 (fun ty a' q => by cases q; exact ⟨hr1, hr2⟩)
        have kk := k hn H1 locs ls hW1 hS1 d
        rw [List.length_append, List.length_singleton, am_sz_push, hnf, show es.length + 1 - E0 = es.length - E0 + 1 by omega, show am_sz es + z.toNatClampNeg - S0 = am_sz es - S0 + z.toNatClampNeg by omega] at kk
        have e1 : am_cV Γ (.ref es.length) = .ref (am_base Γ + es.length) := am_cV_lo (by omega)
        rw [← e1]
        exact kk
      · obtain rfl := am_nx_inv h
        have hnf : am_esz (.inl (.byte, .inl (List.replicate z.toNatClampNeg (0 : Int32)))) = z.toNatClampNeg := List.length_replicate
        rw [List.length_append, List.length_singleton] at hE'
        rw [am_sz_push, hnf] at hS'
        intro hn H locs ls a b d
        refine va_newa (atype := .byte) (a0 := (z.toNatClampNeg, .inl (fun j => (List.replicate z.toNatClampNeg (0 : Int32)).getD j 0))) hx hb (hts _ (am_gB am_arr_202 rfl)) rfl hKK.1 a.2.1 (am_cW_D Γ es) b (fun q hq => by show am_base Γ ≤ q; omega) (fun cA => by rw [vp_cell_i]; congr 1; funext j; simp [List.getD_eq_getElem?_getD, List.getElem?_replicate]; split <;> rfl) hz0 rfl (Nat.le_trans (Nat.mul_le_mul hz1 (Nat.le_of_ble_eq_true rfl)) (Nat.le_of_ble_eq_true rfl : 1000 * 8 ≤ 536870912)) (by omega) (by omega) hd ?_
        intro q cA H1 hK1 hP1 hD1 hS1
        refine am_up fun hz => ?_
        obtain ⟨hr1, hr2⟩ := hK1.2 0 _ rfl
        have hcA : cA = am_cT Γ .byte := by
          have h9 : s.vm.findClass ("[" ++ FieldType.byte.toString) = some cA := hr2
          rw [hKK.2.1] at h9
          unfold am_cT
          rw [h9]; rfl
        subst hcA
        obtain rfl := am_born hE hb1 hP1 hD1 hz
        have hW1 : am_Wd Γ (es ++ [.inl (.byte, .inl (List.replicate z.toNatClampNeg (0 : Int32)))]) s H1 := am_Wd.push a (by rw [show am_cE Γ (.inl (.byte, .inl (List.replicate z.toNatClampNeg (0 : Int32)))) = .inl (am_cT Γ .byte, (List.replicate z.toNatClampNeg (0 : Int32)).length, .inl (fun j => (List.replicate z.toNatClampNeg (0 : Int32)).getD j 0)) from rfl, List.length_replicate]; exact hP1) hS1 hb1 hb2 (fun ty a' q => by cases q; exact ⟨hr1, hr2⟩)
        have kk := k hn H1 locs ls hW1 hS1 d
        rw [List.length_append, List.length_singleton, am_sz_push, hnf, show es.length + 1 - E0 = es.length - E0 + 1 by omega, show am_sz es + z.toNatClampNeg - S0 = am_sz es - S0 + z.toNatClampNeg by omega] at kk
        have e1 : am_cV Γ (.ref es.length) = .ref (am_base Γ + es.length) := am_cV_lo (by omega)
        rw [← e1]
        exact kk
      · obtain rfl := am_nx_inv h
        have hnf : am_esz (.inl (.boolean, .inl (List.replicate z.toNatClampNeg (0 : Int32)))) = z.toNatClampNeg := List.length_replicate
        rw [List.length_append, List.length_singleton] at hE'
        rw [am_sz_push, hnf] at hS'
        intro hn H locs ls a b d
        refine va_newa (atype := .boolean) (a0 := (z.toNatClampNeg, .inl (fun j => (List.replicate z.toNatClampNeg (0 : Int32)).getD j 0))) hx hb (hts _ (am_gB am_arr_995 rfl)) rfl hKK.1 a.2.1 (am_cW_D Γ es) b (fun q hq => by show am_base Γ ≤ q; omega) (fun cA => by rw [vp_cell_i]; congr 1; funext j; simp [List.getD_eq_getElem?_getD, List.getElem?_replicate]; split <;> rfl) hz0 rfl (Nat.le_trans (Nat.mul_le_mul hz1 (Nat.le_of_ble_eq_true rfl)) (Nat.le_of_ble_eq_true rfl : 1000 * 8 ≤ 536870912)) (by omega) (by omega) hd ?_
        intro q cA H1 hK1 hP1 hD1 hS1
        refine am_up fun hz => ?_
        obtain ⟨hr1, hr2⟩ := hK1.2 0 _ rfl
        have hcA : cA = am_cT Γ .boolean := by
          have h9 : s.vm.findClass ("[" ++ FieldType.boolean.toString) = some cA := hr2
          rw [hKK.2.1] at h9
          unfold am_cT
          rw [h9]; rfl
        subst hcA
        obtain rfl := am_born hE hb1 hP1 hD1 hz
        have hW1 : am_Wd Γ (es ++ [.inl (.boolean, .inl (List.replicate z.toNatClampNeg (0 : Int32)))]) s H1 := am_Wd.push a (by rw [show am_cE Γ (.inl (.boolean, .inl (List.replicate z.toNatClampNeg (0 : Int32)))) = .inl (am_cT Γ .boolean, (List.replicate z.toNatClampNeg (0 : Int32)).length, .inl (fun j => (List.replicate z.toNatClampNeg (0 : Int32)).getD j 0)) from rfl, List.length_replicate]; exact hP1) hS1 hb1 hb2 (fun ty a' q => by cases q; exact ⟨hr1, hr2⟩)
        have kk := k hn H1 locs ls hW1 hS1 d
        rw [List.length_append, List.length_singleton, am_sz_push, hnf, show es.length + 1 - E0 = es.length - E0 + 1 by omega, show am_sz es + z.toNatClampNeg - S0 = am_sz es - S0 + z.toNatClampNeg by omega] at kk
        have e1 : am_cV Γ (.ref es.length) = .ref (am_base Γ + es.length) := am_cV_lo (by omega)
        rw [← e1]
        exact kk
      · obtain rfl := am_nx_inv h
        have hnf : am_esz (.inl (.long, .inr (.inl (List.replicate z.toNatClampNeg (0 : Int64))))) = z.toNatClampNeg := List.length_replicate
        rw [List.length_append, List.length_singleton] at hE'
        rw [am_sz_push, hnf] at hS'
        intro hn H locs ls a b d
        refine va_newa (atype := .long) (a0 := (z.toNatClampNeg, .inr (.inl (fun j => (List.replicate z.toNatClampNeg (0 : Int64)).getD j 0)))) hx hb (hts _ (am_gB am_arr_260 rfl)) rfl hKK.1 a.2.1 (am_cW_D Γ es) b (fun q hq => by show am_base Γ ≤ q; omega) (fun cA => by rw [vp_cell_l]; congr 1; funext j; simp [List.getD_eq_getElem?_getD, List.getElem?_replicate]; split <;> rfl) hz0 rfl (Nat.le_trans (Nat.mul_le_mul hz1 (Nat.le_of_ble_eq_true rfl)) (Nat.le_of_ble_eq_true rfl : 1000 * 8 ≤ 536870912)) (by omega) (by omega) hd ?_
        intro q cA H1 hK1 hP1 hD1 hS1
        refine am_up fun hz => ?_
        obtain ⟨hr1, hr2⟩ := hK1.2 0 _ rfl
        have hcA : cA = am_cT Γ .long := by
          have h9 : s.vm.findClass ("[" ++ FieldType.long.toString) = some cA := hr2
          rw [hKK.2.1] at h9
          unfold am_cT
          rw [h9]; rfl
        subst hcA
        obtain rfl := am_born hE hb1 hP1 hD1 hz
        have hW1 : am_Wd Γ (es ++ [.inl (.long, .inr (.inl (List.replicate z.toNatClampNeg (0 : Int64))))]) s H1 := am_Wd.push a (by rw [show am_cE Γ (.inl (.long, .inr (.inl (List.replicate z.toNatClampNeg (0 : Int64))))) = .inl (am_cT Γ .long, (List.replicate z.toNatClampNeg (0 : Int64)).length, .inr (.inl (fun j => (List.replicate z.toNatClampNeg (0 : Int64)).getD j 0))) from rfl, List.length_replicate]; exact hP1) hS1 hb1 hb2 (fun ty a' q => by cases q; exact ⟨hr1, hr2⟩)
        have kk := k hn H1 locs ls hW1 hS1 d
        rw [List.length_append, List.length_singleton, am_sz_push, hnf, show es.length + 1 - E0 = es.length - E0 + 1 by omega, show am_sz es + z.toNatClampNeg - S0 = am_sz es - S0 + z.toNatClampNeg by omega] at kk
        have e1 : am_cV Γ (.ref es.length) = .ref (am_base Γ + es.length) := am_cV_lo (by omega)
        rw [← e1]
        exact kk
      · cases h
  · cases h
theorem sd_anewarray (C : am_Cx p R s m args meth c Γ xs M cc E0) {pc : Nat} {L : am_L} {st : List Value} {es : am_H} {N : Nat × (am_L × (List Value × am_H))} {idx : Nat} (hd : decode cc pc = .ok (.anewarray idx, 3)) (h : am_newq M.1 idx st (pc + 3) L es = some (.inl N)) (hE : E0 ≤ es.length) (hS0 : S0 ≤ am_sz es) (hE' : N.2.2.2.length - E0 ≤ R.cells) (hS' : am_sz N.2.2.2 - S0 ≤ R.slots) (k : am_Wp p l e R s m args below meth c Q Γ M.2.2.1 E0 S0 N.1 N.2.1 N.2.2.1 N.2.2.2) : am_Wp p l e R s m args below meth c Q Γ M.2.2.1 E0 S0 pc L st es := by
  obtain ⟨hx, hb, hml, hown, hts, hKK, hb1, hb2, ho, hini, hfr, hlo⟩ := id C
  unfold am_newq at h
  split at h
  · rename_i z r
    split at h
    · cases h
    · rename_i hc0
      have hz0 : ¬ z < 0 := fun q => hc0 (Or.inl q)
      have hz1 : z.toNatClampNeg ≤ 1000 := Nat.not_lt.mp fun q => hc0 (Or.inr (Or.inl q))
      have hlt : es.length < 1000 := Decidable.byContradiction fun q => hc0 (Or.inr (Or.inr q))
      split at h
      · rename_i ci hs
        split at h
        · rename_i hci0
          obtain rfl := am_nx_inv h
          obtain ⟨hci, hcl⟩ := am_new_ok M.1 _ (am_lk hs)
          dsimp only at hci hcl
          have hover : va_AO (am_cn ci) s := by
            rcases (show ci = 1 ∨ ci = 3 ∨ ci = 5 by simpa using hci0) with rfl | rfl | rfl
            · exact hKK.2.2.2.1 _ am_arr_34
            · exact hKK.2.2.2.1 _ am_arr_204
            · exact hKK.2.2.2.1 _ am_arr_221
          have hnf : am_esz (.inl (.object (am_cn ci), .inr (.inr (List.replicate z.toNatClampNeg none)))) = z.toNatClampNeg := List.length_replicate
          rw [List.length_append, List.length_singleton] at hE'
          rw [am_sz_push, hnf] at hS'
          intro hn H locs ls a b d
          refine va_newq (C := am_cn ci) hx hb hown (hts _ (am_gB hcl rfl)) hover hKK.1 a.2.1 (am_cW_D Γ es) b (fun q hq => by show am_base Γ ≤ q; omega) hz0 rfl (by omega) (by omega) (by omega) hd ?_
          intro q cA H1 hK1 hP1 hD1 hS1
          refine am_up fun hz => ?_
          obtain ⟨hr1, hr2⟩ := hK1.2 0 _ rfl
          have hcA : cA = am_cT Γ (.object (am_cn ci)) := by
            obtain ⟨kA, comp, -, -, -, h9⟩ := hr2
            rw [hKK.2.1] at h9
            unfold am_cT
            rw [h9]; rfl
          subst hcA
          obtain rfl := am_born hE hb1 hP1 hD1 hz
          have hW1 : am_Wd Γ (es ++ [.inl (.object (am_cn ci), .inr (.inr (List.replicate z.toNatClampNeg none)))]) s H1 := am_Wd.push a (by rw [show am_cE Γ (.inl (.object (am_cn ci), .inr (.inr (List.replicate z.toNatClampNeg none)))) = .inl (am_cT Γ (.object (am_cn ci)), (List.replicate z.toNatClampNeg none).length, .inr (.inr (.inr (.inr (fun j => ((List.replicate z.toNatClampNeg none).getD j none).map (fun q => am_base Γ + q)))))) from rfl, List.length_replicate, show (fun j => ((List.replicate z.toNatClampNeg none).getD j none).map (fun q => am_base Γ + q)) = (fun _ => none) by funext j; simp [List.getD_eq_getElem?_getD, List.getElem?_replicate]; split <;> rfl]; exact hP1) hS1 hb1 hb2 (fun ty a' q => by cases q; exact ⟨hr1, hr2⟩)
          have kk := k hn H1 locs ls hW1 hS1 d
          rw [List.length_append, List.length_singleton, am_sz_push, hnf, show es.length + 1 - E0 = es.length - E0 + 1 by omega, show am_sz es + z.toNatClampNeg - S0 = am_sz es - S0 + z.toNatClampNeg by omega] at kk
          have e1 : am_cV Γ (.ref es.length) = .ref (am_base Γ + es.length) := am_cV_lo (by omega)
          rw [← e1]
          exact kk
        · cases h
      · cases h
  · cases h
end ST
