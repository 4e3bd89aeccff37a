def am_Le (c1 c2 : am_C) : Prop := ∀ y av es r, c1 y av es = some r → c2 y av es = some r
theorem am_res_le {r1 r2 : Option am_R} (h : ∀ r, r1 = some r → r2 = some r) {np : Nat} {L : am_L} {rest : List Value} {N : am_N} (hN : am_res r1 np L rest = some N) : am_res r2 np L rest = some N := by
  unfold am_res at hN
  split at hN
  · rename_i v es
    rw [h _ rfl]; exact hN
  · cases hN
theorem am_call1_le {c1 c2 : am_C} (h : am_Le c1 c2) {o idx : Nat} {sp : Bool} {ks : List Nat} {st : List Value} {np : Nat} {L : am_L} {es : am_H} {N : am_N} (hN : am_call1 c1 o idx sp ks st np L es = some N) : am_call1 c2 o idx sp ks st np L es = some N := by
  unfold am_call1 at hN ⊢
  split at hN
  · rename_i k y n hl
    try dsimp only
    split at hN
    · rename_i hk
      rw [if_pos hk]
      unfold am_inv at hN ⊢
      split at hN
      · rename_i hk2
        rw [if_pos hk2]
        split at hN
        · rename_i hk3
          rw [if_pos hk3]
          exact am_res_le (fun r hr => h _ _ _ _ hr) hN
        · cases hN
      · rename_i hk2
        rw [if_neg hk2]
        split at hN
        · rename_i b rest hd
          try dsimp only
          split at hN
          · rename_i hk3
            rw [if_pos hk3]
            exact am_res_le (fun r hr => h _ _ _ _ hr) hN
          · cases hN
        · cases hN
    · rename_i hk
      rw [if_neg hk]
      exact hN
  · cases hN
theorem am_ins_le {xs : List Int32} {c1 c2 : am_C} (h : am_Le c1 c2) {M : am_M} {pc : Nat} {i : Instr} {L : am_L} {st : List Value} {es : am_H} {N : am_N} (hN : am_ins xs c1 M pc i L st es = some N) : am_ins xs c2 M pc i L st es = some N := by
  cases i <;> first | exact am_call1_le h hN | exact hN
theorem am_run_le {xs : List Int32} {c1 c2 : am_C} (h : am_Le c1 c2) {M : am_M} : ∀ (n n' pc : Nat) (L : am_L) (st : List Value) (es : am_H) (r : am_R), n ≤ n' → am_run xs c1 M n pc L st es = some r → am_run xs c2 M n' pc L st es = some r := by
  intro n
  induction n with
  | zero => intro n' pc L st es r _ hr; cases hr
  | succ n ih =>
    intro n' pc L st es r hn hr
    obtain ⟨k, rfl⟩ : ∃ k, n' = k + 1 := ⟨n' - 1, by omega⟩
    unfold am_run at hr ⊢
    split at hr
    · rename_i i len hi
      try dsimp only
      split at hr
      · rename_i pc' L' st' es' hN
        rw [am_ins_le h hN]
        exact ih _ _ _ _ _ _ (by omega) hr
      · rename_i r' hN
        rw [am_ins_le h hN]
        exact hr
      · cases hr
    · cases hr
theorem am_call_le (xs : List Int32) : ∀ (d d' n n' : Nat), d ≤ d' → n ≤ n' → am_Le (am_call xs d n) (am_call xs d' n') := by
  intro d
  induction d with
  | zero => intro d' n n' _ _ y av es r h; cases h
  | succ d ih =>
    intro d' n n' hd hn y av es r h
    obtain ⟨k, rfl⟩ : ∃ k, d' = k + 1 := ⟨d' - 1, by omega⟩
    unfold am_call at h ⊢
    split at h
    · rename_i t ht
      try dsimp only
      split at h
      · rename_i hl
        rw [if_pos hl]
        exact am_run_le (ih k n n' (by omega) hn) _ _ _ _ _ _ _ hn h
      · cases h
    · cases h
theorem am_store_ok {v : Value} {r : List Value} {L L' : am_L} {i np w : Nat} {es : am_H} {ok : Value → Bool} (ho : ok v = true) (hl : i + w ≤ L.length) (hL : am_st L i v = L') : am_store (v :: r) L i np es w ok = some (.inl (np, L', r, es)) := by
  unfold am_store
  dsimp only
  rw [if_pos ⟨ho, hl⟩, hL]
  rfl
theorem am_iinc_ok {st : List Value} {L L' : am_L} {i np : Nat} {n : Int} {es : am_H} {x : Int32} (hl : L[i]? = some (some (.int x))) (hL : am_st L i (.int (x + Int32.ofInt n)) = L') : am_iinc i n st np L es = some (.inl (np, L', st, es)) := by
  unfold am_iinc am_ld
  rw [hl]
  dsimp only
  rw [hL]
  rfl
theorem am_ii_ok {x y : Int32} {r : List Value} {f : Int32 → Int32 → Option Value} {v : Value} {np : Nat} {L : am_L} {es : am_H} (hf : f x y = some v) : am_ii (.int y :: .int x :: r) f np L es = some (.inl (np, L, v :: r, es)) := by
  unfold am_ii
  dsimp only
  rw [hf]
  rfl
theorem am_jj_ok {x y : Int64} {r : List Value} {f : Int64 → Int64 → Option Value} {v : Value} {np : Nat} {L : am_L} {es : am_H} (hf : f x y = some v) : am_jj (.long y :: .long x :: r) f np L es = some (.inl (np, L, v :: r, es)) := by
  unfold am_jj
  dsimp only
  rw [hf]
  rfl
theorem am_dup_ok {v : Value} {r : List Value} {np : Nat} {L : am_L} {es : am_H} (hc : v.category = 1) : am_dup (v :: r) np L es = some (.inl (np, L, v :: v :: r, es)) := by
  unfold am_dup; dsimp only; rw [if_pos hc]; rfl
theorem am_pop_ok {v : Value} {r : List Value} {np : Nat} {L : am_L} {es : am_H} (hc : v.category = 1) : am_pop (v :: r) np L es = some (.inl (np, L, r, es)) := by
  unfold am_pop; dsimp only; rw [if_pos hc]; rfl
theorem am_dupx_ok {v u : Value} {r : List Value} {np : Nat} {L : am_L} {es : am_H} (hc : v.category = 1 ∧ u.category = 1) : am_dupx (v :: u :: r) np L es = some (.inl (np, L, v :: u :: v :: r, es)) := by
  unfold am_dupx; dsimp only; rw [if_pos hc]; rfl
theorem am_dup2_ok {v u : Value} {r : List Value} {np : Nat} {L : am_L} {es : am_H} (hv : v.category = 1) (hu : u.category = 1) : am_dup2 (v :: u :: r) np L es = some (.inl (np, L, v :: u :: v :: u :: r, es)) := by
  unfold am_dup2; dsimp only; rw [if_neg (by omega), if_pos ⟨hu, hv⟩]; rfl
theorem am_conl_ok {o idx np : Nat} {st : List Value} {L : am_L} {es : am_H} {ok : Value → Bool} {v : Value} (hv : (am_con o).lookup idx = some v) (ho : ok v = true) : am_conl o idx st np L es ok = some (.inl (np, L, v :: st, es)) := by
  unfold am_conl; rw [hv]; dsimp only; rw [if_pos ho]; rfl
theorem am_load_ok {st : List Value} {L : am_L} {i np : Nat} {es : am_H} {ok : Value → Bool} {v : Value} (hl : L[i]? = some (some v)) (ho : ok v = true) : am_load st L i np es ok = some (.inl (np, L, v :: st, es)) := by
  unfold am_load am_ld; rw [hl]; dsimp only; rw [if_pos ho]; rfl
theorem am_condT {cd : ClassFile.Cond} {x y : Int32} {pc t : Nat} {off : Int} {L : am_L} {st : List Value} {es : am_H} (hj : am_jmp pc off = some t) (hc : am_cmp cd x y = true) : am_cond cd x y pc off L st es = some (.inl (t, L, st, es)) := by
  unfold am_cond; rw [hj]; dsimp only; rw [if_pos hc]; rfl
theorem am_condF {cd : ClassFile.Cond} {x y : Int32} {pc t : Nat} {off : Int} {L : am_L} {st : List Value} {es : am_H} (hj : am_jmp pc off = some t) (hc : am_cmp cd x y = false) : am_cond cd x y pc off L st es = some (.inl (pc + 3, L, st, es)) := by
  unfold am_cond; rw [hj]; dsimp only; rw [if_neg (by rw [hc]; exact Bool.false_ne_true)]; rfl
theorem am_nulR {a : Nat} {r : List Value} {want : Bool} {pc : Nat} {off : Int} {L : am_L} {es : am_H} (ha : a < 1000005) : am_nul (.ref a :: r) want pc off L es = if want = true then am_nx (pc + 3) L r es else am_go pc off L r es := by
  unfold am_nul
  dsimp only
  exact if_neg (Nat.not_le.mpr ha)
theorem am_tswO {dd lo hi : Int} {offs : Array Int} {pc : Nat} {x : Int32} {r : List Value} {L : am_L} {es : am_H} (hc : x.toInt < lo ∨ hi < x.toInt) : am_tsw dd lo hi offs pc (.int x :: r) L es = am_go pc dd L r es := by
  unfold am_tsw; dsimp only; rw [if_pos hc]
theorem am_tswI {dd lo hi off : Int} {offs : Array Int} {pc : Nat} {x : Int32} {r : List Value} {L : am_L} {es : am_H} (hc : ¬ (x.toInt < lo ∨ hi < x.toInt)) (ho : offs[(x.toInt - lo).toNat]? = some off) : am_tsw dd lo hi offs pc (.int x :: r) L es = am_go pc off L r es := by
  unfold am_tsw; dsimp only; rw [if_neg hc, ho]
theorem am_lswI {dd off : Int} {ps : Array (Int × Int)} {pc : Nat} {x : Int32} {r : List Value} {L : am_L} {es : am_H} (hs : (ps.toList.zip (ps.toList.drop 1)).all (fun (a, next) => a.1 < next.1) = true) (ho : Op.lookupswitch.offset ps.toList dd x.toInt = off) : am_lsw dd ps pc (.int x :: r) L es = am_go pc off L r es := by
  unfold am_lsw; dsimp only; rw [if_pos hs, ho]
abbrev am_Q : Type := Option Value → am_Mm → Prop
def am_V (xs : List Int32) (d y : Nat) (av : List Value) (m : am_Mm) (Q : am_Q) : Prop := ∃ (n : Nat) (v : Option Value) (m' : am_Mm), am_call xs d n y av (am_rep m) = some (v, am_rep m') ∧ Q v m'
def am_P (xs : List Int32) (d : Nat) (M : am_M) (pc : Nat) (L : am_L) (st : List Value) (m : am_Mm) (Q : am_Q) : Prop := ∃ (n : Nat) (v : Option Value) (m' : am_Mm), am_run xs (am_call xs d n) M n pc L st (am_rep m) = some (v, am_rep m') ∧ Q v m'
theorem am_V.up {xs : List Int32} {d d' y : Nat} {av : List Value} {m : am_Mm} {Q : am_Q} (h : am_V xs d y av m Q) (hd : d ≤ d') : am_V xs d' y av m Q := by
  obtain ⟨n, v, m', h1, h2⟩ := h
  exact ⟨n, v, m', am_call_le xs d d' n n hd (Nat.le_refl _) _ _ _ _ h1, h2⟩
theorem am_V.mono {xs : List Int32} {d y : Nat} {av : List Value} {m : am_Mm} {Q Q' : am_Q} (h : am_V xs d y av m Q) (hQ : ∀ v m', Q v m' → Q' v m') : am_V xs d y av m Q' := by
  obtain ⟨n, v, m', h1, h2⟩ := h
  exact ⟨n, v, m', h1, hQ v m' h2⟩
theorem am_P.mono {xs : List Int32} {d : Nat} {M : am_M} {pc : Nat} {L : am_L} {st : List Value} {m : am_Mm} {Q Q' : am_Q} (h : am_P xs d M pc L st m Q) (hQ : ∀ v m', Q v m' → Q' v m') : am_P xs d M pc L st m Q' := by
  obtain ⟨n, v, m', h1, h2⟩ := h
  exact ⟨n, v, m', h1, hQ v m' h2⟩
section WR
variable {xs : List Int32} {d : Nat} {M : am_M} {pc pc' : Nat} {L : am_L} {st r : List Value} {m m' : am_Mm} {Q : am_Q}
theorem am_P_go {i : Instr} {len : Nat} {L' : am_L} {st' : List Value} (h : am_at M pc = some (i, len)) (hs : ∀ cl, am_ins xs cl M pc i L st (am_rep m) = some (.inl (pc', L', st', am_rep m'))) (k : am_P xs d M pc' L' st' m' Q) : am_P xs d M pc L st m Q := by
  obtain ⟨n, v, m2, h2, hq⟩ := k
  refine ⟨n + 1, v, m2, ?_, hq⟩
  unfold am_run
  rw [h]
  dsimp only
  rw [hs]
  exact am_run_le (am_call_le xs d d n (n + 1) (Nat.le_refl _) (Nat.le_succ _)) _ _ _ _ _ _ _ (Nat.le_refl _) h2
theorem am_P_ret {i : Instr} {len : Nat} {v : Option Value} (h : am_at M pc = some (i, len)) (hs : ∀ cl, am_ins xs cl M pc i L st (am_rep m) = some (.inr (v, am_rep m))) (hq : Q v m) : am_P xs d M pc L st m Q := by
  refine ⟨1, v, m, ?_, hq⟩
  unfold am_run
  rw [h]
  dsimp only
  rw [hs]
theorem am_P_cal {i : Instr} {len idx y k n : Nat} {sp : Bool} {ks : List Nat} {av rest : List Value} {Q' : am_Q} (h : am_at M pc = some (i, len)) (hi : ∀ cl, am_ins xs cl M pc i L st (am_rep m) = am_call1 cl M.1 idx sp ks st (pc + 3) L (am_rep m)) (hp : pc + 3 = pc') (hm : (am_mt M.1).lookup idx = some (k, y, n)) (hk : k ∈ ks)
    (hc : ∀ cl, am_inv cl k y n st (pc + 3) L (am_rep m) = am_res (cl y av (am_rep m)) (pc + 3) L rest)
    (hv : am_V xs d y av m Q') (kk : ∀ v m', Q' v m' → am_P xs d M pc' L (v.toList ++ rest) m' Q) : am_P xs d M pc L st m Q := by
  obtain ⟨n1, v1, m1, h1, q1⟩ := hv
  obtain ⟨n2, v2, m2, h2, q2⟩ := kk v1 m1 q1
  subst hp
  refine ⟨n1 + n2 + 1, v2, m2, ?_, q2⟩
  unfold am_run
  rw [h]
  dsimp only
  rw [hi]
  unfold am_call1
  rw [hm]
  dsimp only
  rw [if_pos hk, hc, am_call_le xs d d n1 (n1 + n2 + 1) (Nat.le_refl _) (by omega) _ _ _ _ h1]
  exact am_run_le (am_call_le xs d d n2 (n1 + n2 + 1) (Nat.le_refl _) (by omega)) _ _ _ _ _ _ _ (by omega) h2
theorem am_V_of {y : Nat} {av : List Value} {t : MethodName × (ByteArray × am_M)} (ht : am_ms[y]? = some t) (hl : (am_arg av).length ≤ t.2.2.2.2.1) (k : am_P xs d t.2.2 0 (am_ini t.2.2.2.2.1 av) [] m Q) : am_V xs (d + 1) y av m Q := by
  obtain ⟨n, v, m', h1, h2⟩ := k
  refine ⟨n, v, m', ?_, h2⟩
  unfold am_call
  rw [ht]
  dsimp only
  rw [if_pos hl]
  exact h1
theorem am_jI {t : Nat} {off : Int} (h : am_jmp pc off = some t) {es : am_H} : am_go pc off L st es = some (.inl (t, L, st, es)) := by
  unfold am_go; rw [h]; rfl
theorem w_iconst {n : Int} (v : Int32) (h : am_at M pc = some (.iconst n, 1)) (hp : pc + 1 = pc') (hv : Int32.ofInt n = v) (k : am_P xs d M pc' L (.int v :: st) m Q) : am_P xs d M pc L st m Q := by
  subst hp
  exact am_P_go (L' := L) (st' := (.int v :: st)) (m' := m) h (fun cl => by subst hv; rfl) k
theorem w_bipush {n : Int} (v : Int32) (h : am_at M pc = some (.bipush n, 2)) (hp : pc + 2 = pc') (hv : (Int8.ofInt n).toInt32 = v) (k : am_P xs d M pc' L (.int v :: st) m Q) : am_P xs d M pc L st m Q := by
  subst hp
  exact am_P_go (L' := L) (st' := (.int v :: st)) (m' := m) h (fun cl => by subst hv; rfl) k
theorem w_sipush {n : Int} (v : Int32) (h : am_at M pc = some (.sipush n, 3)) (hp : pc + 3 = pc') (hv : (Int16.ofInt n).toInt32 = v) (k : am_P xs d M pc' L (.int v :: st) m Q) : am_P xs d M pc L st m Q := by
  subst hp
  exact am_P_go (L' := L) (st' := (.int v :: st)) (m' := m) h (fun cl => by subst hv; rfl) k
theorem w_lconst {n : Fin 2} (v : Int64) (h : am_at M pc = some (.lconst n, 1)) (hp : pc + 1 = pc') (hv : Int64.ofNat (n : Nat) = v) (k : am_P xs d M pc' L (.long v :: st) m Q) : am_P xs d M pc L st m Q := by
  subst hp
  exact am_P_go (L' := L) (st' := (.long v :: st)) (m' := m) h (fun cl => by subst hv; rfl) k
theorem w_null  (h : am_at M pc = some (.aconst_null, 1)) (hp : pc + 1 = pc') (k : am_P xs d M pc' L (.null :: st) m Q) : am_P xs d M pc L st m Q := by
  subst hp
  exact am_P_go (L' := L) (st' := (.null :: st)) (m' := m) h (fun cl => rfl) k
theorem w_ldc {idx : Nat} {v : Value} (h : am_at M pc = some (.ldc idx, 2)) (hp : pc + 2 = pc') (hv : (am_con M.1).lookup idx = some v) (ho : (am_isI v || am_isA v) = true) (k : am_P xs d M pc' L (v :: st) m Q) : am_P xs d M pc L st m Q := by
  subst hp
  exact am_P_go (L' := L) (st' := (v :: st)) (m' := m) h (fun cl => by unfold am_ins; exact am_conl_ok hv ho) k
theorem w_ldc_w {idx : Nat} {v : Value} (h : am_at M pc = some (.ldc_w idx, 3)) (hp : pc + 3 = pc') (hv : (am_con M.1).lookup idx = some v) (ho : am_isI v = true) (k : am_P xs d M pc' L (v :: st) m Q) : am_P xs d M pc L st m Q := by
  subst hp
  exact am_P_go (L' := L) (st' := (v :: st)) (m' := m) h (fun cl => by unfold am_ins; exact am_conl_ok hv ho) k
theorem w_ldc2_w {idx : Nat} {v : Value} (h : am_at M pc = some (.ldc2_w idx, 3)) (hp : pc + 3 = pc') (hv : (am_con M.1).lookup idx = some v) (ho : am_isJ v = true) (k : am_P xs d M pc' L (v :: st) m Q) : am_P xs d M pc L st m Q := by
  subst hp
  exact am_P_go (L' := L) (st' := (v :: st)) (m' := m) h (fun cl => by unfold am_ins; exact am_conl_ok hv ho) k
theorem w_iload_n {n : Fin 4} {x : Int32} (h : am_at M pc = some (.iload_n n, 1)) (hp : pc + 1 = pc') (hl : L[(n : Nat)]? = some (some (.int x))) (k : am_P xs d M pc' L (.int x :: st) m Q) : am_P xs d M pc L st m Q := by
  subst hp
  exact am_P_go (L' := L) (st' := (.int x :: st)) (m' := m) h (fun cl => by unfold am_ins; exact am_load_ok hl rfl) k
theorem w_iload {n : Nat} {x : Int32} (h : am_at M pc = some (.iload n, 2)) (hp : pc + 2 = pc') (hl : L[n]? = some (some (.int x))) (k : am_P xs d M pc' L (.int x :: st) m Q) : am_P xs d M pc L st m Q := by
  subst hp
  exact am_P_go (L' := L) (st' := (.int x :: st)) (m' := m) h (fun cl => by unfold am_ins; exact am_load_ok hl rfl) k
theorem w_lload_n {n : Fin 4} {x : Int64} (h : am_at M pc = some (.lload_n n, 1)) (hp : pc + 1 = pc') (hl : L[(n : Nat)]? = some (some (.long x))) (k : am_P xs d M pc' L (.long x :: st) m Q) : am_P xs d M pc L st m Q := by
  subst hp
  exact am_P_go (L' := L) (st' := (.long x :: st)) (m' := m) h (fun cl => by unfold am_ins; exact am_load_ok hl rfl) k
theorem w_lload {n : Nat} {x : Int64} (h : am_at M pc = some (.lload n, 2)) (hp : pc + 2 = pc') (hl : L[n]? = some (some (.long x))) (k : am_P xs d M pc' L (.long x :: st) m Q) : am_P xs d M pc L st m Q := by
  subst hp
  exact am_P_go (L' := L) (st' := (.long x :: st)) (m' := m) h (fun cl => by unfold am_ins; exact am_load_ok hl rfl) k
theorem w_aload_n {n : Fin 4} {v : Value} (h : am_at M pc = some (.aload_n n, 1)) (hp : pc + 1 = pc') (hl : L[(n : Nat)]? = some (some v)) (ho : am_isA v = true) (k : am_P xs d M pc' L (v :: st) m Q) : am_P xs d M pc L st m Q := by
  subst hp
  exact am_P_go (L' := L) (st' := (v :: st)) (m' := m) h (fun cl => by unfold am_ins; exact am_load_ok hl ho) k
theorem w_aload {n : Nat} {v : Value} (h : am_at M pc = some (.aload n, 2)) (hp : pc + 2 = pc') (hl : L[n]? = some (some v)) (ho : am_isA v = true) (k : am_P xs d M pc' L (v :: st) m Q) : am_P xs d M pc L st m Q := by
  subst hp
  exact am_P_go (L' := L) (st' := (v :: st)) (m' := m) h (fun cl => by unfold am_ins; exact am_load_ok hl ho) k
def am_n2 (a : Option Value) : Bool := match a with
  | some v => decide (¬ v.category = 2)
  | none => true
theorem am_st_1 {L : am_L} {i : Nat} {v : Value} (hc : v.category = 1) (hn : i = 0 ∨ ∃ a, L[i - 1]? = some a ∧ am_n2 a = true) : am_st L i v = L.set i (some v) := by
  unfold am_st
  rw [if_neg (by omega)]
  congr 1
  unfold am_cl1
  split
  · rfl
  · rename_i j
    rcases hn with h | ⟨a, h1, h2⟩
    · cases h
    · have h1 : L[j]? = some a := h1
      rw [h1]
      cases a with
      | none => rfl
      | some u =>
        have h3 : ¬ u.category = 2 := of_decide_eq_true h2
        dsimp only
        rw [if_neg h3]
theorem am_st_2 {L : am_L} {i : Nat} {v : Value} (hc : v.category = 2) (hn : i = 0 ∨ ∃ a, L[i - 1]? = some a ∧ am_n2 a = true) : am_st L i v = (L.set i (some v)).set (i + 1) none := by
  unfold am_st
  rw [if_pos hc]
  congr 2
  unfold am_cl1
  split
  · rfl
  · rename_i j
    rcases hn with h | ⟨a, h1, h2⟩
    · cases h
    · have h1 : L[j]? = some a := h1
      rw [h1]
      cases a with
      | none => rfl
      | some u =>
        have h3 : ¬ u.category = 2 := of_decide_eq_true h2
        dsimp only
        rw [if_neg h3]
theorem w_ist0 {a0 : Option Value} {T : am_L} {x : Int32} (h : am_at M pc = some (.istore_n 0, 1)) (hp : pc + 1 = pc') (k : am_P xs d M pc' (some (.int x) :: T) r m Q) : am_P xs d M pc (a0 :: T) (.int x :: r) m Q := by
  subst hp
  exact am_P_go (L' := (some (.int x) :: T)) (st' := r) (m' := m) h (fun cl => by unfold am_ins; exact am_store_ok (i := 0) rfl (by simp only [List.length_cons]; omega) (am_st_1 rfl (Or.inl rfl))) k
theorem w_ast0 {a0 : Option Value} {T : am_L} {v : Value} (h : am_at M pc = some (.astore_n 0, 1)) (hp : pc + 1 = pc') (ho : am_isA v = true) (k : am_P xs d M pc' (some v :: T) r m Q) : am_P xs d M pc (a0 :: T) (v :: r) m Q := by
  subst hp
  have hc : v.category = 1 := by rcases am_isA_inv ho with rfl | ⟨x, rfl⟩ <;> rfl
  exact am_P_go (L' := (some v :: T)) (st' := r) (m' := m) h (fun cl => by unfold am_ins; exact am_store_ok (i := 0) ho (by simp only [List.length_cons]; omega) (am_st_1 hc (Or.inl rfl))) k
theorem w_lst0 {a0 b : Option Value} {T : am_L} {x : Int64} (h : am_at M pc = some (.lstore_n 0, 1)) (hp : pc + 1 = pc') (k : am_P xs d M pc' (some (.long x) :: none :: T) r m Q) : am_P xs d M pc (a0 :: b :: T) (.long x :: r) m Q := by
  subst hp
  exact am_P_go (L' := (some (.long x) :: none :: T)) (st' := r) (m' := m) h (fun cl => by unfold am_ins; exact am_store_ok (i := 0) rfl (by simp only [List.length_cons]; omega) (am_st_2 rfl (Or.inl rfl))) k
theorem w_iinc0 {zz : Option Value} {T : am_L} {n : Int} {x : Int32} (v : Int32) (h : am_at M pc = some (.iinc 0 n, 3)) (hp : pc + 3 = pc') (hv : Int32.ofInt n = v) (k : am_P xs d M pc' (some (.int (x + Int32.ofInt n)) :: T) st m Q) : am_P xs d M pc (some (.int x) :: T) st m Q := by
  subst hp
  subst hv
  exact am_P_go (L' := (some (.int (x + Int32.ofInt n)) :: T)) (st' := st) (m' := m) h (fun cl => by unfold am_ins; exact am_iinc_ok (i := 0) (x := x) rfl (am_st_1 rfl (Or.inl rfl))) k
theorem w_ist1 {a0 a1 : Option Value} {T : am_L} {x : Int32} (h : am_at M pc = some (.istore_n 1, 1)) (hp : pc + 1 = pc') (hn : am_n2 a0 = true) (k : am_P xs d M pc' (a0 :: some (.int x) :: T) r m Q) : am_P xs d M pc (a0 :: a1 :: T) (.int x :: r) m Q := by
  subst hp
  exact am_P_go (L' := (a0 :: some (.int x) :: T)) (st' := r) (m' := m) h (fun cl => by unfold am_ins; exact am_store_ok (i := 1) rfl (by simp only [List.length_cons]; omega) (am_st_1 rfl (Or.inr ⟨a0, rfl, hn⟩))) k
theorem w_ast1 {a0 a1 : Option Value} {T : am_L} {v : Value} (h : am_at M pc = some (.astore_n 1, 1)) (hp : pc + 1 = pc') (ho : am_isA v = true) (hn : am_n2 a0 = true) (k : am_P xs d M pc' (a0 :: some v :: T) r m Q) : am_P xs d M pc (a0 :: a1 :: T) (v :: r) m Q := by
  subst hp
  have hc : v.category = 1 := by rcases am_isA_inv ho with rfl | ⟨x, rfl⟩ <;> rfl
  exact am_P_go (L' := (a0 :: some v :: T)) (st' := r) (m' := m) h (fun cl => by unfold am_ins; exact am_store_ok (i := 1) ho (by simp only [List.length_cons]; omega) (am_st_1 hc (Or.inr ⟨a0, rfl, hn⟩))) k
theorem w_lst1 {a0 a1 b : Option Value} {T : am_L} {x : Int64} (h : am_at M pc = some (.lstore_n 1, 1)) (hp : pc + 1 = pc') (hn : am_n2 a0 = true) (k : am_P xs d M pc' (a0 :: some (.long x) :: none :: T) r m Q) : am_P xs d M pc (a0 :: a1 :: b :: T) (.long x :: r) m Q := by
  subst hp
  exact am_P_go (L' := (a0 :: some (.long x) :: none :: T)) (st' := r) (m' := m) h (fun cl => by unfold am_ins; exact am_store_ok (i := 1) rfl (by simp only [List.length_cons]; omega) (am_st_2 rfl (Or.inr ⟨a0, rfl, hn⟩))) k
theorem w_iinc1 {a0 : Option Value} {T : am_L} {n : Int} {x : Int32} (v : Int32) (h : am_at M pc = some (.iinc 1 n, 3)) (hp : pc + 3 = pc') (hv : Int32.ofInt n = v) (hn : am_n2 a0 = true) (k : am_P xs d M pc' (a0 :: some (.int (x + Int32.ofInt n)) :: T) st m Q) : am_P xs d M pc (a0 :: some (.int x) :: T) st m Q := by
  subst hp
  subst hv
  exact am_P_go (L' := (a0 :: some (.int (x + Int32.ofInt n)) :: T)) (st' := st) (m' := m) h (fun cl => by unfold am_ins; exact am_iinc_ok (i := 1) (x := x) rfl (am_st_1 rfl (Or.inr ⟨a0, rfl, hn⟩))) k
theorem w_ist2 {a0 a1 a2 : Option Value} {T : am_L} {x : Int32} (h : am_at M pc = some (.istore_n 2, 1)) (hp : pc + 1 = pc') (hn : am_n2 a1 = true) (k : am_P xs d M pc' (a0 :: a1 :: some (.int x) :: T) r m Q) : am_P xs d M pc (a0 :: a1 :: a2 :: T) (.int x :: r) m Q := by
  subst hp
  exact am_P_go (L' := (a0 :: a1 :: some (.int x) :: T)) (st' := r) (m' := m) h (fun cl => by unfold am_ins; exact am_store_ok (i := 2) rfl (by simp only [List.length_cons]; omega) (am_st_1 rfl (Or.inr ⟨a1, rfl, hn⟩))) k
theorem w_ast2 {a0 a1 a2 : Option Value} {T : am_L} {v : Value} (h : am_at M pc = some (.astore_n 2, 1)) (hp : pc + 1 = pc') (ho : am_isA v = true) (hn : am_n2 a1 = true) (k : am_P xs d M pc' (a0 :: a1 :: some v :: T) r m Q) : am_P xs d M pc (a0 :: a1 :: a2 :: T) (v :: r) m Q := by
  subst hp
  have hc : v.category = 1 := by rcases am_isA_inv ho with rfl | ⟨x, rfl⟩ <;> rfl
  exact am_P_go (L' := (a0 :: a1 :: some v :: T)) (st' := r) (m' := m) h (fun cl => by unfold am_ins; exact am_store_ok (i := 2) ho (by simp only [List.length_cons]; omega) (am_st_1 hc (Or.inr ⟨a1, rfl, hn⟩))) k
theorem w_lst2 {a0 a1 a2 b : Option Value} {T : am_L} {x : Int64} (h : am_at M pc = some (.lstore_n 2, 1)) (hp : pc + 1 = pc') (hn : am_n2 a1 = true) (k : am_P xs d M pc' (a0 :: a1 :: some (.long x) :: none :: T) r m Q) : am_P xs d M pc (a0 :: a1 :: a2 :: b :: T) (.long x :: r) m Q := by
  subst hp
  exact am_P_go (L' := (a0 :: a1 :: some (.long x) :: none :: T)) (st' := r) (m' := m) h (fun cl => by unfold am_ins; exact am_store_ok (i := 2) rfl (by simp only [List.length_cons]; omega) (am_st_2 rfl (Or.inr ⟨a1, rfl, hn⟩))) k
theorem w_iinc2 {a0 a1 : Option Value} {T : am_L} {n : Int} {x : Int32} (v : Int32) (h : am_at M pc = some (.iinc 2 n, 3)) (hp : pc + 3 = pc') (hv : Int32.ofInt n = v) (hn : am_n2 a1 = true) (k : am_P xs d M pc' (a0 :: a1 :: some (.int (x + Int32.ofInt n)) :: T) st m Q) : am_P xs d M pc (a0 :: a1 :: some (.int x) :: T) st m Q := by
  subst hp
  subst hv
  exact am_P_go (L' := (a0 :: a1 :: some (.int (x + Int32.ofInt n)) :: T)) (st' := st) (m' := m) h (fun cl => by unfold am_ins; exact am_iinc_ok (i := 2) (x := x) rfl (am_st_1 rfl (Or.inr ⟨a1, rfl, hn⟩))) k
theorem w_ist3 {a0 a1 a2 a3 : Option Value} {T : am_L} {x : Int32} (h : am_at M pc = some (.istore_n 3, 1)) (hp : pc + 1 = pc') (hn : am_n2 a2 = true) (k : am_P xs d M pc' (a0 :: a1 :: a2 :: some (.int x) :: T) r m Q) : am_P xs d M pc (a0 :: a1 :: a2 :: a3 :: T) (.int x :: r) m Q := by
  subst hp
  exact am_P_go (L' := (a0 :: a1 :: a2 :: some (.int x) :: T)) (st' := r) (m' := m) h (fun cl => by unfold am_ins; exact am_store_ok (i := 3) rfl (by simp only [List.length_cons]; omega) (am_st_1 rfl (Or.inr ⟨a2, rfl, hn⟩))) k
theorem w_ast3 {a0 a1 a2 a3 : Option Value} {T : am_L} {v : Value} (h : am_at M pc = some (.astore_n 3, 1)) (hp : pc + 1 = pc') (ho : am_isA v = true) (hn : am_n2 a2 = true) (k : am_P xs d M pc' (a0 :: a1 :: a2 :: some v :: T) r m Q) : am_P xs d M pc (a0 :: a1 :: a2 :: a3 :: T) (v :: r) m Q := by
  subst hp
  have hc : v.category = 1 := by rcases am_isA_inv ho with rfl | ⟨x, rfl⟩ <;> rfl
  exact am_P_go (L' := (a0 :: a1 :: a2 :: some v :: T)) (st' := r) (m' := m) h (fun cl => by unfold am_ins; exact am_store_ok (i := 3) ho (by simp only [List.length_cons]; omega) (am_st_1 hc (Or.inr ⟨a2, rfl, hn⟩))) k
theorem w_lst3 {a0 a1 a2 a3 b : Option Value} {T : am_L} {x : Int64} (h : am_at M pc = some (.lstore_n 3, 1)) (hp : pc + 1 = pc') (hn : am_n2 a2 = true) (k : am_P xs d M pc' (a0 :: a1 :: a2 :: some (.long x) :: none :: T) r m Q) : am_P xs d M pc (a0 :: a1 :: a2 :: a3 :: b :: T) (.long x :: r) m Q := by
  subst hp
  exact am_P_go (L' := (a0 :: a1 :: a2 :: some (.long x) :: none :: T)) (st' := r) (m' := m) h (fun cl => by unfold am_ins; exact am_store_ok (i := 3) rfl (by simp only [List.length_cons]; omega) (am_st_2 rfl (Or.inr ⟨a2, rfl, hn⟩))) k
theorem w_iinc3 {a0 a1 a2 : Option Value} {T : am_L} {n : Int} {x : Int32} (v : Int32) (h : am_at M pc = some (.iinc 3 n, 3)) (hp : pc + 3 = pc') (hv : Int32.ofInt n = v) (hn : am_n2 a2 = true) (k : am_P xs d M pc' (a0 :: a1 :: a2 :: some (.int (x + Int32.ofInt n)) :: T) st m Q) : am_P xs d M pc (a0 :: a1 :: a2 :: some (.int x) :: T) st m Q := by
  subst hp
  subst hv
  exact am_P_go (L' := (a0 :: a1 :: a2 :: some (.int (x + Int32.ofInt n)) :: T)) (st' := st) (m' := m) h (fun cl => by unfold am_ins; exact am_iinc_ok (i := 3) (x := x) rfl (am_st_1 rfl (Or.inr ⟨a2, rfl, hn⟩))) k
theorem w_ist4 {a0 a1 a2 a3 a4 : Option Value} {T : am_L} {x : Int32} (h : am_at M pc = some (.istore 4, 2)) (hp : pc + 2 = pc') (hn : am_n2 a3 = true) (k : am_P xs d M pc' (a0 :: a1 :: a2 :: a3 :: some (.int x) :: T) r m Q) : am_P xs d M pc (a0 :: a1 :: a2 :: a3 :: a4 :: T) (.int x :: r) m Q := by
  subst hp
  exact am_P_go (L' := (a0 :: a1 :: a2 :: a3 :: some (.int x) :: T)) (st' := r) (m' := m) h (fun cl => by unfold am_ins; exact am_store_ok (i := 4) rfl (by simp only [List.length_cons]; omega) (am_st_1 rfl (Or.inr ⟨a3, rfl, hn⟩))) k
theorem w_ast4 {a0 a1 a2 a3 a4 : Option Value} {T : am_L} {v : Value} (h : am_at M pc = some (.astore 4, 2)) (hp : pc + 2 = pc') (ho : am_isA v = true) (hn : am_n2 a3 = true) (k : am_P xs d M pc' (a0 :: a1 :: a2 :: a3 :: some v :: T) r m Q) : am_P xs d M pc (a0 :: a1 :: a2 :: a3 :: a4 :: T) (v :: r) m Q := by
  subst hp
  have hc : v.category = 1 := by rcases am_isA_inv ho with rfl | ⟨x, rfl⟩ <;> rfl
  exact am_P_go (L' := (a0 :: a1 :: a2 :: a3 :: some v :: T)) (st' := r) (m' := m) h (fun cl => by unfold am_ins; exact am_store_ok (i := 4) ho (by simp only [List.length_cons]; omega) (am_st_1 hc (Or.inr ⟨a3, rfl, hn⟩))) k
theorem w_lst4 {a0 a1 a2 a3 a4 b : Option Value} {T : am_L} {x : Int64} (h : am_at M pc = some (.lstore 4, 2)) (hp : pc + 2 = pc') (hn : am_n2 a3 = true) (k : am_P xs d M pc' (a0 :: a1 :: a2 :: a3 :: some (.long x) :: none :: T) r m Q) : am_P xs d M pc (a0 :: a1 :: a2 :: a3 :: a4 :: b :: T) (.long x :: r) m Q := by
  subst hp
  exact am_P_go (L' := (a0 :: a1 :: a2 :: a3 :: some (.long x) :: none :: T)) (st' := r) (m' := m) h (fun cl => by unfold am_ins; exact am_store_ok (i := 4) rfl (by simp only [List.length_cons]; omega) (am_st_2 rfl (Or.inr ⟨a3, rfl, hn⟩))) k
theorem w_iinc4 {a0 a1 a2 a3 : Option Value} {T : am_L} {n : Int} {x : Int32} (v : Int32) (h : am_at M pc = some (.iinc 4 n, 3)) (hp : pc + 3 = pc') (hv : Int32.ofInt n = v) (hn : am_n2 a3 = true) (k : am_P xs d M pc' (a0 :: a1 :: a2 :: a3 :: some (.int (x + Int32.ofInt n)) :: T) st m Q) : am_P xs d M pc (a0 :: a1 :: a2 :: a3 :: some (.int x) :: T) st m Q := by
  subst hp
  subst hv
  exact am_P_go (L' := (a0 :: a1 :: a2 :: a3 :: some (.int (x + Int32.ofInt n)) :: T)) (st' := st) (m' := m) h (fun cl => by unfold am_ins; exact am_iinc_ok (i := 4) (x := x) rfl (am_st_1 rfl (Or.inr ⟨a3, rfl, hn⟩))) k
theorem w_ist5 {a0 a1 a2 a3 a4 a5 : Option Value} {T : am_L} {x : Int32} (h : am_at M pc = some (.istore 5, 2)) (hp : pc + 2 = pc') (hn : am_n2 a4 = true) (k : am_P xs d M pc' (a0 :: a1 :: a2 :: a3 :: a4 :: some (.int x) :: T) r m Q) : am_P xs d M pc (a0 :: a1 :: a2 :: a3 :: a4 :: a5 :: T) (.int x :: r) m Q := by
  subst hp
  exact am_P_go (L' := (a0 :: a1 :: a2 :: a3 :: a4 :: some (.int x) :: T)) (st' := r) (m' := m) h (fun cl => by unfold am_ins; exact am_store_ok (i := 5) rfl (by simp only [List.length_cons]; omega) (am_st_1 rfl (Or.inr ⟨a4, rfl, hn⟩))) k
theorem w_ast5 {a0 a1 a2 a3 a4 a5 : Option Value} {T : am_L} {v : Value} (h : am_at M pc = some (.astore 5, 2)) (hp : pc + 2 = pc') (ho : am_isA v = true) (hn : am_n2 a4 = true) (k : am_P xs d M pc' (a0 :: a1 :: a2 :: a3 :: a4 :: some v :: T) r m Q) : am_P xs d M pc (a0 :: a1 :: a2 :: a3 :: a4 :: a5 :: T) (v :: r) m Q := by
  subst hp
  have hc : v.category = 1 := by rcases am_isA_inv ho with rfl | ⟨x, rfl⟩ <;> rfl
  exact am_P_go (L' := (a0 :: a1 :: a2 :: a3 :: a4 :: some v :: T)) (st' := r) (m' := m) h (fun cl => by unfold am_ins; exact am_store_ok (i := 5) ho (by simp only [List.length_cons]; omega) (am_st_1 hc (Or.inr ⟨a4, rfl, hn⟩))) k
theorem w_lst5 {a0 a1 a2 a3 a4 a5 b : Option Value} {T : am_L} {x : Int64} (h : am_at M pc = some (.lstore 5, 2)) (hp : pc + 2 = pc') (hn : am_n2 a4 = true) (k : am_P xs d M pc' (a0 :: a1 :: a2 :: a3 :: a4 :: some (.long x) :: none :: T) r m Q) : am_P xs d M pc (a0 :: a1 :: a2 :: a3 :: a4 :: a5 :: b :: T) (.long x :: r) m Q := by
  subst hp
  exact am_P_go (L' := (a0 :: a1 :: a2 :: a3 :: a4 :: some (.long x) :: none :: T)) (st' := r) (m' := m) h (fun cl => by unfold am_ins; exact am_store_ok (i := 5) rfl (by simp only [List.length_cons]; omega) (am_st_2 rfl (Or.inr ⟨a4, rfl, hn⟩))) k
theorem w_iinc5 {a0 a1 a2 a3 a4 : Option Value} {T : am_L} {n : Int} {x : Int32} (v : Int32) (h : am_at M pc = some (.iinc 5 n, 3)) (hp : pc + 3 = pc') (hv : Int32.ofInt n = v) (hn : am_n2 a4 = true) (k : am_P xs d M pc' (a0 :: a1 :: a2 :: a3 :: a4 :: some (.int (x + Int32.ofInt n)) :: T) st m Q) : am_P xs d M pc (a0 :: a1 :: a2 :: a3 :: a4 :: some (.int x) :: T) st m Q := by
  subst hp
  subst hv
  exact am_P_go (L' := (a0 :: a1 :: a2 :: a3 :: a4 :: some (.int (x + Int32.ofInt n)) :: T)) (st' := st) (m' := m) h (fun cl => by unfold am_ins; exact am_iinc_ok (i := 5) (x := x) rfl (am_st_1 rfl (Or.inr ⟨a4, rfl, hn⟩))) k
theorem w_ist6 {a0 a1 a2 a3 a4 a5 a6 : Option Value} {T : am_L} {x : Int32} (h : am_at M pc = some (.istore 6, 2)) (hp : pc + 2 = pc') (hn : am_n2 a5 = true) (k : am_P xs d M pc' (a0 :: a1 :: a2 :: a3 :: a4 :: a5 :: some (.int x) :: T) r m Q) : am_P xs d M pc (a0 :: a1 :: a2 :: a3 :: a4 :: a5 :: a6 :: T) (.int x :: r) m Q := by
  subst hp
  exact am_P_go (L' := (a0 :: a1 :: a2 :: a3 :: a4 :: a5 :: some (.int x) :: T)) (st' := r) (m' := m) h (fun cl => by unfold am_ins; exact am_store_ok (i := 6) rfl (by simp only [List.length_cons]; omega) (am_st_1 rfl (Or.inr ⟨a5, rfl, hn⟩))) k
theorem w_ast6 {a0 a1 a2 a3 a4 a5 a6 : Option Value} {T : am_L} {v : Value} (h : am_at M pc = some (.astore 6, 2)) (hp : pc + 2 = pc') (ho : am_isA v = true) (hn : am_n2 a5 = true) (k : am_P xs d M pc' (a0 :: a1 :: a2 :: a3 :: a4 :: a5 :: some v :: T) r m Q) : am_P xs d M pc (a0 :: a1 :: a2 :: a3 :: a4 :: a5 :: a6 :: T) (v :: r) m Q := by
  subst hp
  have hc : v.category = 1 := by rcases am_isA_inv ho with rfl | ⟨x, rfl⟩ <;> rfl
  exact am_P_go (L' := (a0 :: a1 :: a2 :: a3 :: a4 :: a5 :: some v :: T)) (st' := r) (m' := m) h (fun cl => by unfold am_ins; exact am_store_ok (i := 6) ho (by simp only [List.length_cons]; omega) (am_st_1 hc (Or.inr ⟨a5, rfl, hn⟩))) k
theorem w_lst6 {a0 a1 a2 a3 a4 a5 a6 b : Option Value} {T : am_L} {x : Int64} (h : am_at M pc = some (.lstore 6, 2)) (hp : pc + 2 = pc') (hn : am_n2 a5 = true) (k : am_P xs d M pc' (a0 :: a1 :: a2 :: a3 :: a4 :: a5 :: some (.long x) :: none :: T) r m Q) : am_P xs d M pc (a0 :: a1 :: a2 :: a3 :: a4 :: a5 :: a6 :: b :: T) (.long x :: r) m Q := by
  subst hp
  exact am_P_go (L' := (a0 :: a1 :: a2 :: a3 :: a4 :: a5 :: some (.long x) :: none :: T)) (st' := r) (m' := m) h (fun cl => by unfold am_ins; exact am_store_ok (i := 6) rfl (by simp only [List.length_cons]; omega) (am_st_2 rfl (Or.inr ⟨a5, rfl, hn⟩))) k
theorem w_iinc6 {a0 a1 a2 a3 a4 a5 : Option Value} {T : am_L} {n : Int} {x : Int32} (v : Int32) (h : am_at M pc = some (.iinc 6 n, 3)) (hp : pc + 3 = pc') (hv : Int32.ofInt n = v) (hn : am_n2 a5 = true) (k : am_P xs d M pc' (a0 :: a1 :: a2 :: a3 :: a4 :: a5 :: some (.int (x + Int32.ofInt n)) :: T) st m Q) : am_P xs d M pc (a0 :: a1 :: a2 :: a3 :: a4 :: a5 :: some (.int x) :: T) st m Q := by
  subst hp
  subst hv
  exact am_P_go (L' := (a0 :: a1 :: a2 :: a3 :: a4 :: a5 :: some (.int (x + Int32.ofInt n)) :: T)) (st' := st) (m' := m) h (fun cl => by unfold am_ins; exact am_iinc_ok (i := 6) (x := x) rfl (am_st_1 rfl (Or.inr ⟨a5, rfl, hn⟩))) k
theorem w_ist7 {a0 a1 a2 a3 a4 a5 a6 a7 : Option Value} {T : am_L} {x : Int32} (h : am_at M pc = some (.istore 7, 2)) (hp : pc + 2 = pc') (hn : am_n2 a6 = true) (k : am_P xs d M pc' (a0 :: a1 :: a2 :: a3 :: a4 :: a5 :: a6 :: some (.int x) :: T) r m Q) : am_P xs d M pc (a0 :: a1 :: a2 :: a3 :: a4 :: a5 :: a6 :: a7 :: T) (.int x :: r) m Q := by
  subst hp
  exact am_P_go (L' := (a0 :: a1 :: a2 :: a3 :: a4 :: a5 :: a6 :: some (.int x) :: T)) (st' := r) (m' := m) h (fun cl => by unfold am_ins; exact am_store_ok (i := 7) rfl (by simp only [List.length_cons]; omega) (am_st_1 rfl (Or.inr ⟨a6, rfl, hn⟩))) k
theorem w_ast7 {a0 a1 a2 a3 a4 a5 a6 a7 : Option Value} {T : am_L} {v : Value} (h : am_at M pc = some (.astore 7, 2)) (hp : pc + 2 = pc') (ho : am_isA v = true) (hn : am_n2 a6 = true) (k : am_P xs d M pc' (a0 :: a1 :: a2 :: a3 :: a4 :: a5 :: a6 :: some v :: T) r m Q) : am_P xs d M pc (a0 :: a1 :: a2 :: a3 :: a4 :: a5 :: a6 :: a7 :: T) (v :: r) m Q := by
  subst hp
  have hc : v.category = 1 := by rcases am_isA_inv ho with rfl | ⟨x, rfl⟩ <;> rfl
  exact am_P_go (L' := (a0 :: a1 :: a2 :: a3 :: a4 :: a5 :: a6 :: some v :: T)) (st' := r) (m' := m) h (fun cl => by unfold am_ins; exact am_store_ok (i := 7) ho (by simp only [List.length_cons]; omega) (am_st_1 hc (Or.inr ⟨a6, rfl, hn⟩))) k
theorem w_lst7 {a0 a1 a2 a3 a4 a5 a6 a7 b : Option Value} {T : am_L} {x : Int64} (h : am_at M pc = some (.lstore 7, 2)) (hp : pc + 2 = pc') (hn : am_n2 a6 = true) (k : am_P xs d M pc' (a0 :: a1 :: a2 :: a3 :: a4 :: a5 :: a6 :: some (.long x) :: none :: T) r m Q) : am_P xs d M pc (a0 :: a1 :: a2 :: a3 :: a4 :: a5 :: a6 :: a7 :: b :: T) (.long x :: r) m Q := by
  subst hp
  exact am_P_go (L' := (a0 :: a1 :: a2 :: a3 :: a4 :: a5 :: a6 :: some (.long x) :: none :: T)) (st' := r) (m' := m) h (fun cl => by unfold am_ins; exact am_store_ok (i := 7) rfl (by simp only [List.length_cons]; omega) (am_st_2 rfl (Or.inr ⟨a6, rfl, hn⟩))) k
theorem w_iinc7 {a0 a1 a2 a3 a4 a5 a6 : Option Value} {T : am_L} {n : Int} {x : Int32} (v : Int32) (h : am_at M pc = some (.iinc 7 n, 3)) (hp : pc + 3 = pc') (hv : Int32.ofInt n = v) (hn : am_n2 a6 = true) (k : am_P xs d M pc' (a0 :: a1 :: a2 :: a3 :: a4 :: a5 :: a6 :: some (.int (x + Int32.ofInt n)) :: T) st m Q) : am_P xs d M pc (a0 :: a1 :: a2 :: a3 :: a4 :: a5 :: a6 :: some (.int x) :: T) st m Q := by
  subst hp
  subst hv
  exact am_P_go (L' := (a0 :: a1 :: a2 :: a3 :: a4 :: a5 :: a6 :: some (.int (x + Int32.ofInt n)) :: T)) (st' := st) (m' := m) h (fun cl => by unfold am_ins; exact am_iinc_ok (i := 7) (x := x) rfl (am_st_1 rfl (Or.inr ⟨a6, rfl, hn⟩))) k
theorem w_ist8 {a0 a1 a2 a3 a4 a5 a6 a7 a8 : Option Value} {T : am_L} {x : Int32} (h : am_at M pc = some (.istore 8, 2)) (hp : pc + 2 = pc') (hn : am_n2 a7 = true) (k : am_P xs d M pc' (a0 :: a1 :: a2 :: a3 :: a4 :: a5 :: a6 :: a7 :: some (.int x) :: T) r m Q) : am_P xs d M pc (a0 :: a1 :: a2 :: a3 :: a4 :: a5 :: a6 :: a7 :: a8 :: T) (.int x :: r) m Q := by
  subst hp
  exact am_P_go (L' := (a0 :: a1 :: a2 :: a3 :: a4 :: a5 :: a6 :: a7 :: some (.int x) :: T)) (st' := r) (m' := m) h (fun cl => by unfold am_ins; exact am_store_ok (i := 8) rfl (by simp only [List.length_cons]; omega) (am_st_1 rfl (Or.inr ⟨a7, rfl, hn⟩))) k
theorem w_ast8 {a0 a1 a2 a3 a4 a5 a6 a7 a8 : Option Value} {T : am_L} {v : Value} (h : am_at M pc = some (.astore 8, 2)) (hp : pc + 2 = pc') (ho : am_isA v = true) (hn : am_n2 a7 = true) (k : am_P xs d M pc' (a0 :: a1 :: a2 :: a3 :: a4 :: a5 :: a6 :: a7 :: some v :: T) r m Q) : am_P xs d M pc (a0 :: a1 :: a2 :: a3 :: a4 :: a5 :: a6 :: a7 :: a8 :: T) (v :: r) m Q := by
  subst hp
  have hc : v.category = 1 := by rcases am_isA_inv ho with rfl | ⟨x, rfl⟩ <;> rfl
  exact am_P_go (L' := (a0 :: a1 :: a2 :: a3 :: a4 :: a5 :: a6 :: a7 :: some v :: T)) (st' := r) (m' := m) h (fun cl => by unfold am_ins; exact am_store_ok (i := 8) ho (by simp only [List.length_cons]; omega) (am_st_1 hc (Or.inr ⟨a7, rfl, hn⟩))) k
theorem w_lst8 {a0 a1 a2 a3 a4 a5 a6 a7 a8 b : Option Value} {T : am_L} {x : Int64} (h : am_at M pc = some (.lstore 8, 2)) (hp : pc + 2 = pc') (hn : am_n2 a7 = true) (k : am_P xs d M pc' (a0 :: a1 :: a2 :: a3 :: a4 :: a5 :: a6 :: a7 :: some (.long x) :: none :: T) r m Q) : am_P xs d M pc (a0 :: a1 :: a2 :: a3 :: a4 :: a5 :: a6 :: a7 :: a8 :: b :: T) (.long x :: r) m Q := by
  subst hp
  exact am_P_go (L' := (a0 :: a1 :: a2 :: a3 :: a4 :: a5 :: a6 :: a7 :: some (.long x) :: none :: T)) (st' := r) (m' := m) h (fun cl => by unfold am_ins; exact am_store_ok (i := 8) rfl (by simp only [List.length_cons]; omega) (am_st_2 rfl (Or.inr ⟨a7, rfl, hn⟩))) k
theorem w_iinc8 {a0 a1 a2 a3 a4 a5 a6 a7 : Option Value} {T : am_L} {n : Int} {x : Int32} (v : Int32) (h : am_at M pc = some (.iinc 8 n, 3)) (hp : pc + 3 = pc') (hv : Int32.ofInt n = v) (hn : am_n2 a7 = true) (k : am_P xs d M pc' (a0 :: a1 :: a2 :: a3 :: a4 :: a5 :: a6 :: a7 :: some (.int (x + Int32.ofInt n)) :: T) st m Q) : am_P xs d M pc (a0 :: a1 :: a2 :: a3 :: a4 :: a5 :: a6 :: a7 :: some (.int x) :: T) st m Q := by
  subst hp
  subst hv
  exact am_P_go (L' := (a0 :: a1 :: a2 :: a3 :: a4 :: a5 :: a6 :: a7 :: some (.int (x + Int32.ofInt n)) :: T)) (st' := st) (m' := m) h (fun cl => by unfold am_ins; exact am_iinc_ok (i := 8) (x := x) rfl (am_st_1 rfl (Or.inr ⟨a7, rfl, hn⟩))) k
theorem w_ist9 {a0 a1 a2 a3 a4 a5 a6 a7 a8 a9 : Option Value} {T : am_L} {x : Int32} (h : am_at M pc = some (.istore 9, 2)) (hp : pc + 2 = pc') (hn : am_n2 a8 = true) (k : am_P xs d M pc' (a0 :: a1 :: a2 :: a3 :: a4 :: a5 :: a6 :: a7 :: a8 :: some (.int x) :: T) r m Q) : am_P xs d M pc (a0 :: a1 :: a2 :: a3 :: a4 :: a5 :: a6 :: a7 :: a8 :: a9 :: T) (.int x :: r) m Q := by
  subst hp
  exact am_P_go (L' := (a0 :: a1 :: a2 :: a3 :: a4 :: a5 :: a6 :: a7 :: a8 :: some (.int x) :: T)) (st' := r) (m' := m) h (fun cl => by unfold am_ins; exact am_store_ok (i := 9) rfl (by simp only [List.length_cons]; omega) (am_st_1 rfl (Or.inr ⟨a8, rfl, hn⟩))) k
theorem w_ast9 {a0 a1 a2 a3 a4 a5 a6 a7 a8 a9 : Option Value} {T : am_L} {v : Value} (h : am_at M pc = some (.astore 9, 2)) (hp : pc + 2 = pc') (ho : am_isA v = true) (hn : am_n2 a8 = true) (k : am_P xs d M pc' (a0 :: a1 :: a2 :: a3 :: a4 :: a5 :: a6 :: a7 :: a8 :: some v :: T) r m Q) : am_P xs d M pc (a0 :: a1 :: a2 :: a3 :: a4 :: a5 :: a6 :: a7 :: a8 :: a9 :: T) (v :: r) m Q := by
  subst hp
  have hc : v.category = 1 := by rcases am_isA_inv ho with rfl | ⟨x, rfl⟩ <;> rfl
  exact am_P_go (L' := (a0 :: a1 :: a2 :: a3 :: a4 :: a5 :: a6 :: a7 :: a8 :: some v :: T)) (st' := r) (m' := m) h (fun cl => by unfold am_ins; exact am_store_ok (i := 9) ho (by simp only [List.length_cons]; omega) (am_st_1 hc (Or.inr ⟨a8, rfl, hn⟩))) k
theorem w_lst9 {a0 a1 a2 a3 a4 a5 a6 a7 a8 a9 b : Option Value} {T : am_L} {x : Int64} (h : am_at M pc = some (.lstore 9, 2)) (hp : pc + 2 = pc') (hn : am_n2 a8 = true) (k : am_P xs d M pc' (a0 :: a1 :: a2 :: a3 :: a4 :: a5 :: a6 :: a7 :: a8 :: some (.long x) :: none :: T) r m Q) : am_P xs d M pc (a0 :: a1 :: a2 :: a3 :: a4 :: a5 :: a6 :: a7 :: a8 :: a9 :: b :: T) (.long x :: r) m Q := by
  subst hp
  exact am_P_go (L' := (a0 :: a1 :: a2 :: a3 :: a4 :: a5 :: a6 :: a7 :: a8 :: some (.long x) :: none :: T)) (st' := r) (m' := m) h (fun cl => by unfold am_ins; exact am_store_ok (i := 9) rfl (by simp only [List.length_cons]; omega) (am_st_2 rfl (Or.inr ⟨a8, rfl, hn⟩))) k
theorem w_iinc9 {a0 a1 a2 a3 a4 a5 a6 a7 a8 : Option Value} {T : am_L} {n : Int} {x : Int32} (v : Int32) (h : am_at M pc = some (.iinc 9 n, 3)) (hp : pc + 3 = pc') (hv : Int32.ofInt n = v) (hn : am_n2 a8 = true) (k : am_P xs d M pc' (a0 :: a1 :: a2 :: a3 :: a4 :: a5 :: a6 :: a7 :: a8 :: some (.int (x + Int32.ofInt n)) :: T) st m Q) : am_P xs d M pc (a0 :: a1 :: a2 :: a3 :: a4 :: a5 :: a6 :: a7 :: a8 :: some (.int x) :: T) st m Q := by
  subst hp
  subst hv
  exact am_P_go (L' := (a0 :: a1 :: a2 :: a3 :: a4 :: a5 :: a6 :: a7 :: a8 :: some (.int (x + Int32.ofInt n)) :: T)) (st' := st) (m' := m) h (fun cl => by unfold am_ins; exact am_iinc_ok (i := 9) (x := x) rfl (am_st_1 rfl (Or.inr ⟨a8, rfl, hn⟩))) k
theorem w_ist10 {a0 a1 a2 a3 a4 a5 a6 a7 a8 a9 a10 : Option Value} {T : am_L} {x : Int32} (h : am_at M pc = some (.istore 10, 2)) (hp : pc + 2 = pc') (hn : am_n2 a9 = true) (k : am_P xs d M pc' (a0 :: a1 :: a2 :: a3 :: a4 :: a5 :: a6 :: a7 :: a8 :: a9 :: some (.int x) :: T) r m Q) : am_P xs d M pc (a0 :: a1 :: a2 :: a3 :: a4 :: a5 :: a6 :: a7 :: a8 :: a9 :: a10 :: T) (.int x :: r) m Q := by
  subst hp
  exact am_P_go (L' := (a0 :: a1 :: a2 :: a3 :: a4 :: a5 :: a6 :: a7 :: a8 :: a9 :: some (.int x) :: T)) (st' := r) (m' := m) h (fun cl => by unfold am_ins; exact am_store_ok (i := 10) rfl (by simp only [List.length_cons]; omega) (am_st_1 rfl (Or.inr ⟨a9, rfl, hn⟩))) k
theorem w_ast10 {a0 a1 a2 a3 a4 a5 a6 a7 a8 a9 a10 : Option Value} {T : am_L} {v : Value} (h : am_at M pc = some (.astore 10, 2)) (hp : pc + 2 = pc') (ho : am_isA v = true) (hn : am_n2 a9 = true) (k : am_P xs d M pc' (a0 :: a1 :: a2 :: a3 :: a4 :: a5 :: a6 :: a7 :: a8 :: a9 :: some v :: T) r m Q) : am_P xs d M pc (a0 :: a1 :: a2 :: a3 :: a4 :: a5 :: a6 :: a7 :: a8 :: a9 :: a10 :: T) (v :: r) m Q := by
  subst hp
  have hc : v.category = 1 := by rcases am_isA_inv ho with rfl | ⟨x, rfl⟩ <;> rfl
  exact am_P_go (L' := (a0 :: a1 :: a2 :: a3 :: a4 :: a5 :: a6 :: a7 :: a8 :: a9 :: some v :: T)) (st' := r) (m' := m) h (fun cl => by unfold am_ins; exact am_store_ok (i := 10) ho (by simp only [List.length_cons]; omega) (am_st_1 hc (Or.inr ⟨a9, rfl, hn⟩))) k
theorem w_lst10 {a0 a1 a2 a3 a4 a5 a6 a7 a8 a9 a10 b : Option Value} {T : am_L} {x : Int64} (h : am_at M pc = some (.lstore 10, 2)) (hp : pc + 2 = pc') (hn : am_n2 a9 = true) (k : am_P xs d M pc' (a0 :: a1 :: a2 :: a3 :: a4 :: a5 :: a6 :: a7 :: a8 :: a9 :: some (.long x) :: none :: T) r m Q) : am_P xs d M pc (a0 :: a1 :: a2 :: a3 :: a4 :: a5 :: a6 :: a7 :: a8 :: a9 :: a10 :: b :: T) (.long x :: r) m Q := by
  subst hp
  exact am_P_go (L' := (a0 :: a1 :: a2 :: a3 :: a4 :: a5 :: a6 :: a7 :: a8 :: a9 :: some (.long x) :: none :: T)) (st' := r) (m' := m) h (fun cl => by unfold am_ins; exact am_store_ok (i := 10) rfl (by simp only [List.length_cons]; omega) (am_st_2 rfl (Or.inr ⟨a9, rfl, hn⟩))) k
theorem w_iinc10 {a0 a1 a2 a3 a4 a5 a6 a7 a8 a9 : Option Value} {T : am_L} {n : Int} {x : Int32} (v : Int32) (h : am_at M pc = some (.iinc 10 n, 3)) (hp : pc + 3 = pc') (hv : Int32.ofInt n = v) (hn : am_n2 a9 = true) (k : am_P xs d M pc' (a0 :: a1 :: a2 :: a3 :: a4 :: a5 :: a6 :: a7 :: a8 :: a9 :: some (.int (x + Int32.ofInt n)) :: T) st m Q) : am_P xs d M pc (a0 :: a1 :: a2 :: a3 :: a4 :: a5 :: a6 :: a7 :: a8 :: a9 :: some (.int x) :: T) st m Q := by
  subst hp
  subst hv
  exact am_P_go (L' := (a0 :: a1 :: a2 :: a3 :: a4 :: a5 :: a6 :: a7 :: a8 :: a9 :: some (.int (x + Int32.ofInt n)) :: T)) (st' := st) (m' := m) h (fun cl => by unfold am_ins; exact am_iinc_ok (i := 10) (x := x) rfl (am_st_1 rfl (Or.inr ⟨a9, rfl, hn⟩))) k
theorem w_ist11 {a0 a1 a2 a3 a4 a5 a6 a7 a8 a9 a10 a11 : Option Value} {T : am_L} {x : Int32} (h : am_at M pc = some (.istore 11, 2)) (hp : pc + 2 = pc') (hn : am_n2 a10 = true) (k : am_P xs d M pc' (a0 :: a1 :: a2 :: a3 :: a4 :: a5 :: a6 :: a7 :: a8 :: a9 :: a10 :: some (.int x) :: T) r m Q) : am_P xs d M pc (a0 :: a1 :: a2 :: a3 :: a4 :: a5 :: a6 :: a7 :: a8 :: a9 :: a10 :: a11 :: T) (.int x :: r) m Q := by
  subst hp
  exact am_P_go (L' := (a0 :: a1 :: a2 :: a3 :: a4 :: a5 :: a6 :: a7 :: a8 :: a9 :: a10 :: some (.int x) :: T)) (st' := r) (m' := m) h (fun cl => by unfold am_ins; exact am_store_ok (i := 11) rfl (by simp only [List.length_cons]; omega) (am_st_1 rfl (Or.inr ⟨a10, rfl, hn⟩))) k
theorem w_ast11 {a0 a1 a2 a3 a4 a5 a6 a7 a8 a9 a10 a11 : Option Value} {T : am_L} {v : Value} (h : am_at M pc = some (.astore 11, 2)) (hp : pc + 2 = pc') (ho : am_isA v = true) (hn : am_n2 a10 = true) (k : am_P xs d M pc' (a0 :: a1 :: a2 :: a3 :: a4 :: a5 :: a6 :: a7 :: a8 :: a9 :: a10 :: some v :: T) r m Q) : am_P xs d M pc (a0 :: a1 :: a2 :: a3 :: a4 :: a5 :: a6 :: a7 :: a8 :: a9 :: a10 :: a11 :: T) (v :: r) m Q := by
  subst hp
  have hc : v.category = 1 := by rcases am_isA_inv ho with rfl | ⟨x, rfl⟩ <;> rfl
  exact am_P_go (L' := (a0 :: a1 :: a2 :: a3 :: a4 :: a5 :: a6 :: a7 :: a8 :: a9 :: a10 :: some v :: T)) (st' := r) (m' := m) h (fun cl => by unfold am_ins; exact am_store_ok (i := 11) ho (by simp only [List.length_cons]; omega) (am_st_1 hc (Or.inr ⟨a10, rfl, hn⟩))) k
theorem w_lst11 {a0 a1 a2 a3 a4 a5 a6 a7 a8 a9 a10 a11 b : Option Value} {T : am_L} {x : Int64} (h : am_at M pc = some (.lstore 11, 2)) (hp : pc + 2 = pc') (hn : am_n2 a10 = true) (k : am_P xs d M pc' (a0 :: a1 :: a2 :: a3 :: a4 :: a5 :: a6 :: a7 :: a8 :: a9 :: a10 :: some (.long x) :: none :: T) r m Q) : am_P xs d M pc (a0 :: a1 :: a2 :: a3 :: a4 :: a5 :: a6 :: a7 :: a8 :: a9 :: a10 :: a11 :: b :: T) (.long x :: r) m Q := by
  subst hp
  exact am_P_go (L' := (a0 :: a1 :: a2 :: a3 :: a4 :: a5 :: a6 :: a7 :: a8 :: a9 :: a10 :: some (.long x) :: none :: T)) (st' := r) (m' := m) h (fun cl => by unfold am_ins; exact am_store_ok (i := 11) rfl (by simp only [List.length_cons]; omega) (am_st_2 rfl (Or.inr ⟨a10, rfl, hn⟩))) k
theorem w_iinc11 {a0 a1 a2 a3 a4 a5 a6 a7 a8 a9 a10 : Option Value} {T : am_L} {n : Int} {x : Int32} (v : Int32) (h : am_at M pc = some (.iinc 11 n, 3)) (hp : pc + 3 = pc') (hv : Int32.ofInt n = v) (hn : am_n2 a10 = true) (k : am_P xs d M pc' (a0 :: a1 :: a2 :: a3 :: a4 :: a5 :: a6 :: a7 :: a8 :: a9 :: a10 :: some (.int (x + Int32.ofInt n)) :: T) st m Q) : am_P xs d M pc (a0 :: a1 :: a2 :: a3 :: a4 :: a5 :: a6 :: a7 :: a8 :: a9 :: a10 :: some (.int x) :: T) st m Q := by
  subst hp
  subst hv
  exact am_P_go (L' := (a0 :: a1 :: a2 :: a3 :: a4 :: a5 :: a6 :: a7 :: a8 :: a9 :: a10 :: some (.int (x + Int32.ofInt n)) :: T)) (st' := st) (m' := m) h (fun cl => by unfold am_ins; exact am_iinc_ok (i := 11) (x := x) rfl (am_st_1 rfl (Or.inr ⟨a10, rfl, hn⟩))) k
theorem w_iadd {x y : Int32} (h : am_at M pc = some (.iadd, 1)) (hp : pc + 1 = pc') (k : am_P xs d M pc' L (.int (x + y) :: r) m Q) : am_P xs d M pc L (.int y :: .int x :: r) m Q := by
  subst hp
  exact am_P_go (L' := L) (st' := (.int (x + y) :: r)) (m' := m) h (fun cl => rfl) k
theorem w_isub {x y : Int32} (h : am_at M pc = some (.isub, 1)) (hp : pc + 1 = pc') (k : am_P xs d M pc' L (.int (x - y) :: r) m Q) : am_P xs d M pc L (.int y :: .int x :: r) m Q := by
  subst hp
  exact am_P_go (L' := L) (st' := (.int (x - y) :: r)) (m' := m) h (fun cl => rfl) k
theorem w_imul {x y : Int32} (h : am_at M pc = some (.imul, 1)) (hp : pc + 1 = pc') (k : am_P xs d M pc' L (.int (x * y) :: r) m Q) : am_P xs d M pc L (.int y :: .int x :: r) m Q := by
  subst hp
  exact am_P_go (L' := L) (st' := (.int (x * y) :: r)) (m' := m) h (fun cl => rfl) k
theorem w_iand {x y : Int32} (h : am_at M pc = some (.iand, 1)) (hp : pc + 1 = pc') (k : am_P xs d M pc' L (.int (x &&& y) :: r) m Q) : am_P xs d M pc L (.int y :: .int x :: r) m Q := by
  subst hp
  exact am_P_go (L' := L) (st' := (.int (x &&& y) :: r)) (m' := m) h (fun cl => rfl) k
theorem w_ior {x y : Int32} (h : am_at M pc = some (.ior, 1)) (hp : pc + 1 = pc') (k : am_P xs d M pc' L (.int (x ||| y) :: r) m Q) : am_P xs d M pc L (.int y :: .int x :: r) m Q := by
  subst hp
  exact am_P_go (L' := L) (st' := (.int (x ||| y) :: r)) (m' := m) h (fun cl => rfl) k
theorem w_ixor {x y : Int32} (h : am_at M pc = some (.ixor, 1)) (hp : pc + 1 = pc') (k : am_P xs d M pc' L (.int (x ^^^ y) :: r) m Q) : am_P xs d M pc L (.int y :: .int x :: r) m Q := by
  subst hp
  exact am_P_go (L' := L) (st' := (.int (x ^^^ y) :: r)) (m' := m) h (fun cl => rfl) k
theorem w_ishl {x y : Int32} (h : am_at M pc = some (.ishl, 1)) (hp : pc + 1 = pc') (k : am_P xs d M pc' L (.int (x <<< (y &&& 31)) :: r) m Q) : am_P xs d M pc L (.int y :: .int x :: r) m Q := by
  subst hp
  exact am_P_go (L' := L) (st' := (.int (x <<< (y &&& 31)) :: r)) (m' := m) h (fun cl => rfl) k
theorem w_ishr {x y : Int32} (h : am_at M pc = some (.ishr, 1)) (hp : pc + 1 = pc') (k : am_P xs d M pc' L (.int (x >>> (y &&& 31)) :: r) m Q) : am_P xs d M pc L (.int y :: .int x :: r) m Q := by
  subst hp
  exact am_P_go (L' := L) (st' := (.int (x >>> (y &&& 31)) :: r)) (m' := m) h (fun cl => rfl) k
theorem w_iushr {x y : Int32} (h : am_at M pc = some (.iushr, 1)) (hp : pc + 1 = pc') (k : am_P xs d M pc' L (.int ((x.toUInt32 >>> (y.toUInt32 &&& Int32.toUInt32 31)).toInt32) :: r) m Q) : am_P xs d M pc L (.int y :: .int x :: r) m Q := by
  subst hp
  exact am_P_go (L' := L) (st' := (.int ((x.toUInt32 >>> (y.toUInt32 &&& Int32.toUInt32 31)).toInt32) :: r)) (m' := m) h (fun cl => rfl) k
theorem w_idiv {x y : Int32} (h : am_at M pc = some (.idiv, 1)) (hp : pc + 1 = pc') (hy : ¬ y = 0) (k : am_P xs d M pc' L (.int (x / y) :: r) m Q) : am_P xs d M pc L (.int y :: .int x :: r) m Q := by
  subst hp
  exact am_P_go (L' := L) (st' := (.int (x / y) :: r)) (m' := m) h (fun cl => by unfold am_ins; exact am_ii_ok (if_neg hy)) k
theorem w_irem {x y : Int32} (h : am_at M pc = some (.irem, 1)) (hp : pc + 1 = pc') (hy : ¬ y = 0) (k : am_P xs d M pc' L (.int (x - x / y * y) :: r) m Q) : am_P xs d M pc L (.int y :: .int x :: r) m Q := by
  subst hp
  exact am_P_go (L' := L) (st' := (.int (x - x / y * y) :: r)) (m' := m) h (fun cl => by unfold am_ins; exact am_ii_ok (if_neg hy)) k
theorem w_ladd {x y : Int64} (h : am_at M pc = some (.ladd, 1)) (hp : pc + 1 = pc') (k : am_P xs d M pc' L (.long (x + y) :: r) m Q) : am_P xs d M pc L (.long y :: .long x :: r) m Q := by
  subst hp
  exact am_P_go (L' := L) (st' := (.long (x + y) :: r)) (m' := m) h (fun cl => rfl) k
theorem w_land {x y : Int64} (h : am_at M pc = some (.land, 1)) (hp : pc + 1 = pc') (k : am_P xs d M pc' L (.long (x &&& y) :: r) m Q) : am_P xs d M pc L (.long y :: .long x :: r) m Q := by
  subst hp
  exact am_P_go (L' := L) (st' := (.long (x &&& y) :: r)) (m' := m) h (fun cl => rfl) k
theorem w_lor {x y : Int64} (h : am_at M pc = some (.lor, 1)) (hp : pc + 1 = pc') (k : am_P xs d M pc' L (.long (x ||| y) :: r) m Q) : am_P xs d M pc L (.long y :: .long x :: r) m Q := by
  subst hp
  exact am_P_go (L' := L) (st' := (.long (x ||| y) :: r)) (m' := m) h (fun cl => rfl) k
theorem w_ldiv {x y : Int64} (h : am_at M pc = some (.ldiv, 1)) (hp : pc + 1 = pc') (hy : ¬ y = 0) (k : am_P xs d M pc' L (.long (x / y) :: r) m Q) : am_P xs d M pc L (.long y :: .long x :: r) m Q := by
  subst hp
  exact am_P_go (L' := L) (st' := (.long (x / y) :: r)) (m' := m) h (fun cl => by unfold am_ins; exact am_jj_ok (if_neg hy)) k
theorem w_lrem {x y : Int64} (h : am_at M pc = some (.lrem, 1)) (hp : pc + 1 = pc') (hy : ¬ y = 0) (k : am_P xs d M pc' L (.long (x - x / y * y) :: r) m Q) : am_P xs d M pc L (.long y :: .long x :: r) m Q := by
  subst hp
  exact am_P_go (L' := L) (st' := (.long (x - x / y * y) :: r)) (m' := m) h (fun cl => by unfold am_ins; exact am_jj_ok (if_neg hy)) k
theorem w_lcmp {x y : Int64} (h : am_at M pc = some (.lcmp, 1)) (hp : pc + 1 = pc') (k : am_P xs d M pc' L (.int (lg_cmp x y) :: r) m Q) : am_P xs d M pc L (.long y :: .long x :: r) m Q := by
  subst hp
  exact am_P_go (L' := L) (st' := (.int (lg_cmp x y) :: r)) (m' := m) h (fun cl => rfl) k
theorem w_lshl {x : Int64} {y : Int32} (h : am_at M pc = some (.lshl, 1)) (hp : pc + 1 = pc') (k : am_P xs d M pc' L (.long (x <<< (y.toInt64 &&& 63)) :: r) m Q) : am_P xs d M pc L (.int y :: .long x :: r) m Q := by
  subst hp
  exact am_P_go (L' := L) (st' := (.long (x <<< (y.toInt64 &&& 63)) :: r)) (m' := m) h (fun cl => rfl) k
theorem w_ineg {x : Int32} (h : am_at M pc = some (.ineg, 1)) (hp : pc + 1 = pc') (k : am_P xs d M pc' L (.int (-x) :: r) m Q) : am_P xs d M pc L (.int x :: r) m Q := by
  subst hp
  exact am_P_go (L' := L) (st' := (.int (-x) :: r)) (m' := m) h (fun cl => rfl) k
theorem w_i2l {x : Int32} (h : am_at M pc = some (.i2l, 1)) (hp : pc + 1 = pc') (k : am_P xs d M pc' L (.long x.toInt64 :: r) m Q) : am_P xs d M pc L (.int x :: r) m Q := by
  subst hp
  exact am_P_go (L' := L) (st' := (.long x.toInt64 :: r)) (m' := m) h (fun cl => rfl) k
theorem w_i2b {x : Int32} (h : am_at M pc = some (.i2b, 1)) (hp : pc + 1 = pc') (k : am_P xs d M pc' L (.int x.toInt8.toInt32 :: r) m Q) : am_P xs d M pc L (.int x :: r) m Q := by
  subst hp
  exact am_P_go (L' := L) (st' := (.int x.toInt8.toInt32 :: r)) (m' := m) h (fun cl => rfl) k
theorem w_i2s {x : Int32} (h : am_at M pc = some (.i2s, 1)) (hp : pc + 1 = pc') (k : am_P xs d M pc' L (.int x.toInt16.toInt32 :: r) m Q) : am_P xs d M pc L (.int x :: r) m Q := by
  subst hp
  exact am_P_go (L' := L) (st' := (.int x.toInt16.toInt32 :: r)) (m' := m) h (fun cl => rfl) k
theorem w_i2c {x : Int32} (h : am_at M pc = some (.i2c, 1)) (hp : pc + 1 = pc') (k : am_P xs d M pc' L (.int (x.toUInt32 % 65536).toInt32 :: r) m Q) : am_P xs d M pc L (.int x :: r) m Q := by
  subst hp
  exact am_P_go (L' := L) (st' := (.int (x.toUInt32 % 65536).toInt32 :: r)) (m' := m) h (fun cl => rfl) k
theorem w_lneg {x : Int64} (h : am_at M pc = some (.lneg, 1)) (hp : pc + 1 = pc') (k : am_P xs d M pc' L (.long (-x) :: r) m Q) : am_P xs d M pc L (.long x :: r) m Q := by
  subst hp
  exact am_P_go (L' := L) (st' := (.long (-x) :: r)) (m' := m) h (fun cl => rfl) k
theorem w_l2i {x : Int64} (h : am_at M pc = some (.l2i, 1)) (hp : pc + 1 = pc') (k : am_P xs d M pc' L (.int x.toInt32 :: r) m Q) : am_P xs d M pc L (.long x :: r) m Q := by
  subst hp
  exact am_P_go (L' := L) (st' := (.int x.toInt32 :: r)) (m' := m) h (fun cl => rfl) k
theorem w_dup {v : Value} (h : am_at M pc = some (.dup, 1)) (hp : pc + 1 = pc') (hc : v.category = 1) (k : am_P xs d M pc' L (v :: v :: r) m Q) : am_P xs d M pc L (v :: r) m Q := by
  subst hp
  exact am_P_go (L' := L) (st' := (v :: v :: r)) (m' := m) h (fun cl => by unfold am_ins; exact am_dup_ok hc) k
theorem w_pop {v : Value} (h : am_at M pc = some (.pop, 1)) (hp : pc + 1 = pc') (hc : v.category = 1) (k : am_P xs d M pc' L r m Q) : am_P xs d M pc L (v :: r) m Q := by
  subst hp
  exact am_P_go (L' := L) (st' := r) (m' := m) h (fun cl => by unfold am_ins; exact am_pop_ok hc) k
theorem w_dup_x1 {v u : Value} (h : am_at M pc = some (.dup_x1, 1)) (hp : pc + 1 = pc') (hc : v.category = 1 ∧ u.category = 1) (k : am_P xs d M pc' L (v :: u :: v :: r) m Q) : am_P xs d M pc L (v :: u :: r) m Q := by
  subst hp
  exact am_P_go (L' := L) (st' := (v :: u :: v :: r)) (m' := m) h (fun cl => by unfold am_ins; exact am_dupx_ok hc) k
theorem w_dup2 {v u : Value} (h : am_at M pc = some (.dup2, 1)) (hp : pc + 1 = pc') (hv : v.category = 1) (hu : u.category = 1) (k : am_P xs d M pc' L (v :: u :: v :: u :: r) m Q) : am_P xs d M pc L (v :: u :: r) m Q := by
  subst hp
  exact am_P_go (L' := L) (st' := (v :: u :: v :: u :: r)) (m' := m) h (fun cl => by unfold am_ins; exact am_dup2_ok hv hu) k
theorem w_goto {off : Int} (h : am_at M pc = some (.goto off, 3)) (hj : am_jmp pc off = some pc') (k : am_P xs d M pc' L st m Q) : am_P xs d M pc L st m Q := am_P_go h (fun cl => am_jI hj) k
theorem w_if_eq {x : Int32} {t : Nat} {off : Int} (h : am_at M pc = some (.ifCond .eq off, 3)) (hj : am_jmp pc off = some t) (hp : pc + 3 = pc') (kt : x = 0 → am_P xs d M t L r m Q) (kf : ¬ (x = 0) → am_P xs d M pc' L r m Q) : am_P xs d M pc L (.int x :: r) m Q := by
  subst hp
  by_cases hc : x = 0
  · exact am_P_go (L' := L) (st' := r) (m' := m) h (fun cl => by unfold am_ins; exact am_condT hj (by unfold am_cmp; exact decide_eq_true hc)) (kt hc)
  · exact am_P_go (L' := L) (st' := r) (m' := m) h (fun cl => by unfold am_ins; exact am_condF hj (by unfold am_cmp; exact decide_eq_false hc)) (kf hc)
theorem w_ic_eq {x y : Int32} {t : Nat} {off : Int} (h : am_at M pc = some (.if_icmp .eq off, 3)) (hj : am_jmp pc off = some t) (hp : pc + 3 = pc') (kt : x = y → am_P xs d M t L r m Q) (kf : ¬ (x = y) → am_P xs d M pc' L r m Q) : am_P xs d M pc L (.int y :: .int x :: r) m Q := by
  subst hp
  by_cases hc : x = y
  · exact am_P_go (L' := L) (st' := r) (m' := m) h (fun cl => by unfold am_ins; exact am_condT hj (by unfold am_cmp; exact decide_eq_true hc)) (kt hc)
  · exact am_P_go (L' := L) (st' := r) (m' := m) h (fun cl => by unfold am_ins; exact am_condF hj (by unfold am_cmp; exact decide_eq_false hc)) (kf hc)
theorem w_if_ne {x : Int32} {t : Nat} {off : Int} (h : am_at M pc = some (.ifCond .ne off, 3)) (hj : am_jmp pc off = some t) (hp : pc + 3 = pc') (kt : ¬ x = 0 → am_P xs d M t L r m Q) (kf : x = 0 → am_P xs d M pc' L r m Q) : am_P xs d M pc L (.int x :: r) m Q := by
  subst hp
  by_cases hc : ¬ x = 0
  · exact am_P_go (L' := L) (st' := r) (m' := m) h (fun cl => by unfold am_ins; exact am_condT hj (by unfold am_cmp; exact decide_eq_true hc)) (kt hc)
  · exact am_P_go (L' := L) (st' := r) (m' := m) h (fun cl => by unfold am_ins; exact am_condF hj (by unfold am_cmp; exact decide_eq_false hc)) (kf (Decidable.not_not.mp hc))
theorem w_ic_ne {x y : Int32} {t : Nat} {off : Int} (h : am_at M pc = some (.if_icmp .ne off, 3)) (hj : am_jmp pc off = some t) (hp : pc + 3 = pc') (kt : ¬ x = y → am_P xs d M t L r m Q) (kf : x = y → am_P xs d M pc' L r m Q) : am_P xs d M pc L (.int y :: .int x :: r) m Q := by
  subst hp
  by_cases hc : ¬ x = y
  · exact am_P_go (L' := L) (st' := r) (m' := m) h (fun cl => by unfold am_ins; exact am_condT hj (by unfold am_cmp; exact decide_eq_true hc)) (kt hc)
  · exact am_P_go (L' := L) (st' := r) (m' := m) h (fun cl => by unfold am_ins; exact am_condF hj (by unfold am_cmp; exact decide_eq_false hc)) (kf (Decidable.not_not.mp hc))
theorem w_if_lt {x : Int32} {t : Nat} {off : Int} (h : am_at M pc = some (.ifCond .lt off, 3)) (hj : am_jmp pc off = some t) (hp : pc + 3 = pc') (kt : x < 0 → am_P xs d M t L r m Q) (kf : ¬ (x < 0) → am_P xs d M pc' L r m Q) : am_P xs d M pc L (.int x :: r) m Q := by
  subst hp
  by_cases hc : x < 0
  · exact am_P_go (L' := L) (st' := r) (m' := m) h (fun cl => by unfold am_ins; exact am_condT hj (by unfold am_cmp; exact decide_eq_true hc)) (kt hc)
  · exact am_P_go (L' := L) (st' := r) (m' := m) h (fun cl => by unfold am_ins; exact am_condF hj (by unfold am_cmp; exact decide_eq_false hc)) (kf hc)
theorem w_ic_lt {x y : Int32} {t : Nat} {off : Int} (h : am_at M pc = some (.if_icmp .lt off, 3)) (hj : am_jmp pc off = some t) (hp : pc + 3 = pc') (kt : x < y → am_P xs d M t L r m Q) (kf : ¬ (x < y) → am_P xs d M pc' L r m Q) : am_P xs d M pc L (.int y :: .int x :: r) m Q := by
  subst hp
  by_cases hc : x < y
  · exact am_P_go (L' := L) (st' := r) (m' := m) h (fun cl => by unfold am_ins; exact am_condT hj (by unfold am_cmp; exact decide_eq_true hc)) (kt hc)
  · exact am_P_go (L' := L) (st' := r) (m' := m) h (fun cl => by unfold am_ins; exact am_condF hj (by unfold am_cmp; exact decide_eq_false hc)) (kf hc)
theorem w_if_ge {x : Int32} {t : Nat} {off : Int} (h : am_at M pc = some (.ifCond .ge off, 3)) (hj : am_jmp pc off = some t) (hp : pc + 3 = pc') (kt : 0 ≤ x → am_P xs d M t L r m Q) (kf : ¬ (0 ≤ x) → am_P xs d M pc' L r m Q) : am_P xs d M pc L (.int x :: r) m Q := by
  subst hp
  by_cases hc : 0 ≤ x
  · exact am_P_go (L' := L) (st' := r) (m' := m) h (fun cl => by unfold am_ins; exact am_condT hj (by unfold am_cmp; exact decide_eq_true hc)) (kt hc)
  · exact am_P_go (L' := L) (st' := r) (m' := m) h (fun cl => by unfold am_ins; exact am_condF hj (by unfold am_cmp; exact decide_eq_false hc)) (kf hc)
theorem w_ic_ge {x y : Int32} {t : Nat} {off : Int} (h : am_at M pc = some (.if_icmp .ge off, 3)) (hj : am_jmp pc off = some t) (hp : pc + 3 = pc') (kt : y ≤ x → am_P xs d M t L r m Q) (kf : ¬ (y ≤ x) → am_P xs d M pc' L r m Q) : am_P xs d M pc L (.int y :: .int x :: r) m Q := by
  subst hp
  by_cases hc : y ≤ x
  · exact am_P_go (L' := L) (st' := r) (m' := m) h (fun cl => by unfold am_ins; exact am_condT hj (by unfold am_cmp; exact decide_eq_true hc)) (kt hc)
  · exact am_P_go (L' := L) (st' := r) (m' := m) h (fun cl => by unfold am_ins; exact am_condF hj (by unfold am_cmp; exact decide_eq_false hc)) (kf hc)
theorem w_if_gt {x : Int32} {t : Nat} {off : Int} (h : am_at M pc = some (.ifCond .gt off, 3)) (hj : am_jmp pc off = some t) (hp : pc + 3 = pc') (kt : 0 < x → am_P xs d M t L r m Q) (kf : ¬ (0 < x) → am_P xs d M pc' L r m Q) : am_P xs d M pc L (.int x :: r) m Q := by
  subst hp
  by_cases hc : 0 < x
  · exact am_P_go (L' := L) (st' := r) (m' := m) h (fun cl => by unfold am_ins; exact am_condT hj (by unfold am_cmp; exact decide_eq_true hc)) (kt hc)
  · exact am_P_go (L' := L) (st' := r) (m' := m) h (fun cl => by unfold am_ins; exact am_condF hj (by unfold am_cmp; exact decide_eq_false hc)) (kf hc)
theorem w_ic_gt {x y : Int32} {t : Nat} {off : Int} (h : am_at M pc = some (.if_icmp .gt off, 3)) (hj : am_jmp pc off = some t) (hp : pc + 3 = pc') (kt : y < x → am_P xs d M t L r m Q) (kf : ¬ (y < x) → am_P xs d M pc' L r m Q) : am_P xs d M pc L (.int y :: .int x :: r) m Q := by
  subst hp
  by_cases hc : y < x
  · exact am_P_go (L' := L) (st' := r) (m' := m) h (fun cl => by unfold am_ins; exact am_condT hj (by unfold am_cmp; exact decide_eq_true hc)) (kt hc)
  · exact am_P_go (L' := L) (st' := r) (m' := m) h (fun cl => by unfold am_ins; exact am_condF hj (by unfold am_cmp; exact decide_eq_false hc)) (kf hc)
theorem w_if_le {x : Int32} {t : Nat} {off : Int} (h : am_at M pc = some (.ifCond .le off, 3)) (hj : am_jmp pc off = some t) (hp : pc + 3 = pc') (kt : x ≤ 0 → am_P xs d M t L r m Q) (kf : ¬ (x ≤ 0) → am_P xs d M pc' L r m Q) : am_P xs d M pc L (.int x :: r) m Q := by
  subst hp
  by_cases hc : x ≤ 0
  · exact am_P_go (L' := L) (st' := r) (m' := m) h (fun cl => by unfold am_ins; exact am_condT hj (by unfold am_cmp; exact decide_eq_true hc)) (kt hc)
  · exact am_P_go (L' := L) (st' := r) (m' := m) h (fun cl => by unfold am_ins; exact am_condF hj (by unfold am_cmp; exact decide_eq_false hc)) (kf hc)
theorem w_ic_le {x y : Int32} {t : Nat} {off : Int} (h : am_at M pc = some (.if_icmp .le off, 3)) (hj : am_jmp pc off = some t) (hp : pc + 3 = pc') (kt : x ≤ y → am_P xs d M t L r m Q) (kf : ¬ (x ≤ y) → am_P xs d M pc' L r m Q) : am_P xs d M pc L (.int y :: .int x :: r) m Q := by
  subst hp
  by_cases hc : x ≤ y
  · exact am_P_go (L' := L) (st' := r) (m' := m) h (fun cl => by unfold am_ins; exact am_condT hj (by unfold am_cmp; exact decide_eq_true hc)) (kt hc)
  · exact am_P_go (L' := L) (st' := r) (m' := m) h (fun cl => by unfold am_ins; exact am_condF hj (by unfold am_cmp; exact decide_eq_false hc)) (kf hc)
theorem w_ifnullN {off : Int} (h : am_at M pc = some (.ifnull off, 3)) (hj : am_jmp pc off = some pc') (k : am_P xs d M pc' L r m Q) : am_P xs d M pc L (.null :: r) m Q := am_P_go h (fun cl => am_jI hj) k
theorem w_ifnullR {off : Int} {a : Nat} (h : am_at M pc = some (.ifnull off, 3)) (hp : pc + 3 = pc') (ha : a < 1000005) (k : am_P xs d M pc' L r m Q) : am_P xs d M pc L (.ref a :: r) m Q := by
  subst hp
  exact am_P_go (L' := L) (st' := r) (m' := m) h (fun cl => by unfold am_ins; exact (am_nulR ha).trans (if_pos rfl)) k
theorem w_ifnonnullN {off : Int} (h : am_at M pc = some (.ifnonnull off, 3)) (hp : pc + 3 = pc') (k : am_P xs d M pc' L r m Q) : am_P xs d M pc L (.null :: r) m Q := by
  subst hp
  exact am_P_go h (fun cl => rfl) k
theorem w_ifnonnullR {off : Int} {a : Nat} (h : am_at M pc = some (.ifnonnull off, 3)) (hj : am_jmp pc off = some pc') (ha : a < 1000005) (k : am_P xs d M pc' L r m Q) : am_P xs d M pc L (.ref a :: r) m Q := by
  exact am_P_go (L' := L) (st' := r) (m' := m) h (fun cl => by unfold am_ins; exact ((am_nulR ha).trans (if_neg Bool.false_ne_true)).trans (am_jI hj)) k
theorem w_tsw {dd lo hi : Int} {offs : Array Int} {len t : Nat} {x : Int32} (h : am_at M pc = some (.tableswitch dd lo hi offs, len)) (hj : am_jmp pc dd = some t) (kd : (x.toInt < lo ∨ hi < x.toInt) → am_P xs d M t L r m Q) (kc : ∀ z : Int, lo ≤ z → z ≤ hi → x.toInt = z → ∃ off t', offs[(z - lo).toNat]? = some off ∧ am_jmp pc off = some t' ∧ am_P xs d M t' L r m Q) : am_P xs d M pc L (.int x :: r) m Q := by
  by_cases hc : x.toInt < lo ∨ hi < x.toInt
  · exact am_P_go (L' := L) (st' := r) (m' := m) h (fun cl => by unfold am_ins; exact (am_tswO hc).trans (am_jI hj)) (kd hc)
  · obtain ⟨off, t', h1, h2, h3⟩ := kc x.toInt (by omega) (by omega) rfl
    exact am_P_go (L' := L) (st' := r) (m' := m) h (fun cl => by unfold am_ins; exact (am_tswI hc h1).trans (am_jI h2)) h3
theorem w_lsw {dd off : Int} {ps : Array (Int × Int)} {len : Nat} {x : Int32} (h : am_at M pc = some (.lookupswitch dd ps, len)) (hs : (ps.toList.zip (ps.toList.drop 1)).all (fun (a, next) => a.1 < next.1) = true) (ho : Op.lookupswitch.offset ps.toList dd x.toInt = off) (hj : am_jmp pc off = some pc') (k : am_P xs d M pc' L r m Q) : am_P xs d M pc L (.int x :: r) m Q := by
  exact am_P_go (L' := L) (st' := r) (m' := m) h (fun cl => by unfold am_ins; exact (am_lswI hs ho).trans (am_jI hj)) k
theorem w_get {idx ci k c : Nat} {ks : List (Nat × Value)} {kd : Nat × Value} (h : am_at M pc = some (.getfield idx, 3)) (hp : pc + 3 = pc') (hf : (am_fld M.1).lookup idx = some (ci, k)) (hs : am_sh[c]? = some (.inr (.inr (ci, ks)))) (hk : ks[k]? = some kd) (hc : c < 1000000) (kk : am_P xs d M pc' L (am_sv m c k kd :: r) m Q) : am_P xs d M pc L (.ref c :: r) m Q := by
  subst hp
  refine am_P_go h (fun cl => ?_) kk
  unfold am_ins am_getf
  dsimp only
  rw [if_pos hc, hf, am_rep_at m hs]
  show (if ci = ci then _ else _) = _
  rw [if_pos rfl, List.getElem?_mapIdx, hk]
  rfl
theorem am_sh_lt {c : Nat} {x : am_Sh} (h : am_sh[c]? = some x) : c < 1000000 := by
  have h1 : c < am_sh.length := (List.getElem?_eq_some_iff.mp h).1
  have h2 : am_sh.length ≤ 1000 := by decide +kernel
  exact Nat.lt_of_lt_of_le h1 (Nat.le_trans h2 (Nat.le_of_ble_eq_true rfl))
theorem w_getI {idx ci k c : Nat} {ks : List (Nat × Value)} {z : Value} (h : am_at M pc = some (.getfield idx, 3)) (hp : pc + 3 = pc') (hf : (am_fld M.1).lookup idx = some (ci, k)) (hs : am_sh[c]? = some (.inr (.inr (ci, ks)))) (hk : ks[k]? = some (0, z)) (kk : am_P xs d M pc' L (.int (m.1 c k) :: r) m Q) : am_P xs d M pc L (.ref c :: r) m Q := w_get h hp hf hs hk (am_sh_lt hs) kk
theorem w_getB {idx ci k c : Nat} {ks : List (Nat × Value)} {z : Value} (h : am_at M pc = some (.getfield idx, 3)) (hp : pc + 3 = pc') (hf : (am_fld M.1).lookup idx = some (ci, k)) (hs : am_sh[c]? = some (.inr (.inr (ci, ks)))) (hk : ks[k]? = some (1, z)) (kk : am_P xs d M pc' L (.int (am_b (m.1 c k)) :: r) m Q) : am_P xs d M pc L (.ref c :: r) m Q := w_get h hp hf hs hk (am_sh_lt hs) kk
theorem w_getM {idx ci k c : Nat} {ks : List (Nat × Value)} {z : Value} (h : am_at M pc = some (.getfield idx, 3)) (hp : pc + 3 = pc') (hf : (am_fld M.1).lookup idx = some (ci, k)) (hs : am_sh[c]? = some (.inr (.inr (ci, ks)))) (hk : ks[k]? = some (2, z)) (kk : am_P xs d M pc' L (am_dec (m.1 c k) :: r) m Q) : am_P xs d M pc L (.ref c :: r) m Q := w_get h hp hf hs hk (am_sh_lt hs) kk
theorem w_getC {idx ci k c : Nat} {ks : List (Nat × Value)} {z : Value} (h : am_at M pc = some (.getfield idx, 3)) (hp : pc + 3 = pc') (hf : (am_fld M.1).lookup idx = some (ci, k)) (hs : am_sh[c]? = some (.inr (.inr (ci, ks)))) (hk : ks[k]? = some (3, z)) (kk : am_P xs d M pc' L (z :: r) m Q) : am_P xs d M pc L (.ref c :: r) m Q := w_get h hp hf hs hk (am_sh_lt hs) kk
theorem w_put {idx ci k c : Nat} {ks : List (Nat × Value)} {kd : Nat × Value} (x : Int32) (v : Value) (h : am_at M pc = some (.putfield idx, 3)) (hp : pc + 3 = pc') (hf : (am_fld M.1).lookup idx = some (ci, k)) (hs : am_sh[c]? = some (.inr (.inr (ci, ks)))) (hk : ks[k]? = some kd) (hw : am_sv (am_u m c k x) c k kd = v) (hn : narrow (am_y ci k) v = v) (hft : fits (am_y ci k) v = true) (hfin : (am_T ci k).2.2.2 = false) (kk : am_P xs d M pc' L r (am_u m c k x) Q) : am_P xs d M pc L (v :: .ref c :: r) m Q := by
  subst hp
  refine am_P_go h (fun cl => ?_) kk
  unfold am_ins am_putf
  dsimp only
  rw [hf, am_rep_at m hs]
  show (if _ ∧ _ then _ else _) = _
  have hkl : k < (ks.mapIdx (am_sv m c)).length := by simpa using (List.getElem?_eq_some_iff.mp hk).1
  rw [if_pos ⟨rfl, am_sh_lt hs, hkl, hn, hft, fun q => by rw [hfin] at q; cases q⟩, am_put0 m x v hs hk hw]
  rfl
theorem am_sv0 {x : Int32} {c k : Nat} {z : Value} : am_sv (am_u m c k x) c k (0, z) = .int x := by
  show Value.int ((am_u m c k x).1 c k) = _
  rw [show (am_u m c k x).1 c k = x from if_pos ⟨rfl, rfl⟩]
theorem w_putI {idx ci k c : Nat} {ks : List (Nat × Value)} {z : Value} {x : Int32} (h : am_at M pc = some (.putfield idx, 3)) (hp : pc + 3 = pc') (hf : (am_fld M.1).lookup idx = some (ci, k)) (hs : am_sh[c]? = some (.inr (.inr (ci, ks)))) (hk : ks[k]? = some (0, z)) (hty : am_y ci k = .int) (hfin : (am_T ci k).2.2.2 = false) (kk : am_P xs d M pc' L r (am_u m c k x) Q) : am_P xs d M pc L (.int x :: .ref c :: r) m Q := w_put x _ h hp hf hs hk am_sv0 (by rw [hty]; rfl) (by rw [hty]; rfl) hfin kk
theorem w_putB {idx ci k c : Nat} {ks : List (Nat × Value)} {z : Value} {x : Int32} (h : am_at M pc = some (.putfield idx, 3)) (hp : pc + 3 = pc') (hf : (am_fld M.1).lookup idx = some (ci, k)) (hs : am_sh[c]? = some (.inr (.inr (ci, ks)))) (hk : ks[k]? = some (1, z)) (hty : am_y ci k = .boolean) (hx : x = 0 ∨ x = 1) (hfin : (am_T ci k).2.2.2 = false) (kk : am_P xs d M pc' L r (am_u m c k x) Q) : am_P xs d M pc L (.int x :: .ref c :: r) m Q := by
  refine w_put x _ h hp hf hs hk ?_ ?_ ?_ hfin kk
  · show Value.int (am_b ((am_u m c k x).1 c k)) = _
    rw [show (am_u m c k x).1 c k = x from if_pos ⟨rfl, rfl⟩]
    rcases hx with rfl | rfl <;> rfl
  · rw [hty]; rcases hx with rfl | rfl <;> rfl
  · rw [hty]; rcases hx with rfl | rfl <;> rfl
theorem w_putM {idx ci k c : Nat} {ks : List (Nat × Value)} {z v : Value} {C : String} (x : Int32) (h : am_at M pc = some (.putfield idx, 3)) (hp : pc + 3 = pc') (hf : (am_fld M.1).lookup idx = some (ci, k)) (hs : am_sh[c]? = some (.inr (.inr (ci, ks)))) (hk : ks[k]? = some (2, z)) (hty : am_y ci k = .object C) (hx : am_dec x = v) (hfin : (am_T ci k).2.2.2 = false) (kk : am_P xs d M pc' L r (am_u m c k x) Q) : am_P xs d M pc L (v :: .ref c :: r) m Q := by
  have hd : v = .null ∨ ∃ a, v = .ref a := by
    subst hx; unfold am_dec; split
    · exact Or.inl rfl
    · exact Or.inr ⟨_, rfl⟩
  refine w_put x _ h hp hf hs hk ?_ ?_ ?_ hfin kk
  · show am_dec ((am_u m c k x).1 c k) = _
    rw [show (am_u m c k x).1 c k = x from if_pos ⟨rfl, rfl⟩, hx]
  · rw [hty]; rcases hd with rfl | ⟨a, rfl⟩ <;> rfl
  · rw [hty]; rcases hd with rfl | ⟨a, rfl⟩ <;> rfl
theorem am_arr_rep {c n : Nat} {ty : FieldType} (h : am_sh[c]? = some (.inl (ty, n))) (hty : ty ≠ .long) : am_arr xs (am_rep m) c = some (ty, .inl ((List.range n).map (m.1 c))) := by
  unfold am_arr
  rw [if_pos (am_sh_lt h), am_rep_at m h]
  show (match some (am_ent m c (.inl (ty, n))) with | some (.inl q) => some q | _ => none) = _
  unfold am_ent
  dsimp only
  rw [if_neg hty]
theorem am_arr_repJ {c n : Nat} (h : am_sh[c]? = some (.inl (.long, n))) : am_arr xs (am_rep m) c = some (.long, .inr (.inl ((List.range n).map (m.2 c)))) := by
  unfold am_arr
  rw [if_pos (am_sh_lt h), am_rep_at m h]
  rfl
theorem am_get_rg {α : Type} {f : Nat → α} {n j : Nat} (hj : j < n) (hn : n < 2 ^ 31) : am_get ((List.range n).map f) (nI j) = some (f j) := by
  unfold am_get
  rw [if_neg (nI_pos (Nat.lt_trans hj hn)), nI_clamp (Nat.lt_trans hj hn), List.getElem?_map, List.getElem?_range hj]
  rfl
theorem w_iald {c n j : Nat} {x : Int32} (h : am_at M pc = some (.iaload, 1)) (hp : pc + 1 = pc') (hs : am_sh[c]? = some (.inl (.int, n))) (hx : x = nI j) (hj : j < n) (hn : n < 2 ^ 31) (kk : am_P xs d M pc' L (.int (m.1 c j) :: r) m Q) : am_P xs d M pc L (.int x :: .ref c :: r) m Q := by
  subst hp; subst hx
  refine am_P_go h (fun cl => ?_) kk
  unfold am_ins am_aload
  dsimp only
  rw [am_arr_rep hs (by decide)]
  dsimp only
  rw [if_pos (by decide), am_get_rg hj hn]
  rfl
theorem w_bald {c n j : Nat} {x : Int32} {ty : FieldType} (h : am_at M pc = some (.baload, 1)) (hp : pc + 1 = pc') (hs : am_sh[c]? = some (.inl (ty, n))) (ht : ty = .byte ∨ ty = .boolean) (hx : x = nI j) (hj : j < n) (hn : n < 2 ^ 31) (kk : am_P xs d M pc' L (.int (m.1 c j) :: r) m Q) : am_P xs d M pc L (.int x :: .ref c :: r) m Q := by
  subst hp; subst hx
  refine am_P_go h (fun cl => ?_) kk
  unfold am_ins am_aload
  dsimp only
  rw [am_arr_rep hs (by rcases ht with rfl | rfl <;> decide)]
  dsimp only
  rw [if_pos (by rcases ht with rfl | rfl <;> decide), am_get_rg hj hn]
  rfl
theorem w_lald {c n j : Nat} {x : Int32} (h : am_at M pc = some (.laload, 1)) (hp : pc + 1 = pc') (hs : am_sh[c]? = some (.inl (.long, n))) (hx : x = nI j) (hj : j < n) (hn : n < 2 ^ 31) (kk : am_P xs d M pc' L (.long (m.2 c j) :: r) m Q) : am_P xs d M pc L (.int x :: .ref c :: r) m Q := by
  subst hp; subst hx
  refine am_P_go h (fun cl => ?_) kk
  unfold am_ins am_lald
  dsimp only
  rw [am_arr_repJ hs]
  dsimp only
  rw [am_get_rg hj hn]
  rfl
theorem w_aald {c j a : Nat} {x : Int32} {C : String} {l : List (Option Nat)} (h : am_at M pc = some (.aaload, 1)) (hp : pc + 1 = pc') (hs : am_sh[c]? = some (.inr (.inl (.object C, l)))) (hx : x = nI j) (hj : l[j]? = some (some a)) (hn : j < 2 ^ 31) (ha : a < 1000000) (kk : am_P xs d M pc' L (.ref a :: r) m Q) : am_P xs d M pc L (.int x :: .ref c :: r) m Q := by
  subst hp; subst hx
  refine am_P_go h (fun cl => ?_) kk
  unfold am_ins am_aald am_arr
  dsimp only
  rw [if_pos (am_sh_lt hs), am_rep_at m hs]
  show (match am_get l (nI j) with | some x => if x.all (fun q => decide (q < 1000000)) = true then am_nx (pc + 1) L (am_rf x :: r) (am_rep m) else none | none => none) = _
  unfold am_get
  rw [if_neg (nI_pos hn), nI_clamp hn, hj]
  dsimp only
  rw [if_pos (by simpa using ha)]
  rfl
/-- arrays that nobody writes -/
theorem w_ialdR {c j : Nat} {x : Int32} {l : List Int32} {v : Int32} (h : am_at M pc = some (.iaload, 1)) (hp : pc + 1 = pc') (hc : ¬ c < 1000000) (hs : am_ro xs (c - 1000000) = some (.int, l)) (hx : x = nI j) (hj : l[j]? = some v) (hn : j < 2 ^ 31) (kk : am_P xs d M pc' L (.int v :: r) m Q) : am_P xs d M pc L (.int x :: .ref c :: r) m Q := by
  subst hp; subst hx
  refine am_P_go h (fun cl => ?_) kk
  unfold am_ins am_aload am_arr
  dsimp only
  rw [if_neg hc, hs]
  dsimp only
  rw [if_pos (by decide)]
  unfold am_get
  rw [if_neg (nI_pos hn), nI_clamp hn, hj]
  rfl
theorem w_baldR {c j : Nat} {x : Int32} {l : List Int32} {v : Int32} (h : am_at M pc = some (.baload, 1)) (hp : pc + 1 = pc') (hc : ¬ c < 1000000) (hs : am_ro xs (c - 1000000) = some (.byte, l)) (hx : x = nI j) (hj : l[j]? = some v) (hn : j < 2 ^ 31) (kk : am_P xs d M pc' L (.int v :: r) m Q) : am_P xs d M pc L (.int x :: .ref c :: r) m Q := by
  subst hp; subst hx
  refine am_P_go h (fun cl => ?_) kk
  unfold am_ins am_aload am_arr
  dsimp only
  rw [if_neg hc, hs]
  dsimp only
  rw [if_pos (by decide)]
  unfold am_get
  rw [if_neg (nI_pos hn), nI_clamp hn, hj]
  rfl
theorem w_alenR {c : Nat} {ty : FieldType} {l : List Int32} {v : Int32} (h : am_at M pc = some (.arraylength, 1)) (hp : pc + 1 = pc') (hc : ¬ c < 1000000) (hs : am_ro xs (c - 1000000) = some (ty, l)) (hv : nI l.length = v) (kk : am_P xs d M pc' L (.int v :: r) m Q) : am_P xs d M pc L (.ref c :: r) m Q := by
  subst hp; subst hv
  refine am_P_go h (fun cl => ?_) kk
  unfold am_ins am_alen am_arr
  dsimp only
  rw [if_neg hc, hs]
  rfl
theorem w_alen {c n : Nat} {v : Int32} {ty : FieldType} (h : am_at M pc = some (.arraylength, 1)) (hp : pc + 1 = pc') (hs : am_sh[c]? = some (.inl (ty, n))) (ht : ty ≠ .long) (hv : nI n = v) (kk : am_P xs d M pc' L (.int v :: r) m Q) : am_P xs d M pc L (.ref c :: r) m Q := by
  subst hp; subst hv
  refine am_P_go h (fun cl => ?_) kk
  unfold am_ins am_alen
  dsimp only
  rw [am_arr_rep hs ht]
  show am_nx _ _ (.int (Int32.ofNat ((List.range n).map (m.1 c)).length) :: r) _ = _
  rw [List.length_map, List.length_range]
  rfl
theorem am_rep_arr {c n : Nat} {ty : FieldType} (h : am_sh[c]? = some (.inl (ty, n))) (hty : ty ≠ .long) : (am_rep m)[c]? = some (.inl (ty, .inl ((List.range n).map (m.1 c)))) := by
  rw [am_rep_at m h]
  unfold am_ent
  dsimp only
  rw [if_neg hty]
theorem w_iast {c n j : Nat} {x v : Int32} (h : am_at M pc = some (.iastore, 1)) (hp : pc + 1 = pc') (hs : am_sh[c]? = some (.inl (.int, n))) (hx : x = nI j) (hj : j < n) (hn : n < 2 ^ 31) (kk : am_P xs d M pc' L r (am_u m c j v) Q) : am_P xs d M pc L (.int v :: .int x :: .ref c :: r) m Q := by
  subst hp; subst hx
  refine am_P_go h (fun cl => ?_) kk
  unfold am_ins am_astore
  dsimp only
  rw [am_rep_arr hs (by decide)]
  dsimp only
  have hjj : j < 2 ^ 31 := Nat.lt_trans hj hn
  rw [if_pos ⟨am_sh_lt hs, nI_pos hjj, by rw [nI_clamp hjj]; simpa using hj, by decide⟩, nI_clamp hjj, am_putA m v hs (by decide)]
  rfl
theorem w_bast {c n j : Nat} {x v u : Int32} {ty : FieldType} (h : am_at M pc = some (.bastore, 1)) (hp : pc + 1 = pc') (hs : am_sh[c]? = some (.inl (ty, n))) (ht : ty = .byte ∨ ty = .boolean) (hu : vp_nar ty v = u) (hx : x = nI j) (hj : j < n) (hn : n < 2 ^ 31) (kk : am_P xs d M pc' L r (am_u m c j u) Q) : am_P xs d M pc L (.int v :: .int x :: .ref c :: r) m Q := by
  subst hp; subst hx; subst hu
  refine am_P_go h (fun cl => ?_) kk
  unfold am_ins am_astore
  dsimp only
  have hl : ty ≠ .long := by rcases ht with rfl | rfl <;> decide
  rw [am_rep_arr hs hl]
  dsimp only
  have hjj : j < 2 ^ 31 := Nat.lt_trans hj hn
  rw [if_pos ⟨am_sh_lt hs, nI_pos hjj, by rw [nI_clamp hjj]; simpa using hj, by rcases ht with rfl | rfl <;> decide⟩, nI_clamp hjj, am_putA m (vp_nar ty v) hs hl]
  rfl
theorem w_last {c n j : Nat} {x : Int32} {v : Int64} (h : am_at M pc = some (.lastore, 1)) (hp : pc + 1 = pc') (hs : am_sh[c]? = some (.inl (.long, n))) (hx : x = nI j) (hj : j < n) (hn : n < 2 ^ 31) (kk : am_P xs d M pc' L r (am_uJ m c j v) Q) : am_P xs d M pc L (.long v :: .int x :: .ref c :: r) m Q := by
  subst hp; subst hx
  refine am_P_go h (fun cl => ?_) kk
  unfold am_ins am_last
  dsimp only
  rw [am_rep_at m hs]
  have hjj : j < 2 ^ 31 := Nat.lt_trans hj hn
  show (if _ then _ else _) = _
  rw [if_pos ⟨am_sh_lt hs, nI_pos hjj, by rw [nI_clamp hjj]; simpa using hj⟩, nI_clamp hjj]
  show am_nx _ _ _ ((am_rep m).set c (.inl (.long, .inr (.inl (((List.range n).map (m.2 c)).set j v))))) = _
  rw [am_putJ m v hs]
  rfl
theorem w_gets {idx sid : Nat} {v : Value} (h : am_at M pc = some (.getstatic idx, 3)) (hp : pc + 3 = pc') (hs : ∀ es, am_gets M.1 idx st (pc + 3) L es = some (.inl (pc + 3, L, v :: st, es))) (kk : am_P xs d M pc' L (v :: st) m Q) : am_P xs d M pc L st m Q := by
  subst hp
  exact am_P_go h (fun cl => hs _) kk
theorem w_getS {idx c : Nat} {v : Value} (h : am_at M pc = some (.getfield idx, 3)) (hp : pc + 3 = pc') (hs : ∀ es, am_getf M.1 idx (.ref c :: r) (pc + 3) L es = some (.inl (pc + 3, L, v :: r, es))) (kk : am_P xs d M pc' L (v :: r) m Q) : am_P xs d M pc L (.ref c :: r) m Q := by
  subst hp
  exact am_P_go h (fun cl => hs _) kk
theorem w_iret {x : Int32} {ty : FieldType} (h : am_at M pc = some (.ireturn, 1)) (hr : M.2.1 = some ty) (hn : narrow ty (.int x) = .int x) (hq : Q (some (.int x)) m) : am_P xs d M pc L [.int x] m Q := by
  refine am_P_ret h (fun cl => ?_) hq
  unfold am_ins am_iret
  rw [hr]
  dsimp only
  rw [if_pos hn]
theorem w_lret {x : Int64} (h : am_at M pc = some (.lreturn, 1)) (hr : M.2.1 = some .long) (hq : Q (some (.long x)) m) : am_P xs d M pc L [.long x] m Q := by
  refine am_P_ret h (fun cl => ?_) hq
  unfold am_ins am_lret
  rw [hr]
theorem w_aret {v : Value} (h : am_at M pc = some (.areturn, 1)) (hr : (∃ C, M.2.1 = some (.object C)) ∨ ∃ C, M.2.1 = some (.array C)) (hv : am_isA v = true) (hq : Q (some v) m) : am_P xs d M pc L [v] m Q := by
  refine am_P_ret h (fun cl => ?_) hq
  unfold am_ins am_aret
  rcases hr with ⟨C, hr⟩ | ⟨C, hr⟩ <;> rw [hr] <;> dsimp only <;> rw [if_pos hv]
theorem w_vret (h : am_at M pc = some (.return_, 1)) (hr : M.2.1 = none) (hq : Q none m) : am_P xs d M pc L [] m Q := by
  refine am_P_ret h (fun cl => ?_) hq
  unfold am_ins am_vret
  rw [hr]
theorem am_recv_ok {y c ci : Nat} {ks : List (Nat × Value)} (hs : am_sh[c]? = some (.inr (.inr (ci, ks)))) (ho : am_ow y = ci) : am_recv y c (am_rep m) = true := by
  unfold am_recv
  rw [if_pos (am_sh_lt hs), am_rep_at m hs]
  show decide (ci = am_ow y) = true
  rw [ho]; simp
theorem am_recv_str {y c : Nat} (hc : ¬ c < 1000000) (hc2 : c < 1000005) (ho : am_ow y = 10) : am_recv y c (am_rep m) = true := by
  unfold am_recv
  rw [if_neg hc]
  simp [hc2, ho]
def am_qi (x : Int32) (G : am_Mm → Prop) : am_Q := fun r m' => r = some (.int x) ∧ G m'
def am_qj (x : Int64) (G : am_Mm → Prop) : am_Q := fun r m' => r = some (.long x) ∧ G m'
def am_qa (x : Value) (G : am_Mm → Prop) : am_Q := fun r m' => r = some x ∧ G m'
def am_qn (G : am_Mm → Prop) : am_Q := fun r m' => r = none ∧ G m'
theorem w_cV0 {c idx y : Nat} {Q' : am_Q} (h : am_at M pc = some (.invokevirtual idx, 3)) (hp : pc + 3 = pc') (hm : (am_mt M.1).lookup idx = some (0, y, 0)) (hc : am_cat r ≤ 8) (hr : am_recv y c (am_rep m) = true) (hv : am_V xs d y [.ref c] m Q') (k : ∀ v m', Q' v m' → am_P xs d M pc' L (v.toList ++ r) m' Q) : am_P xs d M pc L (.ref c :: r) m Q := by
  refine am_P_cal h (fun cl => rfl) hp hm (by decide) (fun cl => ?_) hv k
  unfold am_inv
  rw [if_neg (by decide)]
  show (if _ then _ else _) = _
  rw [if_pos ⟨hc, Or.inr ⟨rfl, hr⟩⟩]
  rfl
theorem w_cV0i {x : Int32}{c idx y ci d' : Nat} {ks : List (Nat × Value)} {G : am_Mm → Prop} (hv : am_V xs d' y [.ref c] m (am_qi x G)) (hd : d' ≤ d) (h : am_at M pc = some (.invokevirtual idx, 3)) (hp : pc + 3 = pc') (hm : (am_mt M.1).lookup idx = some (0, y, 0)) (hc : am_cat r ≤ 8) (hs : am_sh[c]? = some (.inr (.inr (ci, ks)))) (ho : am_ow y = ci) (k : ∀ m', G m' → am_P xs d M pc' L (.int x :: r) m' Q) : am_P xs d M pc L (.ref c :: r) m Q := w_cV0 h hp hm hc (am_recv_ok hs ho) (hv.up hd) (fun v m' q => by obtain ⟨rfl, q⟩ := q; exact k m' q)
theorem w_cV0j {x : Int64}{c idx y ci d' : Nat} {ks : List (Nat × Value)} {G : am_Mm → Prop} (hv : am_V xs d' y [.ref c] m (am_qj x G)) (hd : d' ≤ d) (h : am_at M pc = some (.invokevirtual idx, 3)) (hp : pc + 3 = pc') (hm : (am_mt M.1).lookup idx = some (0, y, 0)) (hc : am_cat r ≤ 8) (hs : am_sh[c]? = some (.inr (.inr (ci, ks)))) (ho : am_ow y = ci) (k : ∀ m', G m' → am_P xs d M pc' L (.long x :: r) m' Q) : am_P xs d M pc L (.ref c :: r) m Q := w_cV0 h hp hm hc (am_recv_ok hs ho) (hv.up hd) (fun v m' q => by obtain ⟨rfl, q⟩ := q; exact k m' q)
theorem w_cV0a {x : Value}{c idx y ci d' : Nat} {ks : List (Nat × Value)} {G : am_Mm → Prop} (hv : am_V xs d' y [.ref c] m (am_qa x G)) (hd : d' ≤ d) (h : am_at M pc = some (.invokevirtual idx, 3)) (hp : pc + 3 = pc') (hm : (am_mt M.1).lookup idx = some (0, y, 0)) (hc : am_cat r ≤ 8) (hs : am_sh[c]? = some (.inr (.inr (ci, ks)))) (ho : am_ow y = ci) (k : ∀ m', G m' → am_P xs d M pc' L (x :: r) m' Q) : am_P xs d M pc L (.ref c :: r) m Q := w_cV0 h hp hm hc (am_recv_ok hs ho) (hv.up hd) (fun v m' q => by obtain ⟨rfl, q⟩ := q; exact k m' q)
theorem w_cV0n {c idx y ci d' : Nat} {ks : List (Nat × Value)} {G : am_Mm → Prop} (hv : am_V xs d' y [.ref c] m (am_qn G)) (hd : d' ≤ d) (h : am_at M pc = some (.invokevirtual idx, 3)) (hp : pc + 3 = pc') (hm : (am_mt M.1).lookup idx = some (0, y, 0)) (hc : am_cat r ≤ 8) (hs : am_sh[c]? = some (.inr (.inr (ci, ks)))) (ho : am_ow y = ci) (k : ∀ m', G m' → am_P xs d M pc' L r m' Q) : am_P xs d M pc L (.ref c :: r) m Q := w_cV0 h hp hm hc (am_recv_ok hs ho) (hv.up hd) (fun v m' q => by obtain ⟨rfl, q⟩ := q; exact k m' q)
theorem w_cV1 {b1 : Value} {c idx y : Nat} {Q' : am_Q} (h : am_at M pc = some (.invokevirtual idx, 3)) (hp : pc + 3 = pc') (hm : (am_mt M.1).lookup idx = some (0, y, 1)) (hc : am_cat r ≤ 8) (hr : am_recv y c (am_rep m) = true) (hv : am_V xs d y [.ref c, b1] m Q') (k : ∀ v m', Q' v m' → am_P xs d M pc' L (v.toList ++ r) m' Q) : am_P xs d M pc L (b1 :: .ref c :: r) m Q := by
  refine am_P_cal h (fun cl => rfl) hp hm (by decide) (fun cl => ?_) hv k
  unfold am_inv
  rw [if_neg (by decide)]
  show (if _ then _ else _) = _
  rw [if_pos ⟨hc, Or.inr ⟨rfl, hr⟩⟩]
  rfl
theorem w_cV1i {b1 : Value} {x : Int32}{c idx y ci d' : Nat} {ks : List (Nat × Value)} {G : am_Mm → Prop} (hv : am_V xs d' y [.ref c, b1] m (am_qi x G)) (hd : d' ≤ d) (h : am_at M pc = some (.invokevirtual idx, 3)) (hp : pc + 3 = pc') (hm : (am_mt M.1).lookup idx = some (0, y, 1)) (hc : am_cat r ≤ 8) (hs : am_sh[c]? = some (.inr (.inr (ci, ks)))) (ho : am_ow y = ci) (k : ∀ m', G m' → am_P xs d M pc' L (.int x :: r) m' Q) : am_P xs d M pc L (b1 :: .ref c :: r) m Q := w_cV1 h hp hm hc (am_recv_ok hs ho) (hv.up hd) (fun v m' q => by obtain ⟨rfl, q⟩ := q; exact k m' q)
theorem w_cV1j {b1 : Value} {x : Int64}{c idx y ci d' : Nat} {ks : List (Nat × Value)} {G : am_Mm → Prop} (hv : am_V xs d' y [.ref c, b1] m (am_qj x G)) (hd : d' ≤ d) (h : am_at M pc = some (.invokevirtual idx, 3)) (hp : pc + 3 = pc') (hm : (am_mt M.1).lookup idx = some (0, y, 1)) (hc : am_cat r ≤ 8) (hs : am_sh[c]? = some (.inr (.inr (ci, ks)))) (ho : am_ow y = ci) (k : ∀ m', G m' → am_P xs d M pc' L (.long x :: r) m' Q) : am_P xs d M pc L (b1 :: .ref c :: r) m Q := w_cV1 h hp hm hc (am_recv_ok hs ho) (hv.up hd) (fun v m' q => by obtain ⟨rfl, q⟩ := q; exact k m' q)
theorem w_cV1a {b1 : Value} {x : Value}{c idx y ci d' : Nat} {ks : List (Nat × Value)} {G : am_Mm → Prop} (hv : am_V xs d' y [.ref c, b1] m (am_qa x G)) (hd : d' ≤ d) (h : am_at M pc = some (.invokevirtual idx, 3)) (hp : pc + 3 = pc') (hm : (am_mt M.1).lookup idx = some (0, y, 1)) (hc : am_cat r ≤ 8) (hs : am_sh[c]? = some (.inr (.inr (ci, ks)))) (ho : am_ow y = ci) (k : ∀ m', G m' → am_P xs d M pc' L (x :: r) m' Q) : am_P xs d M pc L (b1 :: .ref c :: r) m Q := w_cV1 h hp hm hc (am_recv_ok hs ho) (hv.up hd) (fun v m' q => by obtain ⟨rfl, q⟩ := q; exact k m' q)
theorem w_cV1n {b1 : Value} {c idx y ci d' : Nat} {ks : List (Nat × Value)} {G : am_Mm → Prop} (hv : am_V xs d' y [.ref c, b1] m (am_qn G)) (hd : d' ≤ d) (h : am_at M pc = some (.invokevirtual idx, 3)) (hp : pc + 3 = pc') (hm : (am_mt M.1).lookup idx = some (0, y, 1)) (hc : am_cat r ≤ 8) (hs : am_sh[c]? = some (.inr (.inr (ci, ks)))) (ho : am_ow y = ci) (k : ∀ m', G m' → am_P xs d M pc' L r m' Q) : am_P xs d M pc L (b1 :: .ref c :: r) m Q := w_cV1 h hp hm hc (am_recv_ok hs ho) (hv.up hd) (fun v m' q => by obtain ⟨rfl, q⟩ := q; exact k m' q)
theorem w_cS1 {b1 : Value} {idx y k0 : Nat} {Q' : am_Q} (h : am_at M pc = some (.invokestatic idx, 3)) (hp : pc + 3 = pc') (hm : (am_mt M.1).lookup idx = some (k0, y, 1)) (hk : k0 = 1 ∨ k0 = 4) (hc : am_cat r ≤ 8) (hv : am_V xs d y [b1] m Q') (k : ∀ v m', Q' v m' → am_P xs d M pc' L (v.toList ++ r) m' Q) : am_P xs d M pc L (b1 :: r) m Q := by
  refine am_P_cal h (fun cl => rfl) hp hm (by rcases hk with rfl | rfl <;> decide) (fun cl => ?_) hv k
  unfold am_inv
  rw [if_pos hk, if_pos ⟨by simp only [List.length_cons]; omega, hc⟩]
  rfl
theorem w_cS1i {b1 : Value} {x : Int32}{idx y k0 d' : Nat} {G : am_Mm → Prop} (hv : am_V xs d' y [b1] m (am_qi x G)) (hd : d' ≤ d) (h : am_at M pc = some (.invokestatic idx, 3)) (hp : pc + 3 = pc') (hm : (am_mt M.1).lookup idx = some (k0, y, 1)) (hk : k0 = 1 ∨ k0 = 4) (hc : am_cat r ≤ 8) (k : ∀ m', G m' → am_P xs d M pc' L (.int x :: r) m' Q) : am_P xs d M pc L (b1 :: r) m Q := w_cS1 h hp hm hk hc (hv.up hd) (fun v m' q => by obtain ⟨rfl, q⟩ := q; exact k m' q)
theorem w_cS1j {b1 : Value} {x : Int64}{idx y k0 d' : Nat} {G : am_Mm → Prop} (hv : am_V xs d' y [b1] m (am_qj x G)) (hd : d' ≤ d) (h : am_at M pc = some (.invokestatic idx, 3)) (hp : pc + 3 = pc') (hm : (am_mt M.1).lookup idx = some (k0, y, 1)) (hk : k0 = 1 ∨ k0 = 4) (hc : am_cat r ≤ 8) (k : ∀ m', G m' → am_P xs d M pc' L (.long x :: r) m' Q) : am_P xs d M pc L (b1 :: r) m Q := w_cS1 h hp hm hk hc (hv.up hd) (fun v m' q => by obtain ⟨rfl, q⟩ := q; exact k m' q)
theorem w_cS1a {b1 : Value} {x : Value}{idx y k0 d' : Nat} {G : am_Mm → Prop} (hv : am_V xs d' y [b1] m (am_qa x G)) (hd : d' ≤ d) (h : am_at M pc = some (.invokestatic idx, 3)) (hp : pc + 3 = pc') (hm : (am_mt M.1).lookup idx = some (k0, y, 1)) (hk : k0 = 1 ∨ k0 = 4) (hc : am_cat r ≤ 8) (k : ∀ m', G m' → am_P xs d M pc' L (x :: r) m' Q) : am_P xs d M pc L (b1 :: r) m Q := w_cS1 h hp hm hk hc (hv.up hd) (fun v m' q => by obtain ⟨rfl, q⟩ := q; exact k m' q)
theorem w_cS1n {b1 : Value} {idx y k0 d' : Nat} {G : am_Mm → Prop} (hv : am_V xs d' y [b1] m (am_qn G)) (hd : d' ≤ d) (h : am_at M pc = some (.invokestatic idx, 3)) (hp : pc + 3 = pc') (hm : (am_mt M.1).lookup idx = some (k0, y, 1)) (hk : k0 = 1 ∨ k0 = 4) (hc : am_cat r ≤ 8) (k : ∀ m', G m' → am_P xs d M pc' L r m' Q) : am_P xs d M pc L (b1 :: r) m Q := w_cS1 h hp hm hk hc (hv.up hd) (fun v m' q => by obtain ⟨rfl, q⟩ := q; exact k m' q)
theorem w_cV2 {b1 b2 : Value} {c idx y : Nat} {Q' : am_Q} (h : am_at M pc = some (.invokevirtual idx, 3)) (hp : pc + 3 = pc') (hm : (am_mt M.1).lookup idx = some (0, y, 2)) (hc : am_cat r ≤ 8) (hr : am_recv y c (am_rep m) = true) (hv : am_V xs d y [.ref c, b1, b2] m Q') (k : ∀ v m', Q' v m' → am_P xs d M pc' L (v.toList ++ r) m' Q) : am_P xs d M pc L (b2 :: b1 :: .ref c :: r) m Q := by
  refine am_P_cal h (fun cl => rfl) hp hm (by decide) (fun cl => ?_) hv k
  unfold am_inv
  rw [if_neg (by decide)]
  show (if _ then _ else _) = _
  rw [if_pos ⟨hc, Or.inr ⟨rfl, hr⟩⟩]
  rfl
theorem w_cV2i {b1 b2 : Value} {x : Int32}{c idx y ci d' : Nat} {ks : List (Nat × Value)} {G : am_Mm → Prop} (hv : am_V xs d' y [.ref c, b1, b2] m (am_qi x G)) (hd : d' ≤ d) (h : am_at M pc = some (.invokevirtual idx, 3)) (hp : pc + 3 = pc') (hm : (am_mt M.1).lookup idx = some (0, y, 2)) (hc : am_cat r ≤ 8) (hs : am_sh[c]? = some (.inr (.inr (ci, ks)))) (ho : am_ow y = ci) (k : ∀ m', G m' → am_P xs d M pc' L (.int x :: r) m' Q) : am_P xs d M pc L (b2 :: b1 :: .ref c :: r) m Q := w_cV2 h hp hm hc (am_recv_ok hs ho) (hv.up hd) (fun v m' q => by obtain ⟨rfl, q⟩ := q; exact k m' q)
theorem w_cV2j {b1 b2 : Value} {x : Int64}{c idx y ci d' : Nat} {ks : List (Nat × Value)} {G : am_Mm → Prop} (hv : am_V xs d' y [.ref c, b1, b2] m (am_qj x G)) (hd : d' ≤ d) (h : am_at M pc = some (.invokevirtual idx, 3)) (hp : pc + 3 = pc') (hm : (am_mt M.1).lookup idx = some (0, y, 2)) (hc : am_cat r ≤ 8) (hs : am_sh[c]? = some (.inr (.inr (ci, ks)))) (ho : am_ow y = ci) (k : ∀ m', G m' → am_P xs d M pc' L (.long x :: r) m' Q) : am_P xs d M pc L (b2 :: b1 :: .ref c :: r) m Q := w_cV2 h hp hm hc (am_recv_ok hs ho) (hv.up hd) (fun v m' q => by obtain ⟨rfl, q⟩ := q; exact k m' q)
theorem w_cV2a {b1 b2 : Value} {x : Value}{c idx y ci d' : Nat} {ks : List (Nat × Value)} {G : am_Mm → Prop} (hv : am_V xs d' y [.ref c, b1, b2] m (am_qa x G)) (hd : d' ≤ d) (h : am_at M pc = some (.invokevirtual idx, 3)) (hp : pc + 3 = pc') (hm : (am_mt M.1).lookup idx = some (0, y, 2)) (hc : am_cat r ≤ 8) (hs : am_sh[c]? = some (.inr (.inr (ci, ks)))) (ho : am_ow y = ci) (k : ∀ m', G m' → am_P xs d M pc' L (x :: r) m' Q) : am_P xs d M pc L (b2 :: b1 :: .ref c :: r) m Q := w_cV2 h hp hm hc (am_recv_ok hs ho) (hv.up hd) (fun v m' q => by obtain ⟨rfl, q⟩ := q; exact k m' q)
theorem w_cV2n {b1 b2 : Value} {c idx y ci d' : Nat} {ks : List (Nat × Value)} {G : am_Mm → Prop} (hv : am_V xs d' y [.ref c, b1, b2] m (am_qn G)) (hd : d' ≤ d) (h : am_at M pc = some (.invokevirtual idx, 3)) (hp : pc + 3 = pc') (hm : (am_mt M.1).lookup idx = some (0, y, 2)) (hc : am_cat r ≤ 8) (hs : am_sh[c]? = some (.inr (.inr (ci, ks)))) (ho : am_ow y = ci) (k : ∀ m', G m' → am_P xs d M pc' L r m' Q) : am_P xs d M pc L (b2 :: b1 :: .ref c :: r) m Q := w_cV2 h hp hm hc (am_recv_ok hs ho) (hv.up hd) (fun v m' q => by obtain ⟨rfl, q⟩ := q; exact k m' q)
theorem w_cS2 {b1 b2 : Value} {idx y k0 : Nat} {Q' : am_Q} (h : am_at M pc = some (.invokestatic idx, 3)) (hp : pc + 3 = pc') (hm : (am_mt M.1).lookup idx = some (k0, y, 2)) (hk : k0 = 1 ∨ k0 = 4) (hc : am_cat r ≤ 8) (hv : am_V xs d y [b1, b2] m Q') (k : ∀ v m', Q' v m' → am_P xs d M pc' L (v.toList ++ r) m' Q) : am_P xs d M pc L (b2 :: b1 :: r) m Q := by
  refine am_P_cal h (fun cl => rfl) hp hm (by rcases hk with rfl | rfl <;> decide) (fun cl => ?_) hv k
  unfold am_inv
  rw [if_pos hk, if_pos ⟨by simp only [List.length_cons]; omega, hc⟩]
  rfl
theorem w_cS2i {b1 b2 : Value} {x : Int32}{idx y k0 d' : Nat} {G : am_Mm → Prop} (hv : am_V xs d' y [b1, b2] m (am_qi x G)) (hd : d' ≤ d) (h : am_at M pc = some (.invokestatic idx, 3)) (hp : pc + 3 = pc') (hm : (am_mt M.1).lookup idx = some (k0, y, 2)) (hk : k0 = 1 ∨ k0 = 4) (hc : am_cat r ≤ 8) (k : ∀ m', G m' → am_P xs d M pc' L (.int x :: r) m' Q) : am_P xs d M pc L (b2 :: b1 :: r) m Q := w_cS2 h hp hm hk hc (hv.up hd) (fun v m' q => by obtain ⟨rfl, q⟩ := q; exact k m' q)
theorem w_cS2j {b1 b2 : Value} {x : Int64}{idx y k0 d' : Nat} {G : am_Mm → Prop} (hv : am_V xs d' y [b1, b2] m (am_qj x G)) (hd : d' ≤ d) (h : am_at M pc = some (.invokestatic idx, 3)) (hp : pc + 3 = pc') (hm : (am_mt M.1).lookup idx = some (k0, y, 2)) (hk : k0 = 1 ∨ k0 = 4) (hc : am_cat r ≤ 8) (k : ∀ m', G m' → am_P xs d M pc' L (.long x :: r) m' Q) : am_P xs d M pc L (b2 :: b1 :: r) m Q := w_cS2 h hp hm hk hc (hv.up hd) (fun v m' q => by obtain ⟨rfl, q⟩ := q; exact k m' q)
theorem w_cS2a {b1 b2 : Value} {x : Value}{idx y k0 d' : Nat} {G : am_Mm → Prop} (hv : am_V xs d' y [b1, b2] m (am_qa x G)) (hd : d' ≤ d) (h : am_at M pc = some (.invokestatic idx, 3)) (hp : pc + 3 = pc') (hm : (am_mt M.1).lookup idx = some (k0, y, 2)) (hk : k0 = 1 ∨ k0 = 4) (hc : am_cat r ≤ 8) (k : ∀ m', G m' → am_P xs d M pc' L (x :: r) m' Q) : am_P xs d M pc L (b2 :: b1 :: r) m Q := w_cS2 h hp hm hk hc (hv.up hd) (fun v m' q => by obtain ⟨rfl, q⟩ := q; exact k m' q)
theorem w_cS2n {b1 b2 : Value} {idx y k0 d' : Nat} {G : am_Mm → Prop} (hv : am_V xs d' y [b1, b2] m (am_qn G)) (hd : d' ≤ d) (h : am_at M pc = some (.invokestatic idx, 3)) (hp : pc + 3 = pc') (hm : (am_mt M.1).lookup idx = some (k0, y, 2)) (hk : k0 = 1 ∨ k0 = 4) (hc : am_cat r ≤ 8) (k : ∀ m', G m' → am_P xs d M pc' L r m' Q) : am_P xs d M pc L (b2 :: b1 :: r) m Q := w_cS2 h hp hm hk hc (hv.up hd) (fun v m' q => by obtain ⟨rfl, q⟩ := q; exact k m' q)
theorem w_cV3 {b1 b2 b3 : Value} {c idx y : Nat} {Q' : am_Q} (h : am_at M pc = some (.invokevirtual idx, 3)) (hp : pc + 3 = pc') (hm : (am_mt M.1).lookup idx = some (0, y, 3)) (hc : am_cat r ≤ 8) (hr : am_recv y c (am_rep m) = true) (hv : am_V xs d y [.ref c, b1, b2, b3] m Q') (k : ∀ v m', Q' v m' → am_P xs d M pc' L (v.toList ++ r) m' Q) : am_P xs d M pc L (b3 :: b2 :: b1 :: .ref c :: r) m Q := by
  refine am_P_cal h (fun cl => rfl) hp hm (by decide) (fun cl => ?_) hv k
  unfold am_inv
  rw [if_neg (by decide)]
  show (if _ then _ else _) = _
  rw [if_pos ⟨hc, Or.inr ⟨rfl, hr⟩⟩]
  rfl
theorem w_cV3i {b1 b2 b3 : Value} {x : Int32}{c idx y ci d' : Nat} {ks : List (Nat × Value)} {G : am_Mm → Prop} (hv : am_V xs d' y [.ref c, b1, b2, b3] m (am_qi x G)) (hd : d' ≤ d) (h : am_at M pc = some (.invokevirtual idx, 3)) (hp : pc + 3 = pc') (hm : (am_mt M.1).lookup idx = some (0, y, 3)) (hc : am_cat r ≤ 8) (hs : am_sh[c]? = some (.inr (.inr (ci, ks)))) (ho : am_ow y = ci) (k : ∀ m', G m' → am_P xs d M pc' L (.int x :: r) m' Q) : am_P xs d M pc L (b3 :: b2 :: b1 :: .ref c :: r) m Q := w_cV3 h hp hm hc (am_recv_ok hs ho) (hv.up hd) (fun v m' q => by obtain ⟨rfl, q⟩ := q; exact k m' q)
theorem w_cV3j {b1 b2 b3 : Value} {x : Int64}{c idx y ci d' : Nat} {ks : List (Nat × Value)} {G : am_Mm → Prop} (hv : am_V xs d' y [.ref c, b1, b2, b3] m (am_qj x G)) (hd : d' ≤ d) (h : am_at M pc = some (.invokevirtual idx, 3)) (hp : pc + 3 = pc') (hm : (am_mt M.1).lookup idx = some (0, y, 3)) (hc : am_cat r ≤ 8) (hs : am_sh[c]? = some (.inr (.inr (ci, ks)))) (ho : am_ow y = ci) (k : ∀ m', G m' → am_P xs d M pc' L (.long x :: r) m' Q) : am_P xs d M pc L (b3 :: b2 :: b1 :: .ref c :: r) m Q := w_cV3 h hp hm hc (am_recv_ok hs ho) (hv.up hd) (fun v m' q => by obtain ⟨rfl, q⟩ := q; exact k m' q)
theorem w_cV3a {b1 b2 b3 : Value} {x : Value}{c idx y ci d' : Nat} {ks : List (Nat × Value)} {G : am_Mm → Prop} (hv : am_V xs d' y [.ref c, b1, b2, b3] m (am_qa x G)) (hd : d' ≤ d) (h : am_at M pc = some (.invokevirtual idx, 3)) (hp : pc + 3 = pc') (hm : (am_mt M.1).lookup idx = some (0, y, 3)) (hc : am_cat r ≤ 8) (hs : am_sh[c]? = some (.inr (.inr (ci, ks)))) (ho : am_ow y = ci) (k : ∀ m', G m' → am_P xs d M pc' L (x :: r) m' Q) : am_P xs d M pc L (b3 :: b2 :: b1 :: .ref c :: r) m Q := w_cV3 h hp hm hc (am_recv_ok hs ho) (hv.up hd) (fun v m' q => by obtain ⟨rfl, q⟩ := q; exact k m' q)
theorem w_cV3n {b1 b2 b3 : Value} {c idx y ci d' : Nat} {ks : List (Nat × Value)} {G : am_Mm → Prop} (hv : am_V xs d' y [.ref c, b1, b2, b3] m (am_qn G)) (hd : d' ≤ d) (h : am_at M pc = some (.invokevirtual idx, 3)) (hp : pc + 3 = pc') (hm : (am_mt M.1).lookup idx = some (0, y, 3)) (hc : am_cat r ≤ 8) (hs : am_sh[c]? = some (.inr (.inr (ci, ks)))) (ho : am_ow y = ci) (k : ∀ m', G m' → am_P xs d M pc' L r m' Q) : am_P xs d M pc L (b3 :: b2 :: b1 :: .ref c :: r) m Q := w_cV3 h hp hm hc (am_recv_ok hs ho) (hv.up hd) (fun v m' q => by obtain ⟨rfl, q⟩ := q; exact k m' q)
theorem w_cS3 {b1 b2 b3 : Value} {idx y k0 : Nat} {Q' : am_Q} (h : am_at M pc = some (.invokestatic idx, 3)) (hp : pc + 3 = pc') (hm : (am_mt M.1).lookup idx = some (k0, y, 3)) (hk : k0 = 1 ∨ k0 = 4) (hc : am_cat r ≤ 8) (hv : am_V xs d y [b1, b2, b3] m Q') (k : ∀ v m', Q' v m' → am_P xs d M pc' L (v.toList ++ r) m' Q) : am_P xs d M pc L (b3 :: b2 :: b1 :: r) m Q := by
  refine am_P_cal h (fun cl => rfl) hp hm (by rcases hk with rfl | rfl <;> decide) (fun cl => ?_) hv k
  unfold am_inv
  rw [if_pos hk, if_pos ⟨by simp only [List.length_cons]; omega, hc⟩]
  rfl
theorem w_cS3i {b1 b2 b3 : Value} {x : Int32}{idx y k0 d' : Nat} {G : am_Mm → Prop} (hv : am_V xs d' y [b1, b2, b3] m (am_qi x G)) (hd : d' ≤ d) (h : am_at M pc = some (.invokestatic idx, 3)) (hp : pc + 3 = pc') (hm : (am_mt M.1).lookup idx = some (k0, y, 3)) (hk : k0 = 1 ∨ k0 = 4) (hc : am_cat r ≤ 8) (k : ∀ m', G m' → am_P xs d M pc' L (.int x :: r) m' Q) : am_P xs d M pc L (b3 :: b2 :: b1 :: r) m Q := w_cS3 h hp hm hk hc (hv.up hd) (fun v m' q => by obtain ⟨rfl, q⟩ := q; exact k m' q)
theorem w_cS3j {b1 b2 b3 : Value} {x : Int64}{idx y k0 d' : Nat} {G : am_Mm → Prop} (hv : am_V xs d' y [b1, b2, b3] m (am_qj x G)) (hd : d' ≤ d) (h : am_at M pc = some (.invokestatic idx, 3)) (hp : pc + 3 = pc') (hm : (am_mt M.1).lookup idx = some (k0, y, 3)) (hk : k0 = 1 ∨ k0 = 4) (hc : am_cat r ≤ 8) (k : ∀ m', G m' → am_P xs d M pc' L (.long x :: r) m' Q) : am_P xs d M pc L (b3 :: b2 :: b1 :: r) m Q := w_cS3 h hp hm hk hc (hv.up hd) (fun v m' q => by obtain ⟨rfl, q⟩ := q; exact k m' q)
theorem w_cS3a {b1 b2 b3 : Value} {x : Value}{idx y k0 d' : Nat} {G : am_Mm → Prop} (hv : am_V xs d' y [b1, b2, b3] m (am_qa x G)) (hd : d' ≤ d) (h : am_at M pc = some (.invokestatic idx, 3)) (hp : pc + 3 = pc') (hm : (am_mt M.1).lookup idx = some (k0, y, 3)) (hk : k0 = 1 ∨ k0 = 4) (hc : am_cat r ≤ 8) (k : ∀ m', G m' → am_P xs d M pc' L (x :: r) m' Q) : am_P xs d M pc L (b3 :: b2 :: b1 :: r) m Q := w_cS3 h hp hm hk hc (hv.up hd) (fun v m' q => by obtain ⟨rfl, q⟩ := q; exact k m' q)
theorem w_cS3n {b1 b2 b3 : Value} {idx y k0 d' : Nat} {G : am_Mm → Prop} (hv : am_V xs d' y [b1, b2, b3] m (am_qn G)) (hd : d' ≤ d) (h : am_at M pc = some (.invokestatic idx, 3)) (hp : pc + 3 = pc') (hm : (am_mt M.1).lookup idx = some (k0, y, 3)) (hk : k0 = 1 ∨ k0 = 4) (hc : am_cat r ≤ 8) (k : ∀ m', G m' → am_P xs d M pc' L r m' Q) : am_P xs d M pc L (b3 :: b2 :: b1 :: r) m Q := w_cS3 h hp hm hk hc (hv.up hd) (fun v m' q => by obtain ⟨rfl, q⟩ := q; exact k m' q)
theorem w_cV4 {b1 b2 b3 b4 : Value} {c idx y : Nat} {Q' : am_Q} (h : am_at M pc = some (.invokevirtual idx, 3)) (hp : pc + 3 = pc') (hm : (am_mt M.1).lookup idx = some (0, y, 4)) (hc : am_cat r ≤ 8) (hr : am_recv y c (am_rep m) = true) (hv : am_V xs d y [.ref c, b1, b2, b3, b4] m Q') (k : ∀ v m', Q' v m' → am_P xs d M pc' L (v.toList ++ r) m' Q) : am_P xs d M pc L (b4 :: b3 :: b2 :: b1 :: .ref c :: r) m Q := by
  refine am_P_cal h (fun cl => rfl) hp hm (by decide) (fun cl => ?_) hv k
  unfold am_inv
  rw [if_neg (by decide)]
  show (if _ then _ else _) = _
  rw [if_pos ⟨hc, Or.inr ⟨rfl, hr⟩⟩]
  rfl
theorem w_cV4i {b1 b2 b3 b4 : Value} {x : Int32}{c idx y ci d' : Nat} {ks : List (Nat × Value)} {G : am_Mm → Prop} (hv : am_V xs d' y [.ref c, b1, b2, b3, b4] m (am_qi x G)) (hd : d' ≤ d) (h : am_at M pc = some (.invokevirtual idx, 3)) (hp : pc + 3 = pc') (hm : (am_mt M.1).lookup idx = some (0, y, 4)) (hc : am_cat r ≤ 8) (hs : am_sh[c]? = some (.inr (.inr (ci, ks)))) (ho : am_ow y = ci) (k : ∀ m', G m' → am_P xs d M pc' L (.int x :: r) m' Q) : am_P xs d M pc L (b4 :: b3 :: b2 :: b1 :: .ref c :: r) m Q := w_cV4 h hp hm hc (am_recv_ok hs ho) (hv.up hd) (fun v m' q => by obtain ⟨rfl, q⟩ := q; exact k m' q)
theorem w_cV4j {b1 b2 b3 b4 : Value} {x : Int64}{c idx y ci d' : Nat} {ks : List (Nat × Value)} {G : am_Mm → Prop} (hv : am_V xs d' y [.ref c, b1, b2, b3, b4] m (am_qj x G)) (hd : d' ≤ d) (h : am_at M pc = some (.invokevirtual idx, 3)) (hp : pc + 3 = pc') (hm : (am_mt M.1).lookup idx = some (0, y, 4)) (hc : am_cat r ≤ 8) (hs : am_sh[c]? = some (.inr (.inr (ci, ks)))) (ho : am_ow y = ci) (k : ∀ m', G m' → am_P xs d M pc' L (.long x :: r) m' Q) : am_P xs d M pc L (b4 :: b3 :: b2 :: b1 :: .ref c :: r) m Q := w_cV4 h hp hm hc (am_recv_ok hs ho) (hv.up hd) (fun v m' q => by obtain ⟨rfl, q⟩ := q; exact k m' q)
theorem w_cV4a {b1 b2 b3 b4 : Value} {x : Value}{c idx y ci d' : Nat} {ks : List (Nat × Value)} {G : am_Mm → Prop} (hv : am_V xs d' y [.ref c, b1, b2, b3, b4] m (am_qa x G)) (hd : d' ≤ d) (h : am_at M pc = some (.invokevirtual idx, 3)) (hp : pc + 3 = pc') (hm : (am_mt M.1).lookup idx = some (0, y, 4)) (hc : am_cat r ≤ 8) (hs : am_sh[c]? = some (.inr (.inr (ci, ks)))) (ho : am_ow y = ci) (k : ∀ m', G m' → am_P xs d M pc' L (x :: r) m' Q) : am_P xs d M pc L (b4 :: b3 :: b2 :: b1 :: .ref c :: r) m Q := w_cV4 h hp hm hc (am_recv_ok hs ho) (hv.up hd) (fun v m' q => by obtain ⟨rfl, q⟩ := q; exact k m' q)
theorem w_cV4n {b1 b2 b3 b4 : Value} {c idx y ci d' : Nat} {ks : List (Nat × Value)} {G : am_Mm → Prop} (hv : am_V xs d' y [.ref c, b1, b2, b3, b4] m (am_qn G)) (hd : d' ≤ d) (h : am_at M pc = some (.invokevirtual idx, 3)) (hp : pc + 3 = pc') (hm : (am_mt M.1).lookup idx = some (0, y, 4)) (hc : am_cat r ≤ 8) (hs : am_sh[c]? = some (.inr (.inr (ci, ks)))) (ho : am_ow y = ci) (k : ∀ m', G m' → am_P xs d M pc' L r m' Q) : am_P xs d M pc L (b4 :: b3 :: b2 :: b1 :: .ref c :: r) m Q := w_cV4 h hp hm hc (am_recv_ok hs ho) (hv.up hd) (fun v m' q => by obtain ⟨rfl, q⟩ := q; exact k m' q)
theorem w_cS4 {b1 b2 b3 b4 : Value} {idx y k0 : Nat} {Q' : am_Q} (h : am_at M pc = some (.invokestatic idx, 3)) (hp : pc + 3 = pc') (hm : (am_mt M.1).lookup idx = some (k0, y, 4)) (hk : k0 = 1 ∨ k0 = 4) (hc : am_cat r ≤ 8) (hv : am_V xs d y [b1, b2, b3, b4] m Q') (k : ∀ v m', Q' v m' → am_P xs d M pc' L (v.toList ++ r) m' Q) : am_P xs d M pc L (b4 :: b3 :: b2 :: b1 :: r) m Q := by
  refine am_P_cal h (fun cl => rfl) hp hm (by rcases hk with rfl | rfl <;> decide) (fun cl => ?_) hv k
  unfold am_inv
  rw [if_pos hk, if_pos ⟨by simp only [List.length_cons]; omega, hc⟩]
  rfl
theorem w_cS4i {b1 b2 b3 b4 : Value} {x : Int32}{idx y k0 d' : Nat} {G : am_Mm → Prop} (hv : am_V xs d' y [b1, b2, b3, b4] m (am_qi x G)) (hd : d' ≤ d) (h : am_at M pc = some (.invokestatic idx, 3)) (hp : pc + 3 = pc') (hm : (am_mt M.1).lookup idx = some (k0, y, 4)) (hk : k0 = 1 ∨ k0 = 4) (hc : am_cat r ≤ 8) (k : ∀ m', G m' → am_P xs d M pc' L (.int x :: r) m' Q) : am_P xs d M pc L (b4 :: b3 :: b2 :: b1 :: r) m Q := w_cS4 h hp hm hk hc (hv.up hd) (fun v m' q => by obtain ⟨rfl, q⟩ := q; exact k m' q)
theorem w_cS4j {b1 b2 b3 b4 : Value} {x : Int64}{idx y k0 d' : Nat} {G : am_Mm → Prop} (hv : am_V xs d' y [b1, b2, b3, b4] m (am_qj x G)) (hd : d' ≤ d) (h : am_at M pc = some (.invokestatic idx, 3)) (hp : pc + 3 = pc') (hm : (am_mt M.1).lookup idx = some (k0, y, 4)) (hk : k0 = 1 ∨ k0 = 4) (hc : am_cat r ≤ 8) (k : ∀ m', G m' → am_P xs d M pc' L (.long x :: r) m' Q) : am_P xs d M pc L (b4 :: b3 :: b2 :: b1 :: r) m Q := w_cS4 h hp hm hk hc (hv.up hd) (fun v m' q => by obtain ⟨rfl, q⟩ := q; exact k m' q)
theorem w_cS4a {b1 b2 b3 b4 : Value} {x : Value}{idx y k0 d' : Nat} {G : am_Mm → Prop} (hv : am_V xs d' y [b1, b2, b3, b4] m (am_qa x G)) (hd : d' ≤ d) (h : am_at M pc = some (.invokestatic idx, 3)) (hp : pc + 3 = pc') (hm : (am_mt M.1).lookup idx = some (k0, y, 4)) (hk : k0 = 1 ∨ k0 = 4) (hc : am_cat r ≤ 8) (k : ∀ m', G m' → am_P xs d M pc' L (x :: r) m' Q) : am_P xs d M pc L (b4 :: b3 :: b2 :: b1 :: r) m Q := w_cS4 h hp hm hk hc (hv.up hd) (fun v m' q => by obtain ⟨rfl, q⟩ := q; exact k m' q)
theorem w_cS4n {b1 b2 b3 b4 : Value} {idx y k0 d' : Nat} {G : am_Mm → Prop} (hv : am_V xs d' y [b1, b2, b3, b4] m (am_qn G)) (hd : d' ≤ d) (h : am_at M pc = some (.invokestatic idx, 3)) (hp : pc + 3 = pc') (hm : (am_mt M.1).lookup idx = some (k0, y, 4)) (hk : k0 = 1 ∨ k0 = 4) (hc : am_cat r ≤ 8) (k : ∀ m', G m' → am_P xs d M pc' L r m' Q) : am_P xs d M pc L (b4 :: b3 :: b2 :: b1 :: r) m Q := w_cS4 h hp hm hk hc (hv.up hd) (fun v m' q => by obtain ⟨rfl, q⟩ := q; exact k m' q)
theorem w_cV5 {b1 b2 b3 b4 b5 : Value} {c idx y : Nat} {Q' : am_Q} (h : am_at M pc = some (.invokevirtual idx, 3)) (hp : pc + 3 = pc') (hm : (am_mt M.1).lookup idx = some (0, y, 5)) (hc : am_cat r ≤ 8) (hr : am_recv y c (am_rep m) = true) (hv : am_V xs d y [.ref c, b1, b2, b3, b4, b5] m Q') (k : ∀ v m', Q' v m' → am_P xs d M pc' L (v.toList ++ r) m' Q) : am_P xs d M pc L (b5 :: b4 :: b3 :: b2 :: b1 :: .ref c :: r) m Q := by
  refine am_P_cal h (fun cl => rfl) hp hm (by decide) (fun cl => ?_) hv k
  unfold am_inv
  rw [if_neg (by decide)]
  show (if _ then _ else _) = _
  rw [if_pos ⟨hc, Or.inr ⟨rfl, hr⟩⟩]
  rfl
theorem w_cV5i {b1 b2 b3 b4 b5 : Value} {x : Int32}{c idx y ci d' : Nat} {ks : List (Nat × Value)} {G : am_Mm → Prop} (hv : am_V xs d' y [.ref c, b1, b2, b3, b4, b5] m (am_qi x G)) (hd : d' ≤ d) (h : am_at M pc = some (.invokevirtual idx, 3)) (hp : pc + 3 = pc') (hm : (am_mt M.1).lookup idx = some (0, y, 5)) (hc : am_cat r ≤ 8) (hs : am_sh[c]? = some (.inr (.inr (ci, ks)))) (ho : am_ow y = ci) (k : ∀ m', G m' → am_P xs d M pc' L (.int x :: r) m' Q) : am_P xs d M pc L (b5 :: b4 :: b3 :: b2 :: b1 :: .ref c :: r) m Q := w_cV5 h hp hm hc (am_recv_ok hs ho) (hv.up hd) (fun v m' q => by obtain ⟨rfl, q⟩ := q; exact k m' q)
theorem w_cV5j {b1 b2 b3 b4 b5 : Value} {x : Int64}{c idx y ci d' : Nat} {ks : List (Nat × Value)} {G : am_Mm → Prop} (hv : am_V xs d' y [.ref c, b1, b2, b3, b4, b5] m (am_qj x G)) (hd : d' ≤ d) (h : am_at M pc = some (.invokevirtual idx, 3)) (hp : pc + 3 = pc') (hm : (am_mt M.1).lookup idx = some (0, y, 5)) (hc : am_cat r ≤ 8) (hs : am_sh[c]? = some (.inr (.inr (ci, ks)))) (ho : am_ow y = ci) (k : ∀ m', G m' → am_P xs d M pc' L (.long x :: r) m' Q) : am_P xs d M pc L (b5 :: b4 :: b3 :: b2 :: b1 :: .ref c :: r) m Q := w_cV5 h hp hm hc (am_recv_ok hs ho) (hv.up hd) (fun v m' q => by obtain ⟨rfl, q⟩ := q; exact k m' q)
theorem w_cV5a {b1 b2 b3 b4 b5 : Value} {x : Value}{c idx y ci d' : Nat} {ks : List (Nat × Value)} {G : am_Mm → Prop} (hv : am_V xs d' y [.ref c, b1, b2, b3, b4, b5] m (am_qa x G)) (hd : d' ≤ d) (h : am_at M pc = some (.invokevirtual idx, 3)) (hp : pc + 3 = pc') (hm : (am_mt M.1).lookup idx = some (0, y, 5)) (hc : am_cat r ≤ 8) (hs : am_sh[c]? = some (.inr (.inr (ci, ks)))) (ho : am_ow y = ci) (k : ∀ m', G m' → am_P xs d M pc' L (x :: r) m' Q) : am_P xs d M pc L (b5 :: b4 :: b3 :: b2 :: b1 :: .ref c :: r) m Q := w_cV5 h hp hm hc (am_recv_ok hs ho) (hv.up hd) (fun v m' q => by obtain ⟨rfl, q⟩ := q; exact k m' q)
theorem w_cV5n {b1 b2 b3 b4 b5 : Value} {c idx y ci d' : Nat} {ks : List (Nat × Value)} {G : am_Mm → Prop} (hv : am_V xs d' y [.ref c, b1, b2, b3, b4, b5] m (am_qn G)) (hd : d' ≤ d) (h : am_at M pc = some (.invokevirtual idx, 3)) (hp : pc + 3 = pc') (hm : (am_mt M.1).lookup idx = some (0, y, 5)) (hc : am_cat r ≤ 8) (hs : am_sh[c]? = some (.inr (.inr (ci, ks)))) (ho : am_ow y = ci) (k : ∀ m', G m' → am_P xs d M pc' L r m' Q) : am_P xs d M pc L (b5 :: b4 :: b3 :: b2 :: b1 :: .ref c :: r) m Q := w_cV5 h hp hm hc (am_recv_ok hs ho) (hv.up hd) (fun v m' q => by obtain ⟨rfl, q⟩ := q; exact k m' q)
theorem w_cS5 {b1 b2 b3 b4 b5 : Value} {idx y k0 : Nat} {Q' : am_Q} (h : am_at M pc = some (.invokestatic idx, 3)) (hp : pc + 3 = pc') (hm : (am_mt M.1).lookup idx = some (k0, y, 5)) (hk : k0 = 1 ∨ k0 = 4) (hc : am_cat r ≤ 8) (hv : am_V xs d y [b1, b2, b3, b4, b5] m Q') (k : ∀ v m', Q' v m' → am_P xs d M pc' L (v.toList ++ r) m' Q) : am_P xs d M pc L (b5 :: b4 :: b3 :: b2 :: b1 :: r) m Q := by
  refine am_P_cal h (fun cl => rfl) hp hm (by rcases hk with rfl | rfl <;> decide) (fun cl => ?_) hv k
  unfold am_inv
  rw [if_pos hk, if_pos ⟨by simp only [List.length_cons]; omega, hc⟩]
  rfl
theorem w_cS5i {b1 b2 b3 b4 b5 : Value} {x : Int32}{idx y k0 d' : Nat} {G : am_Mm → Prop} (hv : am_V xs d' y [b1, b2, b3, b4, b5] m (am_qi x G)) (hd : d' ≤ d) (h : am_at M pc = some (.invokestatic idx, 3)) (hp : pc + 3 = pc') (hm : (am_mt M.1).lookup idx = some (k0, y, 5)) (hk : k0 = 1 ∨ k0 = 4) (hc : am_cat r ≤ 8) (k : ∀ m', G m' → am_P xs d M pc' L (.int x :: r) m' Q) : am_P xs d M pc L (b5 :: b4 :: b3 :: b2 :: b1 :: r) m Q := w_cS5 h hp hm hk hc (hv.up hd) (fun v m' q => by obtain ⟨rfl, q⟩ := q; exact k m' q)
theorem w_cS5j {b1 b2 b3 b4 b5 : Value} {x : Int64}{idx y k0 d' : Nat} {G : am_Mm → Prop} (hv : am_V xs d' y [b1, b2, b3, b4, b5] m (am_qj x G)) (hd : d' ≤ d) (h : am_at M pc = some (.invokestatic idx, 3)) (hp : pc + 3 = pc') (hm : (am_mt M.1).lookup idx = some (k0, y, 5)) (hk : k0 = 1 ∨ k0 = 4) (hc : am_cat r ≤ 8) (k : ∀ m', G m' → am_P xs d M pc' L (.long x :: r) m' Q) : am_P xs d M pc L (b5 :: b4 :: b3 :: b2 :: b1 :: r) m Q := w_cS5 h hp hm hk hc (hv.up hd) (fun v m' q => by obtain ⟨rfl, q⟩ := q; exact k m' q)
theorem w_cS5a {b1 b2 b3 b4 b5 : Value} {x : Value}{idx y k0 d' : Nat} {G : am_Mm → Prop} (hv : am_V xs d' y [b1, b2, b3, b4, b5] m (am_qa x G)) (hd : d' ≤ d) (h : am_at M pc = some (.invokestatic idx, 3)) (hp : pc + 3 = pc') (hm : (am_mt M.1).lookup idx = some (k0, y, 5)) (hk : k0 = 1 ∨ k0 = 4) (hc : am_cat r ≤ 8) (k : ∀ m', G m' → am_P xs d M pc' L (x :: r) m' Q) : am_P xs d M pc L (b5 :: b4 :: b3 :: b2 :: b1 :: r) m Q := w_cS5 h hp hm hk hc (hv.up hd) (fun v m' q => by obtain ⟨rfl, q⟩ := q; exact k m' q)
theorem w_cS5n {b1 b2 b3 b4 b5 : Value} {idx y k0 d' : Nat} {G : am_Mm → Prop} (hv : am_V xs d' y [b1, b2, b3, b4, b5] m (am_qn G)) (hd : d' ≤ d) (h : am_at M pc = some (.invokestatic idx, 3)) (hp : pc + 3 = pc') (hm : (am_mt M.1).lookup idx = some (k0, y, 5)) (hk : k0 = 1 ∨ k0 = 4) (hc : am_cat r ≤ 8) (k : ∀ m', G m' → am_P xs d M pc' L r m' Q) : am_P xs d M pc L (b5 :: b4 :: b3 :: b2 :: b1 :: r) m Q := w_cS5 h hp hm hk hc (hv.up hd) (fun v m' q => by obtain ⟨rfl, q⟩ := q; exact k m' q)
theorem w_cV6 {b1 b2 b3 b4 b5 b6 : Value} {c idx y : Nat} {Q' : am_Q} (h : am_at M pc = some (.invokevirtual idx, 3)) (hp : pc + 3 = pc') (hm : (am_mt M.1).lookup idx = some (0, y, 6)) (hc : am_cat r ≤ 8) (hr : am_recv y c (am_rep m) = true) (hv : am_V xs d y [.ref c, b1, b2, b3, b4, b5, b6] m Q') (k : ∀ v m', Q' v m' → am_P xs d M pc' L (v.toList ++ r) m' Q) : am_P xs d M pc L (b6 :: b5 :: b4 :: b3 :: b2 :: b1 :: .ref c :: r) m Q := by
  refine am_P_cal h (fun cl => rfl) hp hm (by decide) (fun cl => ?_) hv k
  unfold am_inv
  rw [if_neg (by decide)]
  show (if _ then _ else _) = _
  rw [if_pos ⟨hc, Or.inr ⟨rfl, hr⟩⟩]
  rfl
theorem w_cV6i {b1 b2 b3 b4 b5 b6 : Value} {x : Int32}{c idx y ci d' : Nat} {ks : List (Nat × Value)} {G : am_Mm → Prop} (hv : am_V xs d' y [.ref c, b1, b2, b3, b4, b5, b6] m (am_qi x G)) (hd : d' ≤ d) (h : am_at M pc = some (.invokevirtual idx, 3)) (hp : pc + 3 = pc') (hm : (am_mt M.1).lookup idx = some (0, y, 6)) (hc : am_cat r ≤ 8) (hs : am_sh[c]? = some (.inr (.inr (ci, ks)))) (ho : am_ow y = ci) (k : ∀ m', G m' → am_P xs d M pc' L (.int x :: r) m' Q) : am_P xs d M pc L (b6 :: b5 :: b4 :: b3 :: b2 :: b1 :: .ref c :: r) m Q := w_cV6 h hp hm hc (am_recv_ok hs ho) (hv.up hd) (fun v m' q => by obtain ⟨rfl, q⟩ := q; exact k m' q)
theorem w_cV6j {b1 b2 b3 b4 b5 b6 : Value} {x : Int64}{c idx y ci d' : Nat} {ks : List (Nat × Value)} {G : am_Mm → Prop} (hv : am_V xs d' y [.ref c, b1, b2, b3, b4, b5, b6] m (am_qj x G)) (hd : d' ≤ d) (h : am_at M pc = some (.invokevirtual idx, 3)) (hp : pc + 3 = pc') (hm : (am_mt M.1).lookup idx = some (0, y, 6)) (hc : am_cat r ≤ 8) (hs : am_sh[c]? = some (.inr (.inr (ci, ks)))) (ho : am_ow y = ci) (k : ∀ m', G m' → am_P xs d M pc' L (.long x :: r) m' Q) : am_P xs d M pc L (b6 :: b5 :: b4 :: b3 :: b2 :: b1 :: .ref c :: r) m Q := w_cV6 h hp hm hc (am_recv_ok hs ho) (hv.up hd) (fun v m' q => by obtain ⟨rfl, q⟩ := q; exact k m' q)
theorem w_cV6a {b1 b2 b3 b4 b5 b6 : Value} {x : Value}{c idx y ci d' : Nat} {ks : List (Nat × Value)} {G : am_Mm → Prop} (hv : am_V xs d' y [.ref c, b1, b2, b3, b4, b5, b6] m (am_qa x G)) (hd : d' ≤ d) (h : am_at M pc = some (.invokevirtual idx, 3)) (hp : pc + 3 = pc') (hm : (am_mt M.1).lookup idx = some (0, y, 6)) (hc : am_cat r ≤ 8) (hs : am_sh[c]? = some (.inr (.inr (ci, ks)))) (ho : am_ow y = ci) (k : ∀ m', G m' → am_P xs d M pc' L (x :: r) m' Q) : am_P xs d M pc L (b6 :: b5 :: b4 :: b3 :: b2 :: b1 :: .ref c :: r) m Q := w_cV6 h hp hm hc (am_recv_ok hs ho) (hv.up hd) (fun v m' q => by obtain ⟨rfl, q⟩ := q; exact k m' q)
theorem w_cV6n {b1 b2 b3 b4 b5 b6 : Value} {c idx y ci d' : Nat} {ks : List (Nat × Value)} {G : am_Mm → Prop} (hv : am_V xs d' y [.ref c, b1, b2, b3, b4, b5, b6] m (am_qn G)) (hd : d' ≤ d) (h : am_at M pc = some (.invokevirtual idx, 3)) (hp : pc + 3 = pc') (hm : (am_mt M.1).lookup idx = some (0, y, 6)) (hc : am_cat r ≤ 8) (hs : am_sh[c]? = some (.inr (.inr (ci, ks)))) (ho : am_ow y = ci) (k : ∀ m', G m' → am_P xs d M pc' L r m' Q) : am_P xs d M pc L (b6 :: b5 :: b4 :: b3 :: b2 :: b1 :: .ref c :: r) m Q := w_cV6 h hp hm hc (am_recv_ok hs ho) (hv.up hd) (fun v m' q => by obtain ⟨rfl, q⟩ := q; exact k m' q)
theorem w_cS6 {b1 b2 b3 b4 b5 b6 : Value} {idx y k0 : Nat} {Q' : am_Q} (h : am_at M pc = some (.invokestatic idx, 3)) (hp : pc + 3 = pc') (hm : (am_mt M.1).lookup idx = some (k0, y, 6)) (hk : k0 = 1 ∨ k0 = 4) (hc : am_cat r ≤ 8) (hv : am_V xs d y [b1, b2, b3, b4, b5, b6] m Q') (k : ∀ v m', Q' v m' → am_P xs d M pc' L (v.toList ++ r) m' Q) : am_P xs d M pc L (b6 :: b5 :: b4 :: b3 :: b2 :: b1 :: r) m Q := by
  refine am_P_cal h (fun cl => rfl) hp hm (by rcases hk with rfl | rfl <;> decide) (fun cl => ?_) hv k
  unfold am_inv
  rw [if_pos hk, if_pos ⟨by simp only [List.length_cons]; omega, hc⟩]
  rfl
theorem w_cS6i {b1 b2 b3 b4 b5 b6 : Value} {x : Int32}{idx y k0 d' : Nat} {G : am_Mm → Prop} (hv : am_V xs d' y [b1, b2, b3, b4, b5, b6] m (am_qi x G)) (hd : d' ≤ d) (h : am_at M pc = some (.invokestatic idx, 3)) (hp : pc + 3 = pc') (hm : (am_mt M.1).lookup idx = some (k0, y, 6)) (hk : k0 = 1 ∨ k0 = 4) (hc : am_cat r ≤ 8) (k : ∀ m', G m' → am_P xs d M pc' L (.int x :: r) m' Q) : am_P xs d M pc L (b6 :: b5 :: b4 :: b3 :: b2 :: b1 :: r) m Q := w_cS6 h hp hm hk hc (hv.up hd) (fun v m' q => by obtain ⟨rfl, q⟩ := q; exact k m' q)
theorem w_cS6j {b1 b2 b3 b4 b5 b6 : Value} {x : Int64}{idx y k0 d' : Nat} {G : am_Mm → Prop} (hv : am_V xs d' y [b1, b2, b3, b4, b5, b6] m (am_qj x G)) (hd : d' ≤ d) (h : am_at M pc = some (.invokestatic idx, 3)) (hp : pc + 3 = pc') (hm : (am_mt M.1).lookup idx = some (k0, y, 6)) (hk : k0 = 1 ∨ k0 = 4) (hc : am_cat r ≤ 8) (k : ∀ m', G m' → am_P xs d M pc' L (.long x :: r) m' Q) : am_P xs d M pc L (b6 :: b5 :: b4 :: b3 :: b2 :: b1 :: r) m Q := w_cS6 h hp hm hk hc (hv.up hd) (fun v m' q => by obtain ⟨rfl, q⟩ := q; exact k m' q)
theorem w_cS6a {b1 b2 b3 b4 b5 b6 : Value} {x : Value}{idx y k0 d' : Nat} {G : am_Mm → Prop} (hv : am_V xs d' y [b1, b2, b3, b4, b5, b6] m (am_qa x G)) (hd : d' ≤ d) (h : am_at M pc = some (.invokestatic idx, 3)) (hp : pc + 3 = pc') (hm : (am_mt M.1).lookup idx = some (k0, y, 6)) (hk : k0 = 1 ∨ k0 = 4) (hc : am_cat r ≤ 8) (k : ∀ m', G m' → am_P xs d M pc' L (x :: r) m' Q) : am_P xs d M pc L (b6 :: b5 :: b4 :: b3 :: b2 :: b1 :: r) m Q := w_cS6 h hp hm hk hc (hv.up hd) (fun v m' q => by obtain ⟨rfl, q⟩ := q; exact k m' q)
theorem w_cS6n {b1 b2 b3 b4 b5 b6 : Value} {idx y k0 d' : Nat} {G : am_Mm → Prop} (hv : am_V xs d' y [b1, b2, b3, b4, b5, b6] m (am_qn G)) (hd : d' ≤ d) (h : am_at M pc = some (.invokestatic idx, 3)) (hp : pc + 3 = pc') (hm : (am_mt M.1).lookup idx = some (k0, y, 6)) (hk : k0 = 1 ∨ k0 = 4) (hc : am_cat r ≤ 8) (k : ∀ m', G m' → am_P xs d M pc' L r m' Q) : am_P xs d M pc L (b6 :: b5 :: b4 :: b3 :: b2 :: b1 :: r) m Q := w_cS6 h hp hm hk hc (hv.up hd) (fun v m' q => by obtain ⟨rfl, q⟩ := q; exact k m' q)
/-- a copy of a row -/
def am_cp (m : am_Mm) (a b sp dp n : Nat) : am_Mm := (fun c' k' => if c' = b ∧ dp ≤ k' ∧ k' < dp + n then m.1 a (sp + (k' - dp)) else m.1 c' k', m.2)
def am_cpJ (m : am_Mm) (a b sp dp n : Nat) : am_Mm := (m.1, fun c' k' => if c' = b ∧ dp ≤ k' ∧ k' < dp + n then m.2 a (sp + (k' - dp)) else m.2 c' k')
theorem am_copy_rg {α : Type} (f g : Nat → α) {nf ng sp dp n : Nat} (h1 : sp + n ≤ nf) (h2 : dp + n ≤ ng) : am_copy ((List.range nf).map f) ((List.range ng).map g) sp dp n = (List.range ng).map (fun k => if dp ≤ k ∧ k < dp + n then f (sp + (k - dp)) else g k) := by
  apply List.ext_getElem?
  intro j
  unfold am_copy
  rw [List.getElem?_mapIdx]
  simp only [List.getElem?_map]
  by_cases hj : j < ng
  · rw [List.getElem?_range hj]
    simp only [Option.map_some]
    congr 1
    split
    · rename_i hc
      rw [List.getElem?_range (by omega)]; rfl
    · rfl
  · rw [List.getElem?_eq_none (l := List.range ng) (by simpa using hj)]; rfl
theorem am_rep_cp {a b na nb sp dp n : Nat} (ha : am_sh[a]? = some (.inl (.int, na))) (hb : am_sh[b]? = some (.inl (.int, nb))) (h1 : sp + n ≤ na) (h2 : dp + n ≤ nb) : (am_rep m).set b (.inl (.int, .inl (am_copy ((List.range na).map (m.1 a)) ((List.range nb).map (m.1 b)) sp dp n))) = am_rep (am_cp m a b sp dp n) := by
  refine am_rep_ext hb ?_ (fun c' x' hc' _ => ?_)
  · rw [am_copy_rg _ _ h1 h2]
    unfold am_ent am_cp
    dsimp only
    rw [if_neg (by decide)]
    congr 4
    funext k
    simp
  · have e : (am_cp m a b sp dp n).1 c' = m.1 c' := by funext j; unfold am_cp; simp [hc']
    rcases x' with ⟨ty, n'⟩ | ⟨ty, l⟩ | ⟨ci, ks⟩
    · unfold am_ent; rw [e]; rfl
    · rfl
    · unfold am_ent
      congr 2
      have : am_sv (am_cp m a b sp dp n) c' = am_sv m c' := by
        funext j kd; unfold am_sv; rw [e]
      rw [this]
theorem am_rep_cpJ {a b na nb sp dp n : Nat} (ha : am_sh[a]? = some (.inl (.long, na))) (hb : am_sh[b]? = some (.inl (.long, nb))) (h1 : sp + n ≤ na) (h2 : dp + n ≤ nb) : (am_rep m).set b (.inl (.long, .inr (.inl (am_copy ((List.range na).map (m.2 a)) ((List.range nb).map (m.2 b)) sp dp n)))) = am_rep (am_cpJ m a b sp dp n) := by
  refine am_rep_ext hb ?_ (fun c' x' hc' _ => ?_)
  · rw [am_copy_rg _ _ h1 h2]
    unfold am_ent am_cpJ
    dsimp only
    rw [if_pos rfl]
    congr 5
    funext k
    simp
  · have e : (am_cpJ m a b sp dp n).2 c' = m.2 c' := by funext j; unfold am_cpJ; simp [hc']
    rcases x' with ⟨ty, n'⟩ | ⟨ty, l⟩ | ⟨ci, ks⟩
    · unfold am_ent; rw [e]; rfl
    · rfl
    · rfl
theorem w_acp {idx a b na nb sp dp n : Nat} {xn xd xp : Int32} (h : am_at M pc = some (.invokestatic idx, 3)) (hp : pc + 3 = pc') (hm : (am_mt M.1).lookup idx = some (7, 0, 0)) (hc : am_cat r ≤ 8) (ha : am_sh[a]? = some (.inl (.int, na))) (hb : am_sh[b]? = some (.inl (.int, nb))) (e1 : xn = nI n) (e2 : xd = nI dp) (e3 : xp = nI sp) (h1 : sp + n ≤ na) (h2 : dp + n ≤ nb) (hna : na < 2 ^ 31) (hnb : nb < 2 ^ 31) (k : am_P xs d M pc' L r (am_cp m a b sp dp n) Q) : am_P xs d M pc L (.int xn :: .int xd :: .ref b :: .int xp :: .ref a :: r) m Q := by
  subst hp; subst e1; subst e2; subst e3
  refine am_P_go (L' := L) (st' := r) (m' := am_cp m a b sp dp n) h (fun cl => ?_) k
  unfold am_ins am_call1
  dsimp only
  rw [hm]
  dsimp only
  rw [if_neg (by decide), if_neg (by simp), if_pos ⟨rfl, rfl⟩]
  unfold am_acopy
  dsimp only
  have q1 : n < 2 ^ 31 := by omega
  have q2 : dp < 2 ^ 31 := by omega
  have q3 : sp < 2 ^ 31 := by omega
  rw [if_neg (by
    rintro (q | q | q | q | q | q)
    · exact nI_pos q1 q
    · exact nI_pos q2 q
    · exact nI_pos q3 q
    · exact q hc
    · exact q (am_sh_lt hb)
    · exact q (am_sh_lt ha)), am_rep_arr ha (by decide), am_rep_arr hb (by decide)]
  dsimp only
  rw [nI_clamp q1, nI_clamp q2, nI_clamp q3, if_pos (by simp only [List.length_map, List.length_range]; exact ⟨h1, h2⟩), am_rep_cp ha hb h1 h2]
  rfl
theorem am_rep_arrJ {c n : Nat} (h : am_sh[c]? = some (.inl (.long, n))) : (am_rep m)[c]? = some (.inl (.long, .inr (.inl ((List.range n).map (m.2 c))))) := by
  rw [am_rep_at m h]
  rfl
theorem w_acpJ {idx a b na nb sp dp n : Nat} {xn xd xp : Int32} (h : am_at M pc = some (.invokestatic idx, 3)) (hp : pc + 3 = pc') (hm : (am_mt M.1).lookup idx = some (7, 0, 0)) (hc : am_cat r ≤ 8) (ha : am_sh[a]? = some (.inl (.long, na))) (hb : am_sh[b]? = some (.inl (.long, nb))) (e1 : xn = nI n) (e2 : xd = nI dp) (e3 : xp = nI sp) (h1 : sp + n ≤ na) (h2 : dp + n ≤ nb) (hna : na < 2 ^ 31) (hnb : nb < 2 ^ 31) (k : am_P xs d M pc' L r (am_cpJ m a b sp dp n) Q) : am_P xs d M pc L (.int xn :: .int xd :: .ref b :: .int xp :: .ref a :: r) m Q := by
  subst hp; subst e1; subst e2; subst e3
  refine am_P_go (L' := L) (st' := r) (m' := am_cpJ m a b sp dp n) h (fun cl => ?_) k
  unfold am_ins am_call1
  dsimp only
  rw [hm]
  dsimp only
  rw [if_neg (by decide), if_neg (by simp), if_pos ⟨rfl, rfl⟩]
  unfold am_acopy
  dsimp only
  have q1 : n < 2 ^ 31 := by omega
  have q2 : dp < 2 ^ 31 := by omega
  have q3 : sp < 2 ^ 31 := by omega
  rw [if_neg (by
    rintro (q | q | q | q | q | q)
    · exact nI_pos q1 q
    · exact nI_pos q2 q
    · exact nI_pos q3 q
    · exact q hc
    · exact q (am_sh_lt hb)
    · exact q (am_sh_lt ha)), am_rep_arrJ ha, am_rep_arrJ hb]
  dsimp only
  rw [nI_clamp q1, nI_clamp q2, nI_clamp q3, if_pos (by simp only [List.length_map, List.length_range]; exact ⟨h1, h2⟩), am_rep_cpJ ha hb h1 h2]
  rfl
end WR
theorem ic_m1 : Int32.ofInt (-1) = (-1) := by decide
theorem ic_0 : Int32.ofInt (0) = (0) := by decide
theorem ic_1 : Int32.ofInt (1) = (1) := by decide
theorem ic_2 : Int32.ofInt (2) = (2) := by decide
theorem ic_3 : Int32.ofInt (3) = (3) := by decide
theorem ic_4 : Int32.ofInt (4) = (4) := by decide
theorem ic_5 : Int32.ofInt (5) = (5) := by decide
theorem ic_6 : Int32.ofInt (6) = (6) := by decide
theorem bp_m14 : (Int8.ofInt (-14)).toInt32 = (-14) := by decide
theorem bp_m13 : (Int8.ofInt (-13)).toInt32 = (-13) := by decide
theorem bp_m12 : (Int8.ofInt (-12)).toInt32 = (-12) := by decide
theorem bp_m11 : (Int8.ofInt (-11)).toInt32 = (-11) := by decide
theorem bp_m10 : (Int8.ofInt (-10)).toInt32 = (-10) := by decide
theorem bp_m5 : (Int8.ofInt (-5)).toInt32 = (-5) := by decide
theorem bp_m4 : (Int8.ofInt (-4)).toInt32 = (-4) := by decide
theorem bp_m3 : (Int8.ofInt (-3)).toInt32 = (-3) := by decide
theorem bp_m2 : (Int8.ofInt (-2)).toInt32 = (-2) := by decide
theorem bp_6 : (Int8.ofInt (6)).toInt32 = (6) := by decide
theorem bp_7 : (Int8.ofInt (7)).toInt32 = (7) := by decide
theorem bp_8 : (Int8.ofInt (8)).toInt32 = (8) := by decide
theorem bp_9 : (Int8.ofInt (9)).toInt32 = (9) := by decide
theorem bp_10 : (Int8.ofInt (10)).toInt32 = (10) := by decide
theorem bp_11 : (Int8.ofInt (11)).toInt32 = (11) := by decide
theorem bp_12 : (Int8.ofInt (12)).toInt32 = (12) := by decide
theorem bp_13 : (Int8.ofInt (13)).toInt32 = (13) := by decide
theorem bp_15 : (Int8.ofInt (15)).toInt32 = (15) := by decide
theorem bp_16 : (Int8.ofInt (16)).toInt32 = (16) := by decide
theorem bp_17 : (Int8.ofInt (17)).toInt32 = (17) := by decide
theorem bp_18 : (Int8.ofInt (18)).toInt32 = (18) := by decide
theorem bp_19 : (Int8.ofInt (19)).toInt32 = (19) := by decide
theorem bp_20 : (Int8.ofInt (20)).toInt32 = (20) := by decide
theorem bp_21 : (Int8.ofInt (21)).toInt32 = (21) := by decide
theorem bp_22 : (Int8.ofInt (22)).toInt32 = (22) := by decide
theorem bp_24 : (Int8.ofInt (24)).toInt32 = (24) := by decide
theorem bp_26 : (Int8.ofInt (26)).toInt32 = (26) := by decide
theorem bp_30 : (Int8.ofInt (30)).toInt32 = (30) := by decide
theorem bp_31 : (Int8.ofInt (31)).toInt32 = (31) := by decide
theorem bp_32 : (Int8.ofInt (32)).toInt32 = (32) := by decide
theorem bp_33 : (Int8.ofInt (33)).toInt32 = (33) := by decide
theorem bp_36 : (Int8.ofInt (36)).toInt32 = (36) := by decide
theorem bp_38 : (Int8.ofInt (38)).toInt32 = (38) := by decide
theorem bp_40 : (Int8.ofInt (40)).toInt32 = (40) := by decide
theorem bp_41 : (Int8.ofInt (41)).toInt32 = (41) := by decide
theorem bp_46 : (Int8.ofInt (46)).toInt32 = (46) := by decide
theorem bp_48 : (Int8.ofInt (48)).toInt32 = (48) := by decide
theorem bp_50 : (Int8.ofInt (50)).toInt32 = (50) := by decide
theorem bp_51 : (Int8.ofInt (51)).toInt32 = (51) := by decide
theorem bp_57 : (Int8.ofInt (57)).toInt32 = (57) := by decide
theorem bp_59 : (Int8.ofInt (59)).toInt32 = (59) := by decide
theorem bp_60 : (Int8.ofInt (60)).toInt32 = (60) := by decide
theorem bp_61 : (Int8.ofInt (61)).toInt32 = (61) := by decide
theorem bp_63 : (Int8.ofInt (63)).toInt32 = (63) := by decide
theorem bp_70 : (Int8.ofInt (70)).toInt32 = (70) := by decide
theorem bp_71 : (Int8.ofInt (71)).toInt32 = (71) := by decide
theorem bp_84 : (Int8.ofInt (84)).toInt32 = (84) := by decide
theorem bp_98 : (Int8.ofInt (98)).toInt32 = (98) := by decide
theorem bp_100 : (Int8.ofInt (100)).toInt32 = (100) := by decide
theorem bp_107 : (Int8.ofInt (107)).toInt32 = (107) := by decide
theorem bp_108 : (Int8.ofInt (108)).toInt32 = (108) := by decide
theorem bp_110 : (Int8.ofInt (110)).toInt32 = (110) := by decide
theorem bp_116 : (Int8.ofInt (116)).toInt32 = (116) := by decide
theorem bp_124 : (Int8.ofInt (124)).toInt32 = (124) := by decide
theorem bp_127 : (Int8.ofInt (127)).toInt32 = (127) := by decide
theorem sp_m10001 : (Int16.ofInt (-10001)).toInt32 = (-10001) := by decide
theorem sp_129 : (Int16.ofInt (129)).toInt32 = (129) := by decide
theorem sp_134 : (Int16.ofInt (134)).toInt32 = (134) := by decide
theorem sp_139 : (Int16.ofInt (139)).toInt32 = (139) := by decide
theorem sp_149 : (Int16.ofInt (149)).toInt32 = (149) := by decide
theorem sp_159 : (Int16.ofInt (159)).toInt32 = (159) := by decide
theorem sp_167 : (Int16.ofInt (167)).toInt32 = (167) := by decide
theorem sp_175 : (Int16.ofInt (175)).toInt32 = (175) := by decide
theorem sp_176 : (Int16.ofInt (176)).toInt32 = (176) := by decide
theorem sp_177 : (Int16.ofInt (177)).toInt32 = (177) := by decide
theorem sp_178 : (Int16.ofInt (178)).toInt32 = (178) := by decide
theorem sp_179 : (Int16.ofInt (179)).toInt32 = (179) := by decide
theorem sp_180 : (Int16.ofInt (180)).toInt32 = (180) := by decide
theorem sp_181 : (Int16.ofInt (181)).toInt32 = (181) := by decide
theorem sp_182 : (Int16.ofInt (182)).toInt32 = (182) := by decide
theorem sp_200 : (Int16.ofInt (200)).toInt32 = (200) := by decide
theorem sp_255 : (Int16.ofInt (255)).toInt32 = (255) := by decide
theorem sp_300 : (Int16.ofInt (300)).toInt32 = (300) := by decide
theorem sp_360 : (Int16.ofInt (360)).toInt32 = (360) := by decide
theorem sp_800 : (Int16.ofInt (800)).toInt32 = (800) := by decide
theorem sp_9999 : (Int16.ofInt (9999)).toInt32 = (9999) := by decide
