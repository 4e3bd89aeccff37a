/-! THE CLAIM OUT OF ONE WALK OF THE LAW'S BODY. Your part is whole_start (and what it stands on); all else here is the same for every law, but numbers. -/
def R_law : String := "LostSheetsLaw"
def lw_P (b : Addr) (xs : List Int32) (args : Array Value) (s : State) : Prop := args = #[.ref b] ∧ s.IntsAt b xs ∧ xs.length ≤ 3072 ∧ (Jvm.Cond.and given_1 narrow_1).before args s = true
def lw_Q (_ : Array Value) (s : State) (o : Outcome) (t : State) : Prop := o = .returned (some (.int 1)) ∧ Framed s o t [] 600000 7302249
def lw_Z (below : List Frame) (a : Array Value) (s : State) : State → Prop := fun t => ∃ o, t.status = .running ∧ Ended t below o ∧ lw_Q a s o t
/-- the law's own end, with 1 on the stack, nothing written that was there before, its room as the claim has it -/
theorem lw_ret {p : Program} {l : Launch} {e : Env} {s : State} {m : MethodId} {below : List Frame} {meth : Method} {c : Code} {b : Nat} (hx : p.tables.exec = Jvm.exec) (hb : c.code = code) (hr : meth.sig.returnType = ret) (hlocks : meth.locks = false) {pc : Nat} {H : Heap} {ls : Array Slot} (hdg : decode code pc = .ok (.ireturn, 1)) : W p l e room_1 s m #[Value.ref b] below meth c H [] 600000 7302249 (lw_Z below #[Value.ref b] s) (F0 m pc ls [.int 1]) := by
  intro T hT X
  obtain ⟨fs, hret, hrun, hended, hW, hframe⟩ := X.leave (v := some (.int 1)) (hlocks := hlocks) (fun h => by rw [hr] at h; cases h)
  have hmeth' : T.vm.method? m = some meth := X.method'
  refine ⟨T.setFrames fs, ?_, .returned (some (.int 1)), hrun, hended, rfl, ⟨_, rfl⟩, hW, hframe⟩
  jvm_step X.here [X.here.top, hx, hb, hdg, hmeth', hr, ret, narrow_b1]
  (try refine ⟨rfl, ?_⟩); (try refine ⟨rfl, ?_⟩)
  first | (intro acts; rw [hret _ acts rfl rfl rfl]) | rw [hret _ _ rfl rfl rfl]
  exact Steps.refl _
/-- what holds at the law's entry: the machine, the code, the tables' words (any of lw_tbl by 'hts w (by decide +kernel)'), the script of L ints xs at the cell b, what the Statement gives of the start (any of its parts by flat_of_before) -/
def lw_At (p : Program) (s : State) (m : MethodId) (meth : Method) (c : Code) (b L : Nat) (xs : Nat → Int32) : Prop :=
  p.tables.exec = Jvm.exec ∧ c.code = code ∧ meth.sig.returnType = ret ∧ c.maxLocals = 4 ∧ s.vm.findClass R_law = some m.cls ∧ (∀ w ∈ lw_tbl, w.before #[Value.ref b] s = true) ∧ va_X b L xs s s.heap ∧ b < s.heap.size ∧ meth.locks = false ∧ (Jvm.Cond.and given_1 narrow_1).before #[Value.ref b] s = true

def am_tm (i : Nat) : Term := .string "LostSheets$Text" ([55, 57, 59, 93, 99].getD i 0)
theorem am_eqr {args : Array Value} {s : State} {t u : Term} {a : Nat} (h : (Cond.eq t u).before args s = true) (ht : t.eval args s none [] s = some (.ref a)) : u.eval args s none [] s = some (.ref a) := by
  cases hv : u.eval args s none [] s with
  | none => simp [Cond.before, Cond.holds, Cond.value, ht, hv] at h
  | some w =>
    simp only [Cond.before, Cond.holds, Cond.value, hv, ht] at h
    cases w <;> simp_all
def am_Goal (xl : List Int32) : Prop := ∃ (d n : Nat) (es1 : am_H), d ≤ 2000 ∧ am_run xl (am_call xl d n) L_law n 0 (am_ini 4 [.ref 1000202]) [] [] = some (some (.int 1), es1) ∧ es1.length ≤ 600000 ∧ am_sz es1 ≤ 7302249
theorem am_facts {args : Array Value} {s : State} (h : (Jvm.Cond.and given_1 narrow_1).before args s = true) : (∃ adK adV : Nat → Nat, vk_S 5 (am_bs.map List.length) am_bs adK adV (fun q : Nat => s.heap.size ≤ q) s s.heap ∧ ∀ i : Nat, i < 5 → (am_tm i).eval args s none [] s = some (.ref (adK i))) := by
  have hs := flat_of_before _ h
  have hA : ∀ a : Nat, a < s.heap.size → ¬ s.heap.size ≤ a := fun a q => Nat.not_le.mpr q
  refine vk_Sof (tm := am_tm) ?_ ?_ ?_ ?_ ?_ ?_ ?_ hA
  · decide +kernel
  · intro i hi
    rcases (show i = 0 ∨ i = 1 ∨ i = 2 ∨ i = 3 ∨ i = 4 by omega) with rfl | rfl | rfl | rfl | rfl
    · exact hs _ (by decide +kernel)
    · exact hs _ (by decide +kernel)
    · exact hs _ (by decide +kernel)
    · exact hs _ (by decide +kernel)
    · exact hs _ (by decide +kernel)
  · intro i hi
    rcases (show i = 0 ∨ i = 1 ∨ i = 2 ∨ i = 3 ∨ i = 4 by omega) with rfl | rfl | rfl | rfl | rfl
    · exact hs _ (by decide +kernel)
    · exact hs _ (by decide +kernel)
    · exact hs _ (by decide +kernel)
    · exact hs _ (by decide +kernel)
    · exact hs _ (by decide +kernel)
  · intro i hi
    rcases (show i = 0 ∨ i = 1 ∨ i = 2 ∨ i = 3 ∨ i = 4 by omega) with rfl | rfl | rfl | rfl | rfl
    · exact hs _ (by decide +kernel)
    · exact hs _ (by decide +kernel)
    · exact hs _ (by decide +kernel)
    · exact hs _ (by decide +kernel)
    · exact hs _ (by decide +kernel)
  · intro i hi
    rcases (show i = 0 ∨ i = 1 ∨ i = 2 ∨ i = 3 ∨ i = 4 by omega) with rfl | rfl | rfl | rfl | rfl
    · exact hs _ (by decide +kernel)
    · exact hs _ (by decide +kernel)
    · exact hs _ (by decide +kernel)
    · exact hs _ (by decide +kernel)
    · exact hs _ (by decide +kernel)
  · intro i hi
    rcases (show i = 0 ∨ i = 1 ∨ i = 2 ∨ i = 3 ∨ i = 4 by omega) with rfl | rfl | rfl | rfl | rfl
    · intro j hj
      have hj : j < 5 := hj
      rcases (show j = 0 ∨ j = 1 ∨ j = 2 ∨ j = 3 ∨ j = 4 by omega) with rfl | rfl | rfl | rfl | rfl
      · exact hs _ (by decide +kernel)
      · exact hs _ (by decide +kernel)
      · exact hs _ (by decide +kernel)
      · exact hs _ (by decide +kernel)
      · exact hs _ (by decide +kernel)
    · intro j hj
      have hj : j < 5 := hj
      rcases (show j = 0 ∨ j = 1 ∨ j = 2 ∨ j = 3 ∨ j = 4 by omega) with rfl | rfl | rfl | rfl | rfl
      · exact hs _ (by decide +kernel)
      · exact hs _ (by decide +kernel)
      · exact hs _ (by decide +kernel)
      · exact hs _ (by decide +kernel)
      · exact hs _ (by decide +kernel)
    · intro j hj
      have hj : j < 5 := hj
      rcases (show j = 0 ∨ j = 1 ∨ j = 2 ∨ j = 3 ∨ j = 4 by omega) with rfl | rfl | rfl | rfl | rfl
      · exact hs _ (by decide +kernel)
      · exact hs _ (by decide +kernel)
      · exact hs _ (by decide +kernel)
      · exact hs _ (by decide +kernel)
      · exact hs _ (by decide +kernel)
    · intro j hj
      have hj : j < 6 := hj
      rcases (show j = 0 ∨ j = 1 ∨ j = 2 ∨ j = 3 ∨ j = 4 ∨ j = 5 by omega) with rfl | rfl | rfl | rfl | rfl | rfl
      · exact hs _ (by decide +kernel)
      · exact hs _ (by decide +kernel)
      · exact hs _ (by decide +kernel)
      · exact hs _ (by decide +kernel)
      · exact hs _ (by decide +kernel)
      · exact hs _ (by decide +kernel)
    · intro j hj
      have hj : j < 3 := hj
      rcases (show j = 0 ∨ j = 1 ∨ j = 2 by omega) with rfl | rfl | rfl
      · exact hs _ (by decide +kernel)
      · exact hs _ (by decide +kernel)
      · exact hs _ (by decide +kernel)
  · intro i j hi hj hij
    rcases (show i = 0 ∨ i = 1 ∨ i = 2 ∨ i = 3 ∨ i = 4 by omega) with rfl | rfl | rfl | rfl | rfl <;> rcases (show j = 0 ∨ j = 1 ∨ j = 2 ∨ j = 3 ∨ j = 4 by omega) with rfl | rfl | rfl | rfl | rfl
    · exact absurd rfl hij
    · exact Or.inl (hs _ (by decide +kernel))
    · exact Or.inl (hs _ (by decide +kernel))
    · exact Or.inl (hs _ (by decide +kernel))
    · exact Or.inl (hs _ (by decide +kernel))
    · exact Or.inr (hs _ (by decide +kernel))
    · exact absurd rfl hij
    · exact Or.inl (hs _ (by decide +kernel))
    · exact Or.inl (hs _ (by decide +kernel))
    · exact Or.inl (hs _ (by decide +kernel))
    · exact Or.inr (hs _ (by decide +kernel))
    · exact Or.inr (hs _ (by decide +kernel))
    · exact absurd rfl hij
    · exact Or.inl (hs _ (by decide +kernel))
    · exact Or.inl (hs _ (by decide +kernel))
    · exact Or.inr (hs _ (by decide +kernel))
    · exact Or.inr (hs _ (by decide +kernel))
    · exact Or.inr (hs _ (by decide +kernel))
    · exact absurd rfl hij
    · exact Or.inl (hs _ (by decide +kernel))
    · exact Or.inr (hs _ (by decide +kernel))
    · exact Or.inr (hs _ (by decide +kernel))
    · exact Or.inr (hs _ (by decide +kernel))
    · exact Or.inr (hs _ (by decide +kernel))
    · exact absurd rfl hij
theorem am_factR {args : Array Value} {s : State} (h : (Jvm.Cond.and given_1 narrow_1).before args s = true) (hts : ∀ w ∈ lw_tbl, w.before args s = true) {adK : Nat → Nat} (hk : ∀ i : Nat, i < 5 → (am_tm i).eval args s none [] s = some (.ref (adK i))) : ∀ i q, am_sk[i]? = some q → vk_R q.1 q.2.1 q.2.2 (adK (i % 5)) s := by
  have hs := flat_of_before _ h
  intro i q hq
  have hi : i < 10 := (List.getElem?_eq_some_iff.mp hq).1
  rcases (show i = 0 ∨ i = 1 ∨ i = 2 ∨ i = 3 ∨ i = 4 ∨ i = 5 ∨ i = 6 ∨ i = 7 ∨ i = 8 ∨ i = 9 by omega) with rfl | rfl | rfl | rfl | rfl | rfl | rfl | rfl | rfl | rfl
  · cases hq; exact vk_R.of (hts _ ct_509) (hk 0 (by omega))
  · cases hq; exact vk_R.of (hts _ ct_510) (hk 1 (by omega))
  · cases hq; exact vk_R.of (hts _ ct_511) (hk 2 (by omega))
  · cases hq; exact vk_R.of (hts _ ct_588) (hk 3 (by omega))
  · cases hq; exact vk_R.of (hts _ ct_592) (hk 4 (by omega))
  · cases hq; exact vk_R.of (hts _ ct_1110) (am_eqr (hs _ (by decide +kernel)) (hk 0 (by omega)))
  · cases hq; exact vk_R.of (hts _ ct_1121) (am_eqr (hs _ (by decide +kernel)) (hk 1 (by omega)))
  · cases hq; exact vk_R.of (hts _ ct_1122) (am_eqr (hs _ (by decide +kernel)) (hk 2 (by omega)))
  · cases hq; exact vk_R.of (hts _ ct_1155) (am_eqr (hs _ (by decide +kernel)) (hk 3 (by omega)))
  · cases hq; exact vk_R.of (hts _ ct_1211) (am_eqr (hs _ (by decide +kernel)) (hk 4 (by omega)))
theorem am_factA {args : Array Value} {s : State} (h : (Jvm.Cond.and given_1 narrow_1).before args s = true) (hts : ∀ w ∈ lw_tbl, w.before args s = true) : ∃ t : Nat, va_Z "LostSheets" "ABOVE" "[I" (.ref t) (fun q : Nat => s.heap.size ≤ q) s s.heap ∧ va_T .int t am_tA.length (fun j => .int (am_tA.getD j 0)) (fun q : Nat => s.heap.size ≤ q) s s.heap := by
  have hs := flat_of_before _ h
  have hA : ∀ a : Nat, a < s.heap.size → ¬ s.heap.size ≤ a := fun a q => Nat.not_le.mpr q
  obtain ⟨t, ht, hT⟩ := va_Tof (tm := .static "LostSheets" "ABOVE" "[I") (ty := .int) (N := am_tA.length) (f := fun j => .int (am_tA.getD j 0)) (A := fun q : Nat => s.heap.size ≤ q) (by decide +kernel) (hs _ (by decide +kernel)) (va_eqt (z := 7) (hs _ (by decide +kernel))) (fun j hj => by
    have hj : j < 7 := hj
    rcases (show j = 0 ∨ j = 1 ∨ j = 2 ∨ j = 3 ∨ j = 4 ∨ j = 5 ∨ j = 6 by omega) with rfl | rfl | rfl | rfl | rfl | rfl | rfl
    · exact va_eqt (z := (-1)) (hs _ (by decide +kernel))
    · exact va_eqt (z := (0)) (hs _ (by decide +kernel))
    · exact va_eqt (z := (0)) (hs _ (by decide +kernel))
    · exact va_eqt (z := (0)) (hs _ (by decide +kernel))
    · exact va_eqt (z := (1)) (hs _ (by decide +kernel))
    · exact va_eqt (z := (2)) (hs _ (by decide +kernel))
    · exact va_eqt (z := (3)) (hs _ (by decide +kernel))
    ) hA
  exact ⟨t, va_Zof (hts _ am_lst_ABOVE) (hts _ (am_ink_ok 8 (by decide)).2) ht hA, hT⟩
theorem am_factB {args : Array Value} {s : State} (h : (Jvm.Cond.and given_1 narrow_1).before args s = true) (hts : ∀ w ∈ lw_tbl, w.before args s = true) : ∃ t : Nat, va_Z "LostSheets$Trace" "BODIES" "[I" (.ref t) (fun q : Nat => s.heap.size ≤ q) s s.heap ∧ va_T .int t am_tB.length (fun j => .int (am_tB.getD j 0)) (fun q : Nat => s.heap.size ≤ q) s s.heap := by
  have hs := flat_of_before _ h
  have hA : ∀ a : Nat, a < s.heap.size → ¬ s.heap.size ≤ a := fun a q => Nat.not_le.mpr q
  obtain ⟨t, ht, hT⟩ := va_Tof (tm := .static "LostSheets$Trace" "BODIES" "[I") (ty := .int) (N := am_tB.length) (f := fun j => .int (am_tB.getD j 0)) (A := fun q : Nat => s.heap.size ≤ q) (by decide +kernel) (hs _ (by decide +kernel)) (va_eqt (z := 21) (hs _ (by decide +kernel))) (fun j hj => by
    have hj : j < 21 := hj
    rcases (show j = 0 ∨ j = 1 ∨ j = 2 ∨ j = 3 ∨ j = 4 ∨ j = 5 ∨ j = 6 ∨ j = 7 ∨ j = 8 ∨ j = 9 ∨ j = 10 ∨ j = 11 ∨ j = 12 ∨ j = 13 ∨ j = 14 ∨ j = 15 ∨ j = 16 ∨ j = 17 ∨ j = 18 ∨ j = 19 ∨ j = 20 by omega) with rfl | rfl | rfl | rfl | rfl | rfl | rfl | rfl | rfl | rfl | rfl | rfl | rfl | rfl | rfl | rfl | rfl | rfl | rfl | rfl | rfl
    · exact va_eqt (z := (10)) (hs _ (by decide +kernel))
    · exact va_eqt (z := (11)) (hs _ (by decide +kernel))
    · exact va_eqt (z := (12)) (hs _ (by decide +kernel))
    · exact va_eqt (z := (0)) (hs _ (by decide +kernel))
    · exact va_eqt (z := (20)) (hs _ (by decide +kernel))
    · exact va_eqt (z := (0)) (hs _ (by decide +kernel))
    · exact va_eqt (z := (30)) (hs _ (by decide +kernel))
    · exact va_eqt (z := (0)) (hs _ (by decide +kernel))
    · exact va_eqt (z := (0)) (hs _ (by decide +kernel))
    · exact va_eqt (z := (0)) (hs _ (by decide +kernel))
    · exact va_eqt (z := (0)) (hs _ (by decide +kernel))
    · exact va_eqt (z := (40)) (hs _ (by decide +kernel))
    · exact va_eqt (z := (50)) (hs _ (by decide +kernel))
    · exact va_eqt (z := (51)) (hs _ (by decide +kernel))
    · exact va_eqt (z := (0)) (hs _ (by decide +kernel))
    · exact va_eqt (z := (0)) (hs _ (by decide +kernel))
    · exact va_eqt (z := (0)) (hs _ (by decide +kernel))
    · exact va_eqt (z := (60)) (hs _ (by decide +kernel))
    · exact va_eqt (z := (71)) (hs _ (by decide +kernel))
    · exact va_eqt (z := (70)) (hs _ (by decide +kernel))
    · exact va_eqt (z := (0)) (hs _ (by decide +kernel))
    ) hA
  exact ⟨t, va_Zof (hts _ am_lst_BODIES) (hts _ (am_ink_ok 7 (by decide)).2) ht hA, hT⟩
theorem am_whole {p : Program} {e : Env} {s : State} {m : MethodId} {below : List Frame} {meth : Method} {c : Code} (l : Launch) {b L : Nat} {xs : Nat → Int32} (hgoal : am_Goal ((List.range L).map xs)) (C0 : lw_At p s m meth c b L xs) : W p l e room_1 s m #[Value.ref b] below meth c s.heap [] 0 0 (lw_Z below #[Value.ref b] s) (entryFrame m ([Value.ref b] : List Value).toArray 4) := by
  obtain ⟨hx, hb, hr, hml, hown, hts, hX, hbl, hlocks, hgv⟩ := C0
  have hA : ∀ a : Nat, a < s.heap.size → ¬ s.heap.size ≤ a := fun a q => Nat.not_le.mpr q
  obtain ⟨adK, adV, hvk, hev⟩ := am_facts hgv
  have hvR := am_factR hgv hts hev
  obtain ⟨t1, hz1, hT1⟩ := am_factA hgv hts
  obtain ⟨t2, hz2, hT2⟩ := am_factB hgv hts
  have hs := flat_of_before _ hgv
  have hzc := va_Zof (A := fun q : Nat => s.heap.size ≤ q) (v := .int 1) (hts _ am_lst_COMPACT_STRINGS) (hts _ tk_js_length.2.2.2.2.1) (va_eqi (hs _ (by decide +kernel))) hA
  obtain ⟨fm, hzf⟩ : ∃ fm : Option Nat, va_Z "jdk/internal/util/Preconditions" "SIOOBE_FORMATTER" "Ljava/util/function/BiFunction;" (va_rf fm) (fun q : Nat => s.heap.size ≤ q) s s.heap := by
    rcases va_Zqof (A := fun q : Nat => s.heap.size ≤ q) (hts _ am_lst_SIOOBE_FORMATTER) (hts _ tk_jp_checkIndex.2.2.2.2.1) (hs _ (by decide +kernel)) hA with h | ⟨t, h⟩
    · exact ⟨none, h⟩
    · exact ⟨some t, h⟩
  obtain ⟨f, hf⟩ : ∃ f : Nat → ClassId × (Nat → Nat), ∀ i, i < 10 → u_Kn s (am_cn i) (am_T i) (am_nf i) (f i).1 (f i).2 := by
    apply (Classical.skolem (p := fun (i : Nat) (q : ClassId × (Nat → Nat)) => i < 10 → u_Kn s (am_cn i) (am_T i) (am_nf i) q.1 q.2)).mp
    intro i
    by_cases hi : i < 10
    · obtain ⟨cC, iS, h⟩ := u_known hts (am_wsk_ok i hi) (hts _ (am_ink_ok i hi).1)
      exact ⟨(cC, iS), fun _ => h⟩
    · exact ⟨(0, fun _ => 0), fun h => absurd h hi⟩
  obtain ⟨scr, hc1, hc2, hc3, hc4, hc5⟩ := hX
  have hlen : ((List.range L).map xs).length = L := by simp
  have hTX : va_T .int b ((List.range L).map xs).length (fun j => .int (((List.range L).map xs).getD j 0)) (fun q : Nat => s.heap.size ≤ q) s s.heap := by
    refine ⟨scr, hc1, hc2, hc3, by rw [hlen, hc4]; exact Nat.le_refl _, by rw [hlen, hc4], fun j hj => ?_, hA b hbl⟩
    rw [hlen] at hj
    rw [hc5 j hj]
    simp [List.getD_eq_getElem?_getD, hj]
  obtain ⟨d, n, es1, hd, hrun, hl1, hl2⟩ := hgoal
  generalize hxl : (List.range L).map xs = xl at hrun hTX
  let Γ : am_G := ((fun i => (f i).1, fun i => (f i).2), s.vm.findClass, s.heap, adK, adV, (t1, t2, b), fm)
  have hKK : am_KK Γ xl s := by
    refine ⟨⟨fun k q hq => ?_, fun k q hq => by cases hq⟩, fun _ => rfl, fun o idx y hy => va_Nw.of rfl (hts _ hy), fun CC hC => va_AO.of (hts _ hC), hvR, hvk, hzc, hz1, hz2, hzf, hT1, hT2, hTX⟩
    have hk : k < 10 := (List.getElem?_eq_some_iff.mp hq).1
    have h2 := am_cls_ok k hk
    cases hq.symm.trans h2
    exact hf k hk
  have C : am_Cx p room_1 s m #[Value.ref b] meth c Γ xl L_law code 0 := ⟨hx, hb, hml, hown, fun w hw => hts w (am_B_good w hw).1, hKK, rfl, fun a _ => rfl, by decide, fun h => (by cases h), Nat.le_of_ble_eq_true rfl, Nat.le_of_ble_eq_true rfl⟩
  have hl := lv_entry ([.ref b]) (n := 4) (Nat.le_of_ble_eq_true rfl)
  rw [lg_entry_eq]
  generalize (lg_sl ([.ref b]) ++ List.replicate (4 - (lg_sl ([.ref b])).length) Slot.unset).toArray = ls at hl ⊢
  have hAL : am_AL Γ (am_ini 4 [.ref 1000202]) ls := ⟨hl.1, hl.2.1, fun i v hi => by
    have h9 := hl.2.2 _ (am_arg_at Γ [.ref 1000202] 0 i v (am_ini_mem hi))
    rwa [Nat.zero_add] at h9⟩
  have hdec : ∀ q ∈ L_law.2.2.2.2, decode code q.1 = .ok q.2 ∧ am_il q.2.1 q.2.2 = true := List.forall_mem_append.mpr ⟨am_dk dk_L_law_0, List.forall_mem_append.mpr ⟨am_dk dk_L_law_1, List.forall_mem_append.mpr ⟨am_dk dk_L_law_2, List.forall_mem_append.mpr ⟨am_dk dk_L_law_3, List.forall_mem_append.mpr ⟨am_dk dk_L_law_4, List.forall_mem_append.mpr ⟨am_dk dk_L_law_5, List.forall_mem_append.mpr ⟨am_dk dk_L_law_6, List.forall_mem_append.mpr ⟨am_dk dk_L_law_7, List.forall_mem_append.mpr ⟨am_dk dk_L_law_8, List.forall_mem_append.mpr ⟨am_dk dk_L_law_9, List.forall_mem_append.mpr ⟨am_dk dk_L_law_10, List.forall_mem_append.mpr ⟨am_dk dk_L_law_11, List.forall_mem_append.mpr ⟨am_dk dk_L_law_12, List.forall_mem_append.mpr ⟨am_dk dk_L_law_13, am_dk dk_L_law_14⟩⟩⟩⟩⟩⟩⟩⟩⟩⟩⟩⟩⟩⟩
  have K := am_run_sound (Q := lw_Z below #[Value.ref b] s) (below := below) (l := l) (e := e) (S0 := 0) C (am_sound l Γ xl n d) (by show d + 1 ≤ 2048; omega) (by show 40 * (d + 1) ≤ 84000; omega) hdec (v := some (.int 1)) (es1 := es1) (by show es1.length - 0 ≤ 600000; omega) (by show am_sz es1 - 0 ≤ 7302249; omega) ?_ n 0 (am_ini 4 [.ref 1000202]) [] [] hrun (Nat.le_refl _) (Nat.zero_le _)
  · have hW0 : am_Wd Γ [] s s.heap := ⟨fun _ _ => rfl, fun k q hk => by simp [am_cW] at hk, fun i ty x hi => by simp at hi⟩
    exact K rfl s.heap [] ls hW0 va_S.rf hAL
  · intro pc i len L0 st es hd1 hil hins hL0 H locs ls0 hw0 hS0 hal0
    refine va_forget (fun q hq => hS0.2.2 q hq) ?_
    rcases am_ins_ret hins with rfl | rfl | rfl | rfl
    · obtain rfl : len = 1 := by simpa [am_il] using hil
      unfold am_ins am_iret at hins
      dsimp only at hins
      split at hins
      · split at hins
        · cases hins
          refine W.widen (k := 600000) (n := 7302249) (by omega) (by omega) ?_
          exact lw_ret hx hb hr hlocks hd1
        · cases hins
      · cases hins
    · unfold am_ins am_lret at hins
      dsimp only at hins
      split at hins <;> cases hins
    · unfold am_ins at hins
      dsimp only at hins
      rw [show L_law.2.1 = some .boolean from rfl] at hins
      simp [am_aret] at hins
    · unfold am_ins am_vret at hins
      dsimp only at hins
      split at hins <;> cases hins
