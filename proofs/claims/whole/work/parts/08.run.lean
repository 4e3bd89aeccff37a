section SR
variable {p : Program} {l : Launch} {e : Env} {R : Room} {s : State} {m : MethodId} {args : Array Value} {below : List Frame} {meth : Method} {c : Code} {Q : State → Prop}
variable {Γ : am_G} {xs : List Int32} {M : am_M} {cc : ByteArray} {E0 S0 : Nat}
theorem am_cat_cV (Γ : am_G) (st : List Value) : ((st.map (am_cV Γ)).map fun v => v.category).sum = am_cat st := by
  unfold am_cat
  rw [List.map_map]
  congr 1
  apply List.map_congr_left
  intro v _
  exact am_cV_cat Γ v
theorem am_copyL {α : Type} (f g : List α) (d : α) {sp dp n : Nat} (h1 : sp + n ≤ f.length) (h2 : dp + n ≤ g.length) : va_cpy (fun j => f.getD j d) (fun j => g.getD j d) sp dp n = fun j => (am_copy f g sp dp n).getD j d := by
  funext j
  unfold va_cpy am_copy
  simp only [List.getD_eq_getElem?_getD, List.getElem?_mapIdx]
  by_cases hj : dp ≤ j ∧ j < dp + n
  · rw [if_pos hj]
    have hj2 : j < g.length := by omega
    have hs : sp + (j - dp) < f.length := by omega
    rw [List.getElem?_eq_getElem hj2, List.getElem?_eq_getElem hs]
    simp only [Option.map_some, Option.getD_some]
    rw [if_pos hj]
  · rw [if_neg hj]
    cases g[j]? with
    | none => rfl
    | some x => simp only [Option.map_some, Option.getD_some]; rw [if_neg hj]
theorem am_copy_len {α : Type} (f g : List α) (sp dp n : Nat) : (am_copy f g sp dp n).length = g.length := by unfold am_copy; simp
def am_Ws (t : MethodName × (ByteArray × am_M)) : List Cond := Cond.code t.1 t.2.1 t.2.2.2.2.1 t.2.2.2.1 :: am_B
def am_Rm (d : Nat) (es es' : am_H) : Room := { frames := d, cells := es'.length - es.length, slots := am_sz es' - am_sz es, locals := 40 * d }
def am_Pre (Γ : am_G) (xs : List Int32) (av : List Value) (es : am_H) : Array Value → State → Prop := va_Pc (av.map (am_cV Γ)) (fun U => am_Wd Γ es U U.heap ∧ am_KK Γ xs U ∧ U.heap.size = am_base Γ + es.length)
def am_Post (Γ : am_G) (v : Option Value) (es' : am_H) : Array Value → State → Outcome → State → Prop := fun _ st oc t => oc = .returned (v.map (am_cV Γ)) ∧ am_Wd Γ es' t t.heap ∧ va_F (fun q : Nat => am_base Γ ≤ q) st t
def am_Ok (l : Launch) (Γ : am_G) (xs : List Int32) (d : Nat) (cl : am_C) : Prop := ∀ y av es v es', cl y av es = some (v, es') → es.length ≤ es'.length ∧ am_sz es ≤ am_sz es' ∧ ∃ t, am_ms[y]? = some t ∧ Met l t.1 (am_Ws t) (am_Rm d es es') (am_Pre Γ xs av es) (am_Post Γ v es') (es'.length - es.length) (am_sz es' - am_sz es) (fun q : Nat => am_base Γ ≤ q)
theorem am_GI (t : MethodName × (ByteArray × am_M)) (h : t ∈ am_ms) : GoodIn am_B (am_Ws t) := fun w hw => by
  rcases List.mem_cons.mp hw with rfl | hw
  · exact ⟨am_gB (am_msO t h).2.1 rfl, Or.inl rfl⟩
  · exact ⟨hw, (am_B_good w hw).2⟩
theorem am_blind (Γ : am_G) (xs : List Int32) (av : List Value) (es : am_H) : FrameBlind (am_Pre Γ xs av es) := fun a U g mk h => by
  obtain ⟨h1, h2, h3, h4⟩ := h
  exact ⟨h1, ⟨h2.1, h2.2.1, fun i ty x hx => ⟨arrOfT_moved (show U.vm.Alike (U.calling g mk a).vm from Vm.Alike.refl U.vm) (h2.2.2 i ty x hx).1, va_RA.moved (show U.vm.Alike (U.calling g mk a).vm from Vm.Alike.refl U.vm) (h2.2.2 i ty x hx).2⟩⟩, am_KK.same (U := U.calling g mk a) rfl h3, h4⟩
theorem am_after {H : Heap} {locs : List Loc} {cells slots mc ms pc : Nat} {ls : Array Slot} {st0 rest : List Value} {v : Option Value} {es' : am_H} {a : Array Value} (hr : va_Run p l e R s m args below meth c H locs cells slots mc ms (F0 m pc ls st0) rest (am_Post Γ v es' a) (fun q : Nat => am_base Γ ≤ q)) (hS : va_S (fun q : Nat => am_base Γ ≤ q) s.heap H locs)
    (kk : ∀ (H1 : Heap) (locs1 : List Loc), am_Wd Γ es' s H1 → va_S (fun q : Nat => am_base Γ ≤ q) s.heap H1 locs1 → W p l e R s m args below meth c H1 locs1 (cells + mc) (slots + ms) Q (F0 m (pc + 3) ls ((v.map (am_cV Γ)).toList ++ rest))) : W p l e R s m args below meth c H locs cells slots Q (F0 m pc ls st0) := by
  intro T hT X
  obtain ⟨v', st₀, t, T', L, h0, X', hL, e1, e2, ⟨hv, hw, hz, hk⟩, st⟩ := hr T hT X
  cases hv
  rw [h0] at hz hk
  have hal : t.vm.Alike s.vm := by rw [← e2]; exact X'.warmed.alike.symm
  obtain ⟨t2, a1, b1⟩ := kk T'.heap (locs ++ L) (by rw [e1]; exact ⟨hw.1, hw.2.1, fun i ty x hx => ⟨arrOfT_moved hal (hw.2.2 i ty x hx).1, va_RA.moved hal (hw.2.2 i ty x hx).2⟩⟩)
    ⟨Nat.le_trans hS.1 (by rw [e1]; exact hz), fun q h1 h2 => by rw [e1, hk q (Nat.lt_of_lt_of_le h1 hS.1) h2]; exact hS.2.1 q h1 h2, fun q hq => by
      rcases List.mem_append.mp hq with h | h
      · exact hS.2.2 q h
      · exact hL q h⟩ T' rfl X'
  exact ⟨t2, st t2 a1, b1⟩
theorem am_res_inv {r : Option am_R} {np : Nat} {L : am_L} {rest : List Value} {N : Nat × (am_L × (List Value × am_H))} (h : am_res r np L rest = some (.inl N)) : ∃ v es', r = some (v, es') ∧ N = (np, L, v.toList ++ rest, es') := by
  unfold am_res at h
  split at h
  · rename_i v es'
    exact ⟨v, es', rfl, am_nx_inv h⟩
  · cases h
theorem am_vl (Γ : am_G) (v : Option Value) (rest : List Value) : (v.toList ++ rest).map (am_cV Γ) = (v.map (am_cV Γ)).toList ++ rest.map (am_cV Γ) := by
  cases v <;> rfl
theorem sd_call {d idx : Nat} {sp : Bool} {ks : List Nat} (C : am_Cx p R s m args meth c Γ xs M cc E0) {pc : Nat} {L : am_L} {st : List Value} {es : am_H} {N : Nat × (am_L × (List Value × am_H))} {cl : am_C} (hcl : am_Ok l Γ xs d cl) (hR1 : d + 1 ≤ R.frames) (hR2 : 40 * (d + 1) ≤ R.locals)
    (hd : (ks = [0] ∧ sp = false ∧ decode cc pc = .ok (.invokevirtual idx, 3)) ∨ (ks = [1, 4] ∧ sp = false ∧ decode cc pc = .ok (.invokestatic idx, 3)) ∨ (ks = [2, 5] ∧ sp = true ∧ decode cc pc = .ok (.invokespecial idx, 3)))
    (h : am_call1 cl M.1 idx sp ks st (pc + 3) L es = some (.inl N)) (hE : E0 ≤ es.length) (hS0 : S0 ≤ am_sz es) (hE' : N.2.2.2.length - E0 ≤ R.cells) (hS' : am_sz N.2.2.2 - S0 ≤ R.slots)
    (k : am_Wp p l e R s m args below meth c Q Γ M.2.2.1 E0 S0 N.1 N.2.1 N.2.2.1 N.2.2.2) : am_Wp p l e R s m args below meth c Q Γ M.2.2.1 E0 S0 pc L st es := by
  obtain ⟨hx, hb, hml, hown, hts, hKK, hb1, hb2, ho, hini, hfr, hlo⟩ := id C
  unfold am_call1 at h
  split at h
  case h_2 => cases h
  rename_i kd y n hlk
  have hmk := am_mt_ok M.1 _ (am_lk hlk)
  split at h
  · rename_i hks
    rcases hmk with ⟨h6, -⟩ | ⟨h7, -⟩ | ⟨-, t, hy, hyn, hP⟩
    · dsimp only at h6; subst h6; exfalso; rcases hd with ⟨rfl, -⟩ | ⟨rfl, -⟩ | ⟨rfl, -⟩ <;> simp at hks
    · dsimp only at h7; subst h7; exfalso; rcases hd with ⟨rfl, -⟩ | ⟨rfl, -⟩ | ⟨rfl, -⟩ <;> simp at hks
    dsimp only at hy hyn hP
    have htm : t ∈ am_ms := List.mem_of_getElem? hy
    have htok := am_msO t htm
    have hiB : (Cond.initialized t.1.cls).before args s = true := hts _ (am_gB htok.2.2.2.2.1 rfl)
    have hcB : (Cond.code t.1 t.2.1 t.2.2.2.2.1 t.2.2.2.1).before args s = true := hts _ (am_gB htok.2.1 rfl)
    have hmx : t.2.2.2.2.1 ≤ 12 := htok.2.2.2.2.2.2.1
    have hCF : CallFix p m c cc M.2.2.1 s args am_B (am_cn M.1) := ⟨hx, hb, hml, hown, hts⟩
    unfold am_inv at h
    split at h
    · -- a static one
      rename_i hk14
      split at h
      case isFalse => cases h
      rename_i hnc
      obtain ⟨v, es', hres, rfl⟩ := am_res_inv h
      obtain ⟨g1, g2, t', hy', hM⟩ := hcl _ _ _ _ _ hres
      cases hy.symm.trans hy'
      dsimp only at hE' hS'
      intro hn H locs ls a b dl
      refine am_up fun hz => ?_
      have hsz : H.size = am_base Γ + es.length := by have := am_low a b hb1; omega
      have hst : st.map (am_cV Γ) = (((st.take n).reverse).map (am_cV Γ)).reverse ++ (st.drop n).map (am_cV Γ) := by
        rw [← List.map_reverse, List.reverse_reverse, ← List.map_append, List.take_append_drop]
      have hlen : (((st.take n).reverse).map (am_cV Γ)).length = n := by
        rw [List.length_map, List.length_reverse, List.length_take]; exact Nat.min_eq_left hnc.1
      have hPS : PreS s H (am_Pre Γ xs (st.take n).reverse es) (((st.take n).reverse).map (am_cV Γ)) :=
        ⟨am_blind Γ xs _ es, fun U hU hW => ⟨rfl, by rw [hU]; exact a.warm hW, hKK.warm hW, by rw [hU]; exact hsz⟩⟩
      have hrun : va_Run p l e R s m args below meth c H locs (es.length - E0) (am_sz es - S0) (es'.length - es.length) (am_sz es' - am_sz es) (F0 m pc ls (st.map (am_cV Γ))) ((st.drop n).map (am_cV Γ)) (am_Post Γ v es' (((st.take n).reverse).map (am_cV Γ)).toArray) (fun q : Nat => am_base Γ ≤ q) := by
        rcases hd with ⟨rfl, -, -⟩ | ⟨rfl, -, hd⟩ | ⟨rfl, -, -⟩
        · exfalso; rcases hk14 with rfl | rfl <;> simp at hks
        · rcases hk14 with rfl | rfl
          · exact va_runS (n := n) hCF hM ⟨callB_of n hts (am_GI t htm) rfl rfl rfl hiB (hts _ (am_gB hP.1 rfl)) hyn ⟨hR1, by show 8 + (t.2.2.2.2.1 + 11) + 40 * d ≤ R.locals; omega⟩, hts _ (am_gB hP.2 rfl)⟩ hPS rfl hlen (dl.1.trans hn) hst (lv_room (by rw [am_cat_cV]; exact hnc.2)) hd ⟨by omega, by omega⟩
          · exact va_runSN (n := n) (host := "LostSheets") hCF hM ⟨va_cnB n hts (am_GI t htm) rfl rfl rfl (hKK.2.2.1 _ _ _ hP.1) hiB hyn ⟨hR1, by show 8 + (t.2.2.2.2.1 + 11) + 40 * d ≤ R.locals; omega⟩, hts _ (am_gB hP.2 rfl), trivial⟩ hPS rfl hlen (dl.1.trans hn) hst (lv_room (by rw [am_cat_cV]; exact hnc.2)) hd ⟨by omega, by omega⟩
        · exfalso; rcases hk14 with rfl | rfl <;> simp at hks
      refine am_after hrun b fun H1 locs1 hW1 hS1 => ?_
      have kk := k hn H1 locs1 ls hW1 hS1 dl
      dsimp only at kk
      rw [am_vl] at kk
      rwa [show es.length - E0 + (es'.length - es.length) = es'.length - E0 by omega, show am_sz es - S0 + (am_sz es' - am_sz es) = am_sz es' - S0 by omega]
    · rename_i hk14
      split at h
      case h_2 => cases h
      rename_i b rest hdr
      split at h
      case isFalse => cases h
      rename_i hc0
      obtain ⟨hcat, hrec⟩ := hc0
      obtain ⟨v, es', hres, rfl⟩ := am_res_inv h
      obtain ⟨g1, g2, t', hy', hM⟩ := hcl _ _ _ _ _ hres
      cases hy.symm.trans hy'
      dsimp only at hE' hS'
      intro hn H locs ls a bb dl
      refine am_up fun hz => ?_
      have hsz : H.size = am_base Γ + es.length := by have := am_low a bb hb1; omega
      have hnl : n < st.length := by
        rcases Nat.lt_or_ge n st.length with q | q
        · exact q
        · rw [List.drop_eq_nil_of_le q] at hdr; cases hdr
      have hst : st.map (am_cV Γ) = (((st.take n).reverse).map (am_cV Γ)).reverse ++ am_cV Γ (.ref b) :: rest.map (am_cV Γ) := by
        rw [← List.map_reverse, List.reverse_reverse, ← List.map_cons, ← hdr, ← List.map_append, List.take_append_drop]
      have hlen : (((st.take n).reverse).map (am_cV Γ)).length = n := by
        rw [List.length_map, List.length_reverse, List.length_take]; exact Nat.min_eq_left (Nat.le_of_lt hnl)
      have hrun : va_Run p l e R s m args below meth c H locs (es.length - E0) (am_sz es - S0) (es'.length - es.length) (am_sz es' - am_sz es) (F0 m pc ls (st.map (am_cV Γ))) (rest.map (am_cV Γ)) (am_Post Γ v es' (am_cV Γ (.ref b) :: ((st.take n).reverse).map (am_cV Γ)).toArray) (fun q : Nat => am_base Γ ≤ q) := by
        rcases hd with ⟨rfl, -, hd⟩ | ⟨rfl, -, -⟩ | ⟨rfl, -, hd⟩
        · obtain rfl : kd = 0 := by simpa using hks
          have hrv : am_recv y b es = true := by
            rcases hrec with ⟨q | q, -⟩ | ⟨-, q⟩
            · cases q
            · cases q
            · exact q
          have how : am_ow y = t.2.2.1 := by unfold am_ow; rw [hy]
          have hRc : ∃ b' : Nat, am_cV Γ (.ref b) = .ref b' ∧ ∃ cell : Cell, H[b']? = some cell ∧ cell.vm.isStatics = false ∧ s.vm.findClass t.1.cls = some cell.cls := by
            unfold am_recv at hrv
            split at hrv
            · rename_i hbl
              split at hrv
              · rename_i ci fs he
                have hci : ci = t.2.2.1 := by rw [← how]; exact of_decide_eq_true hrv
                have hci9 : ci < 10 := by
                  obtain ⟨r, h1, -⟩ := a.2.1 b _ (am_cW_at he)
                  exact (List.getElem?_eq_some_iff.mp h1).1
                refine ⟨_, am_cV_lo hbl, ?_⟩
                have := va_recv hKK.1 a.2.1 (am_cls_ok ci hci9) (am_cW_at he)
                rw [htok.2.2.1, ← hci]
                exact this
              · cases hrv
            · rename_i hbl
              obtain ⟨h10, h11⟩ := of_decide_eq_true hrv
              have h12 : b - 1000000 < 5 := Nat.sub_lt_left_of_lt_add (Nat.not_lt.mp hbl) h10
              refine ⟨Γ.2.2.2.1 (b - 1000000), by rw [am_cV_hi hbl]; unfold am_rov; rw [if_pos h12], ?_⟩
              have h6 := vk_S.kept hKK.2.2.2.2.2.1 (H1 := s.heap) (fun q hq _ => hb2 q hq)
              rw [htok.2.2.1, ← how, h11]
              exact vk_recv h6 h12 bb
          obtain ⟨b', hb', hcell⟩ := hRc
          rw [hb'] at hst ⊢
          have hPV : PreV s H t.1.cls b' (am_Pre Γ xs (.ref b :: (st.take n).reverse) es) (((st.take n).reverse).map (am_cV Γ)) :=
            ⟨am_blind Γ xs _ es, hcell, fun U hU hW => ⟨by rw [List.map_cons, hb'], by rw [hU]; exact a.warm hW, hKK.warm hW, by rw [hU]; exact hsz⟩⟩
          exact va_runV (n := n) hCF hM ⟨callB_of n hts (am_GI t htm) rfl rfl rfl hiB (hts _ (am_gB hP.1 rfl)) hyn ⟨hR1, by show 8 + (t.2.2.2.2.1 + 11) + 40 * d ≤ R.locals; omega⟩, hts _ (am_gB hP.2.1 rfl), hts _ (am_gB hP.2.2 rfl)⟩ hPV rfl hlen (dl.1.trans hn) hst (lv_room (by rw [am_cat_cV]; exact hcat)) hd ⟨by omega, by omega⟩
        · exfalso
          rcases (show kd = 1 ∨ kd = 4 by simpa using hks) with rfl | rfl <;> simp at hk14
        · have hRc : ∃ b' : Nat, am_cV Γ (.ref b) = .ref b' := by
            rcases hrec with ⟨-, q⟩ | ⟨q, -⟩
            · exact ⟨_, am_cV_lo q⟩
            · subst q; simp at hks
          obtain ⟨b', hb'⟩ := hRc
          rw [hb'] at hst ⊢
          have hPS : PreS s H (am_Pre Γ xs (.ref b :: (st.take n).reverse) es) (.ref b' :: ((st.take n).reverse).map (am_cV Γ)) :=
            ⟨am_blind Γ xs _ es, fun U hU hW => ⟨by rw [List.map_cons, hb'], by rw [hU]; exact a.warm hW, hKK.warm hW, by rw [hU]; exact hsz⟩⟩
          rcases (show kd = 2 ∨ kd = 5 by simpa using hks) with rfl | rfl
          · obtain ⟨q1, q2, q3, q4⟩ := hP
            have hM' := hM
            exact va_runI (n := n) (bytes := t.2.1) (maxL := t.2.2.2.2.1) hCF hM ⟨by have := callB_of (R := R) (rm := am_Rm d es es') n hts (am_GI t htm) rfl rfl rfl hiB (hts _ (am_gB q1 rfl)) hyn ⟨hR1, by show 8 + (t.2.2.2.2.1 + 11) + 40 * d ≤ R.locals; omega⟩; rw [q4] at this; exact this, q3, hts _ (am_gB q2 rfl)⟩ hPS rfl hlen (dl.1.trans hn) hst (lv_room (by rw [am_cat_cV]; exact hcat)) hd ⟨by omega, by omega⟩
          · obtain ⟨q1, q2, q3, q4⟩ := hP
            exact va_runIN (n := n) (bytes := t.2.1) (maxL := t.2.2.2.2.1) (host := "LostSheets") hCF hM ⟨by have := va_cnB (R := R) (rm := am_Rm d es es') n hts (am_GI t htm) rfl rfl rfl (hKK.2.2.1 _ _ _ q1) hiB hyn ⟨hR1, by show 8 + (t.2.2.2.2.1 + 11) + 40 * d ≤ R.locals; omega⟩; rw [q4] at this; exact this, q3, hts _ (am_gB q2 rfl)⟩ hPS rfl hlen (dl.1.trans hn) hst (lv_room (by rw [am_cat_cV]; exact hcat)) hd ⟨by omega, by omega⟩
      refine am_after hrun bb fun H1 locs1 hW1 hS1 => ?_
      have kk := k hn H1 locs1 ls hW1 hS1 dl
      dsimp only at kk
      rw [am_vl] at kk
      rwa [show es.length - E0 + (es'.length - es.length) = es'.length - E0 by omega, show am_sz es - S0 + (am_sz es' - am_sz es) = am_sz es' - S0 by omega]
  · split at h
    · rename_i hk6
      split at h
      case h_2 => cases h
      rename_i x r
      split at h
      case isFalse => cases h
      rename_i hc0
      obtain rfl := am_nx_inv h
      have hmk6 : Cond.methodLink (am_cn M.1) idx Lib.objectInit ∈ lw_tbl := by
        rcases hmk with ⟨-, q⟩ | ⟨q, -⟩ | ⟨q, -⟩
        · exact q
        · dsimp only at q; omega
        · dsimp only at q; omega
      have hd' : decode cc pc = .ok (.invokespecial idx, 3) := by
        rcases hd with ⟨-, q, -⟩ | ⟨-, q, -⟩ | ⟨-, -, q⟩
        · rw [hk6.2] at q; cases q
        · rw [hk6.2] at q; cases q
        · exact q
      intro hn H locs ls a b dl
      show W p l e R s m args below meth c H locs (es.length - E0) (am_sz es - S0) Q (F0 m pc ls (am_cV Γ (.ref x) :: r.map (am_cV Γ)))
      rw [am_cV_lo hc0.2]
      have hroom : 2 * (F0 m pc ls (r.map (am_cV Γ))).monitorRoom + ((r.map (am_cV Γ)).map fun v => v.category).sum ≤ 8 := lv_room (by rw [am_cat_cV]; exact hc0.1)
      refine W.objInit hx hb hown (hts _ (am_gB hmk6 rfl)) (hts _ (am_gB am_oth_4 rfl)) (hts _ (am_gB am_oth_5 rfl)) rfl (by rw [hml]; exact dl.1.trans hn) rfl hd' hfr ?_ ?_
      · have h9 : 2 * (F0 m pc ls (.ref (am_base Γ + x) :: r.map (am_cV Γ))).monitorRoom + ((r.map (am_cV Γ)).map fun v => v.category).sum ≤ 8 := hroom
        omega
      · exact k hn H locs ls a b dl
    · split at h
      case isFalse => cases h
      rename_i hk6 hk7
      have hmk7 : Cond.methodLink (am_cn M.1) idx arraycopyName ∈ lw_tbl := by
        rcases hmk with ⟨q, -⟩ | ⟨-, q⟩ | ⟨q, -⟩
        · dsimp only at q; omega
        · exact q
        · dsimp only at q; omega
      have hd'' : decode cc pc = .ok (.invokestatic idx, 3) := by
        rcases hd with ⟨q, -, -⟩ | ⟨-, -, q⟩ | ⟨q, -, -⟩
        · rw [hk7.2] at q; cases q
        · exact q
        · rw [hk7.2] at q; cases q
      unfold am_acopy at h
      split at h
      case h_2 => cases h
      rename_i n dp xa sp' xb r
      split at h
      · cases h
      rename_i hneg
      have hn0 : ¬ n < 0 := fun q => hneg (Or.inl q)
      have hd0 : ¬ dp < 0 := fun q => hneg (Or.inr (Or.inl q))
      have hs0 : ¬ sp' < 0 := fun q => hneg (Or.inr (Or.inr (Or.inl q)))
      have hcat : am_cat r ≤ 8 := Decidable.byContradiction fun q => hneg (Or.inr (Or.inr (Or.inr (Or.inl q))))
      have hxa : xa < 1000000 := Decidable.byContradiction fun q => hneg (Or.inr (Or.inr (Or.inr (Or.inr (Or.inl q)))))
      have hxb : xb < 1000000 := Decidable.byContradiction fun q => hneg (Or.inr (Or.inr (Or.inr (Or.inr (Or.inr q)))))
      have hnw : nativeFrameWords "java/lang/System" "arraycopy" 5 + 11 ≤ 32 := by decide +kernel
      split at h
      · rename_i f g hf hg
        split at h
        case isFalse => cases h
        rename_i hb0
        obtain rfl := am_nx_inv h
        intro hn H locs ls a b dl
        have hKb := am_K1 hKK a hf
        have hKa := am_K1 hKK a hg
        have hcb := am_cW_at (Γ := Γ) hf
        have hca := am_cW_at (Γ := Γ) hg
        show W p l e R s m args below meth c H locs (es.length - E0) (am_sz es - S0) Q (F0 m pc ls (.int n :: .int dp :: am_cV Γ (.ref xa) :: .int sp' :: am_cV Γ (.ref xb) :: r.map (am_cV Γ)))
        rw [am_cV_lo hxa, am_cV_lo hxb]
        refine va_copyi (f := fun j => f.getD j 0) (g := fun j => g.getD j 0) hx hb (hml.trans (dl.1.trans hn).symm) hown (hts _ (am_gB hmk7 rfl)) (hts _ (am_gB am_oth_1 rfl)) (hts _ (am_gB am_oth_2 rfl)) (hts _ (am_gB am_oth_3 rfl)) hKa a.2.1 (am_cW_D Γ es) b xb xa 0 0 hcb hca rfl rfl rfl hs0 hd0 hn0 hb0.1 hb0.2 (fun _ _ => rfl) hfr (by rw [am_cat_cV]; omega) hd'' ?_
        intro H1 locs1 hP1 _ hS1
        rw [am_copyL f g 0 hb0.1 hb0.2] at hP1
        have hW1 : am_Wd Γ (es.set xa (.inl (.int, .inl (am_copy f g sp'.toNatClampNeg dp.toNatClampNeg n.toNatClampNeg)))) s H1 := am_Wd.put a hg (by rw [show am_cE Γ (.inl (.int, .inl (am_copy f g sp'.toNatClampNeg dp.toNatClampNeg n.toNatClampNeg))) = .inl (am_cT Γ .int, (am_copy f g sp'.toNatClampNeg dp.toNatClampNeg n.toNatClampNeg).length, .inl (fun j => (am_copy f g sp'.toNatClampNeg dp.toNatClampNeg n.toNatClampNeg).getD j 0)) from rfl, am_copy_len]; exact hP1) hS1 hb1 hb2 (fun ty a' q => by cases q; exact ⟨_, rfl⟩)
        have := k hn H1 locs1 ls hW1 hS1 dl
        rwa [List.length_set, am_sz_set hg (by simp [am_esz, am_len, am_copy_len])] at this
      · rename_i f g hf hg
        split at h
        case isFalse => cases h
        rename_i hb0
        obtain rfl := am_nx_inv h
        intro hn H locs ls a b dl
        have hKb := am_K1 hKK a hf
        have hKa := am_K1 hKK a hg
        have hcb := am_cW_at (Γ := Γ) hf
        have hca := am_cW_at (Γ := Γ) hg
        show W p l e R s m args below meth c H locs (es.length - E0) (am_sz es - S0) Q (F0 m pc ls (.int n :: .int dp :: am_cV Γ (.ref xa) :: .int sp' :: am_cV Γ (.ref xb) :: r.map (am_cV Γ)))
        rw [am_cV_lo hxa, am_cV_lo hxb]
        refine va_copyl (f := fun j => f.getD j 0) (g := fun j => g.getD j 0) hx hb (hml.trans (dl.1.trans hn).symm) hown (hts _ (am_gB hmk7 rfl)) (hts _ (am_gB am_oth_1 rfl)) (hts _ (am_gB am_oth_2 rfl)) (hts _ (am_gB am_oth_3 rfl)) hKa a.2.1 (am_cW_D Γ es) b xb xa 0 0 hcb hca rfl rfl rfl hs0 hd0 hn0 hb0.1 hb0.2 (fun _ _ => rfl) hfr (by rw [am_cat_cV]; omega) hd'' ?_
        intro H1 locs1 hP1 _ hS1
        rw [am_copyL f g 0 hb0.1 hb0.2] at hP1
        have hW1 : am_Wd Γ (es.set xa (.inl (.long, .inr (.inl (am_copy f g sp'.toNatClampNeg dp.toNatClampNeg n.toNatClampNeg))))) s H1 := am_Wd.put a hg (by rw [show am_cE Γ (.inl (.long, .inr (.inl (am_copy f g sp'.toNatClampNeg dp.toNatClampNeg n.toNatClampNeg)))) = .inl (am_cT Γ .long, (am_copy f g sp'.toNatClampNeg dp.toNatClampNeg n.toNatClampNeg).length, .inr (.inl (fun j => (am_copy f g sp'.toNatClampNeg dp.toNatClampNeg n.toNatClampNeg).getD j 0))) from rfl, am_copy_len]; exact hP1) hS1 hb1 hb2 (fun ty a' q => by cases q; exact ⟨_, rfl⟩)
        have := k hn H1 locs1 ls hW1 hS1 dl
        rwa [List.length_set, am_sz_set hg (by simp [am_esz, am_len, am_copy_len])] at this
      · cases h
end SR
