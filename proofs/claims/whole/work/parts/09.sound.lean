theorem am_mput_mono {o idx : Nat} {ini : Bool} {st : List Value} {np : Nat} {L : am_L} {es : am_H} {N : Nat × (am_L × (List Value × am_H))} (h : am_putf o idx ini st np L es = some (.inl N)) : es.length ≤ N.2.2.2.length ∧ am_sz es ≤ am_sz N.2.2.2 := by
  unfold am_putf at h
  split at h
  · split at h
    · rename_i h1 h2
      split at h
      · obtain rfl := am_nx_inv h
        rename_i hc
        obtain ⟨rfl, -⟩ := hc
        exact ⟨by simp, by rw [am_sz_set h2 (by simp [am_esz])]; exact Nat.le_refl _⟩
      · cases h
    · cases h
  · cases h
theorem am_mast_mono {st : List Value} {np : Nat} {L : am_L} {es : am_H} {tys : List FieldType} {nar : FieldType → Int32 → Int32} {N : Nat × (am_L × (List Value × am_H))} (h : am_astore st np L es tys nar = some (.inl N)) : es.length ≤ N.2.2.2.length ∧ am_sz es ≤ am_sz N.2.2.2 := by
  unfold am_astore at h
  split at h
  · split at h
    · rename_i h2
      split at h
      · obtain rfl := am_nx_inv h
        exact ⟨by simp, by rw [am_sz_set h2 (by simp [am_esz, am_len])]; exact Nat.le_refl _⟩
      · cases h
    · cases h
  · cases h
theorem am_mlast_mono {st : List Value} {np : Nat} {L : am_L} {es : am_H} {N : Nat × (am_L × (List Value × am_H))} (h : am_last st np L es = some (.inl N)) : es.length ≤ N.2.2.2.length ∧ am_sz es ≤ am_sz N.2.2.2 := by
  unfold am_last at h
  split at h
  · split at h
    · rename_i h2
      split at h
      · obtain rfl := am_nx_inv h
        exact ⟨by simp, by rw [am_sz_set h2 (by simp [am_esz, am_len])]; exact Nat.le_refl _⟩
      · cases h
    · cases h
  · cases h
theorem am_maast_mono {st : List Value} {np : Nat} {L : am_L} {es : am_H} {N : Nat × (am_L × (List Value × am_H))} (h : am_aast st np L es = some (.inl N)) : es.length ≤ N.2.2.2.length ∧ am_sz es ≤ am_sz N.2.2.2 := by
  unfold am_aast at h
  split at h
  · split at h
    · rename_i h2 h3
      split at h
      · obtain rfl := am_nx_inv h
        exact ⟨by simp, by rw [am_sz_set h2 (by simp [am_esz, am_len])]; exact Nat.le_refl _⟩
      · cases h
    · cases h
  · cases h
theorem am_macopy_mono {st : List Value} {np : Nat} {L : am_L} {es : am_H} {N : Nat × (am_L × (List Value × am_H))} (h : am_acopy st np L es = some (.inl N)) : es.length ≤ N.2.2.2.length ∧ am_sz es ≤ am_sz N.2.2.2 := by
  unfold am_acopy at h
  split at h
  · split at h
    · cases h
    · split at h
      · rename_i h1 h2
        split at h
        · obtain rfl := am_nx_inv h
          exact ⟨by simp, by rw [am_sz_set h2 (by simp [am_esz, am_len, am_copy_len])]; exact Nat.le_refl _⟩
        · cases h
      · rename_i h1 h2
        split at h
        · obtain rfl := am_nx_inv h
          exact ⟨by simp, by rw [am_sz_set h2 (by simp [am_esz, am_len, am_copy_len])]; exact Nat.le_refl _⟩
        · cases h
      · cases h
  · cases h
theorem am_mcall_mono {cl : am_C} (hm : ∀ y av es v es', cl y av es = some (v, es') → es.length ≤ es'.length ∧ am_sz es ≤ am_sz es') {o idx : Nat} {sp : Bool} {ks : List Nat} {st : List Value} {np : Nat} {L : am_L} {es : am_H} {N : Nat × (am_L × (List Value × am_H))} (h : am_call1 cl o idx sp ks st np L es = some (.inl N)) : es.length ≤ N.2.2.2.length ∧ am_sz es ≤ am_sz N.2.2.2 := by
  unfold am_call1 at h
  split at h
  · split at h
    · unfold am_inv at h
      split at h
      · split at h
        · obtain ⟨v, es', hr, rfl⟩ := am_res_inv h
          exact hm _ _ _ _ _ hr
        · cases h
      · split at h
        · split at h
          · obtain ⟨v, es', hr, rfl⟩ := am_res_inv h
            exact hm _ _ _ _ _ hr
          · cases h
        · cases h
    · split at h
      · split at h
        · split at h
          · obtain rfl := am_nx_inv h; exact ⟨Nat.le_refl _, Nat.le_refl _⟩
          · cases h
        · cases h
      · split at h
        · exact am_macopy_mono h
        · cases h
  · cases h
section SN
variable {p : Program} {l : Launch} {e : Env} {R : Room} {s : State} {m : MethodId} {args : Array Value} {below : List Frame} {meth : Method} {c : Code} {Q : State → Prop}
variable {Γ : am_G} {xs : List Int32} {M : am_M} {cc : ByteArray} {E0 S0 : Nat}
theorem am_ins_sound {d : Nat} (C : am_Cx p R s m args meth c Γ xs M cc E0) {pc : Nat} {L : am_L} {st : List Value} {es : am_H} {N : Nat × (am_L × (List Value × am_H))} {cl : am_C} (hcl : am_Ok l Γ xs d cl) (hR1 : d + 1 ≤ R.frames) (hR2 : 40 * (d + 1) ≤ R.locals)
    {i : Instr} {len : Nat} (hd : decode cc pc = .ok (i, len)) (hil : am_il i len = true) (h : am_ins xs cl M pc i L st es = some (.inl N)) (hE : E0 ≤ es.length) (hS0 : S0 ≤ am_sz es) (hE' : N.2.2.2.length - E0 ≤ R.cells) (hS' : am_sz N.2.2.2 - S0 ≤ R.slots)
    (k : am_Wp p l e R s m args below meth c Q Γ M.2.2.1 E0 S0 N.1 N.2.1 N.2.2.1 N.2.2.2) : am_Wp p l e R s m args below meth c Q Γ M.2.2.1 E0 S0 pc L st es := by
  cases i with
  | aconst_null =>
    obtain rfl : len = 1 := by simpa [am_il] using hil
    exact sd_aconst_null C hd h k
  | iadd =>
    obtain rfl : len = 1 := by simpa [am_il] using hil
    exact sd_iadd C hd h k
  | isub =>
    obtain rfl : len = 1 := by simpa [am_il] using hil
    exact sd_isub C hd h k
  | imul =>
    obtain rfl : len = 1 := by simpa [am_il] using hil
    exact sd_imul C hd h k
  | iand =>
    obtain rfl : len = 1 := by simpa [am_il] using hil
    exact sd_iand C hd h k
  | ior =>
    obtain rfl : len = 1 := by simpa [am_il] using hil
    exact sd_ior C hd h k
  | ixor =>
    obtain rfl : len = 1 := by simpa [am_il] using hil
    exact sd_ixor C hd h k
  | ishl =>
    obtain rfl : len = 1 := by simpa [am_il] using hil
    exact sd_ishl C hd h k
  | ishr =>
    obtain rfl : len = 1 := by simpa [am_il] using hil
    exact sd_ishr C hd h k
  | iushr =>
    obtain rfl : len = 1 := by simpa [am_il] using hil
    exact sd_iushr C hd h k
  | idiv =>
    obtain rfl : len = 1 := by simpa [am_il] using hil
    exact sd_idiv C hd h k
  | irem =>
    obtain rfl : len = 1 := by simpa [am_il] using hil
    exact sd_irem C hd h k
  | ineg =>
    obtain rfl : len = 1 := by simpa [am_il] using hil
    exact sd_ineg C hd h k
  | ladd =>
    obtain rfl : len = 1 := by simpa [am_il] using hil
    exact sd_ladd C hd h k
  | land =>
    obtain rfl : len = 1 := by simpa [am_il] using hil
    exact sd_land C hd h k
  | lor =>
    obtain rfl : len = 1 := by simpa [am_il] using hil
    exact sd_lor C hd h k
  | ldiv =>
    obtain rfl : len = 1 := by simpa [am_il] using hil
    exact sd_ldiv C hd h k
  | lrem =>
    obtain rfl : len = 1 := by simpa [am_il] using hil
    exact sd_lrem C hd h k
  | lcmp =>
    obtain rfl : len = 1 := by simpa [am_il] using hil
    exact sd_lcmp C hd h k
  | lneg =>
    obtain rfl : len = 1 := by simpa [am_il] using hil
    exact sd_lneg C hd h k
  | lshl =>
    obtain rfl : len = 1 := by simpa [am_il] using hil
    exact sd_lshl C hd h k
  | i2l =>
    obtain rfl : len = 1 := by simpa [am_il] using hil
    exact sd_i2l C hd h k
  | l2i =>
    obtain rfl : len = 1 := by simpa [am_il] using hil
    exact sd_l2i C hd h k
  | i2b =>
    obtain rfl : len = 1 := by simpa [am_il] using hil
    exact sd_i2b C hd h k
  | i2s =>
    obtain rfl : len = 1 := by simpa [am_il] using hil
    exact sd_i2s C hd h k
  | i2c =>
    obtain rfl : len = 1 := by simpa [am_il] using hil
    exact sd_i2c C hd h k
  | dup =>
    obtain rfl : len = 1 := by simpa [am_il] using hil
    exact sd_dup C hd h k
  | dup_x1 =>
    obtain rfl : len = 1 := by simpa [am_il] using hil
    exact sd_dup_x1 C hd h k
  | dup2 =>
    obtain rfl : len = 1 := by simpa [am_il] using hil
    exact sd_dup2 C hd h k
  | pop =>
    obtain rfl : len = 1 := by simpa [am_il] using hil
    exact sd_pop C hd h k
  | iaload =>
    obtain rfl : len = 1 := by simpa [am_il] using hil
    exact sd_iaload C hd h k
  | baload =>
    obtain rfl : len = 1 := by simpa [am_il] using hil
    exact sd_baload C hd h k
  | laload =>
    obtain rfl : len = 1 := by simpa [am_il] using hil
    exact sd_laload C hd h k
  | aaload =>
    obtain rfl : len = 1 := by simpa [am_il] using hil
    exact sd_aaload C hd h k
  | arraylength =>
    obtain rfl : len = 1 := by simpa [am_il] using hil
    exact sd_arraylength C hd h k
  | iastore =>
    obtain rfl : len = 1 := by simpa [am_il] using hil
    exact sd_iastore C hd h k
  | bastore =>
    obtain rfl : len = 1 := by simpa [am_il] using hil
    exact sd_bastore C hd h k
  | lastore =>
    obtain rfl : len = 1 := by simpa [am_il] using hil
    exact sd_lastore C hd h k
  | aastore =>
    obtain rfl : len = 1 := by simpa [am_il] using hil
    exact sd_aastore C hd h k
  | iconst a =>
    obtain rfl : len = 1 := by simpa [am_il] using hil
    exact sd_iconst C hd h k
  | bipush a =>
    obtain rfl : len = 2 := by simpa [am_il] using hil
    exact sd_bipush C hd h k
  | sipush a =>
    obtain rfl : len = 3 := by simpa [am_il] using hil
    exact sd_sipush C hd h k
  | lconst a =>
    obtain rfl : len = 1 := by simpa [am_il] using hil
    exact sd_lconst C hd h k
  | ldc a =>
    obtain rfl : len = 2 := by simpa [am_il] using hil
    exact sd_ldc C hd h k
  | ldc_w a =>
    obtain rfl : len = 3 := by simpa [am_il] using hil
    exact sd_ldc_w C hd h k
  | ldc2_w a =>
    obtain rfl : len = 3 := by simpa [am_il] using hil
    exact sd_ldc2_w C hd h k
  | iload_n a =>
    obtain rfl : len = 1 := by simpa [am_il] using hil
    exact sd_iload_n C hd h k
  | iload a =>
    obtain rfl : len = 2 := by simpa [am_il] using hil
    exact sd_iload C hd h k
  | lload_n a =>
    obtain rfl : len = 1 := by simpa [am_il] using hil
    exact sd_lload_n C hd h k
  | lload a =>
    obtain rfl : len = 2 := by simpa [am_il] using hil
    exact sd_lload C hd h k
  | aload_n a =>
    obtain rfl : len = 1 := by simpa [am_il] using hil
    exact sd_aload_n C hd h k
  | aload a =>
    obtain rfl : len = 2 := by simpa [am_il] using hil
    exact sd_aload C hd h k
  | istore_n a =>
    obtain rfl : len = 1 := by simpa [am_il] using hil
    exact sd_istore_n C hd h k
  | istore a =>
    obtain rfl : len = 2 := by simpa [am_il] using hil
    exact sd_istore C hd h k
  | astore_n a =>
    obtain rfl : len = 1 := by simpa [am_il] using hil
    exact sd_astore_n C hd h k
  | astore a =>
    obtain rfl : len = 2 := by simpa [am_il] using hil
    exact sd_astore C hd h k
  | lstore_n a =>
    obtain rfl : len = 1 := by simpa [am_il] using hil
    exact sd_lstore_n C hd h k
  | lstore a =>
    obtain rfl : len = 2 := by simpa [am_il] using hil
    exact sd_lstore C hd h k
  | goto a =>
    obtain rfl : len = 3 := by simpa [am_il] using hil
    exact sd_goto C hd h k
  | ifnull a =>
    obtain rfl : len = 3 := by simpa [am_il] using hil
    exact sd_ifnull C hd h k
  | ifnonnull a =>
    obtain rfl : len = 3 := by simpa [am_il] using hil
    exact sd_ifnonnull C hd h k
  | getfield a =>
    obtain rfl : len = 3 := by simpa [am_il] using hil
    exact sd_getfield C hd h k
  | putfield a =>
    obtain rfl : len = 3 := by simpa [am_il] using hil
    exact sd_putfield C hd h k
  | getstatic a =>
    obtain rfl : len = 3 := by simpa [am_il] using hil
    exact sd_getstatic C hd h k
  | iinc a b =>
    obtain rfl : len = 3 := by simpa [am_il] using hil
    exact sd_iinc C hd h k
  | ifCond a b =>
    obtain rfl : len = 3 := by simpa [am_il] using hil
    exact sd_if1 C hd h k
  | if_icmp a b =>
    obtain rfl : len = 3 := by simpa [am_il] using hil
    exact sd_if2 C hd h k
  | tableswitch a b d0 f => exact sd_tableswitch C hd h k
  | lookupswitch a b => exact sd_lookupswitch C hd h k
  | newarray a =>
    obtain rfl : len = 2 := by simpa [am_il] using hil
    exact sd_newarray C hd h hE hS0 hE' hS' k
  | anewarray a =>
    obtain rfl : len = 3 := by simpa [am_il] using hil
    exact sd_anewarray C hd h hE hS0 hE' hS' k
  | new a =>
    obtain rfl : len = 3 := by simpa [am_il] using hil
    exact sd_new C hd h hE hS0 hE' hS' k
  | invokevirtual a =>
    obtain rfl : len = 3 := by simpa [am_il] using hil
    exact sd_call C hcl hR1 hR2 (Or.inl ⟨rfl, rfl, hd⟩) h hE hS0 hE' hS' k
  | invokestatic a =>
    obtain rfl : len = 3 := by simpa [am_il] using hil
    exact sd_call C hcl hR1 hR2 (Or.inr (Or.inl ⟨rfl, rfl, hd⟩)) h hE hS0 hE' hS' k
  | invokespecial a =>
    obtain rfl : len = 3 := by simpa [am_il] using hil
    exact sd_call C hcl hR1 hR2 (Or.inr (Or.inr ⟨rfl, rfl, hd⟩)) h hE hS0 hE' hS' k
  | ireturn =>
    exfalso; unfold am_ins am_iret at h; dsimp only at h; repeat' split at h
    all_goals cases h
  | lreturn =>
    exfalso; unfold am_ins am_lret at h; dsimp only at h; repeat' split at h
    all_goals cases h
  | areturn =>
    exfalso; unfold am_ins am_aret at h; dsimp only at h; repeat' split at h
    all_goals cases h
  | return_ =>
    exfalso; unfold am_ins am_vret at h; dsimp only at h; repeat' split at h
    all_goals cases h
  | _ => cases h
theorem am_ins_ret {xs : List Int32} {cl : am_C} {M : am_M} {pc : Nat} {i : Instr} {L : am_L} {st : List Value} {es : am_H} {r : am_R} (h : am_ins xs cl M pc i L st es = some (.inr r)) : (i = .ireturn ∨ i = .lreturn ∨ i = .areturn ∨ i = .return_) := by
  unfold am_ins at h
  split at h
  · exact (am_nx_no h).elim
  · exact (am_nx_no h).elim
  · exact (am_nx_no h).elim
  · exact (am_nx_no h).elim
  · exact (am_nx_no h).elim
  · exfalso; unfold am_conl at h; (try dsimp only at h)
    repeat' split at h
    all_goals first | (cases h; done) | exact am_nx_no h
  · exfalso; unfold am_conl at h; (try dsimp only at h)
    repeat' split at h
    all_goals first | (cases h; done) | exact am_nx_no h
  · exfalso; unfold am_conl at h; (try dsimp only at h)
    repeat' split at h
    all_goals first | (cases h; done) | exact am_nx_no h
  · exfalso; unfold am_load at h; (try dsimp only at h)
    repeat' split at h
    all_goals first | (cases h; done) | exact am_nx_no h
  · exfalso; unfold am_load at h; (try dsimp only at h)
    repeat' split at h
    all_goals first | (cases h; done) | exact am_nx_no h
  · exfalso; unfold am_load at h; (try dsimp only at h)
    repeat' split at h
    all_goals first | (cases h; done) | exact am_nx_no h
  · exfalso; unfold am_load at h; (try dsimp only at h)
    repeat' split at h
    all_goals first | (cases h; done) | exact am_nx_no h
  · exfalso; unfold am_load at h; (try dsimp only at h)
    repeat' split at h
    all_goals first | (cases h; done) | exact am_nx_no h
  · exfalso; unfold am_load at h; (try dsimp only at h)
    repeat' split at h
    all_goals first | (cases h; done) | exact am_nx_no h
  · exfalso; unfold am_store at h; (try dsimp only at h)
    repeat' split at h
    all_goals first | (cases h; done) | exact am_nx_no h
  · exfalso; unfold am_store at h; (try dsimp only at h)
    repeat' split at h
    all_goals first | (cases h; done) | exact am_nx_no h
  · exfalso; unfold am_store at h; (try dsimp only at h)
    repeat' split at h
    all_goals first | (cases h; done) | exact am_nx_no h
  · exfalso; unfold am_store at h; (try dsimp only at h)
    repeat' split at h
    all_goals first | (cases h; done) | exact am_nx_no h
  · exfalso; unfold am_store at h; (try dsimp only at h)
    repeat' split at h
    all_goals first | (cases h; done) | exact am_nx_no h
  · exfalso; unfold am_store at h; (try dsimp only at h)
    repeat' split at h
    all_goals first | (cases h; done) | exact am_nx_no h
  · exfalso; unfold am_iinc at h; (try dsimp only at h)
    repeat' split at h
    all_goals first | (cases h; done) | exact am_nx_no h
  · exfalso; unfold am_ii at h; (try dsimp only at h)
    repeat' split at h
    all_goals first | (cases h; done) | exact am_nx_no h
  · exfalso; unfold am_ii at h; (try dsimp only at h)
    repeat' split at h
    all_goals first | (cases h; done) | exact am_nx_no h
  · exfalso; unfold am_ii at h; (try dsimp only at h)
    repeat' split at h
    all_goals first | (cases h; done) | exact am_nx_no h
  · exfalso; unfold am_ii at h; (try dsimp only at h)
    repeat' split at h
    all_goals first | (cases h; done) | exact am_nx_no h
  · exfalso; unfold am_ii at h; (try dsimp only at h)
    repeat' split at h
    all_goals first | (cases h; done) | exact am_nx_no h
  · exfalso; unfold am_ii at h; (try dsimp only at h)
    repeat' split at h
    all_goals first | (cases h; done) | exact am_nx_no h
  · exfalso; unfold am_ii at h; (try dsimp only at h)
    repeat' split at h
    all_goals first | (cases h; done) | exact am_nx_no h
  · exfalso; unfold am_ii at h; (try dsimp only at h)
    repeat' split at h
    all_goals first | (cases h; done) | exact am_nx_no h
  · exfalso; unfold am_ii at h; (try dsimp only at h)
    repeat' split at h
    all_goals first | (cases h; done) | exact am_nx_no h
  · exfalso; unfold am_ii at h; (try dsimp only at h)
    repeat' split at h
    all_goals first | (cases h; done) | exact am_nx_no h
  · exfalso; unfold am_ii at h; (try dsimp only at h)
    repeat' split at h
    all_goals first | (cases h; done) | exact am_nx_no h
  · exfalso; unfold am_i1 at h; (try dsimp only at h)
    repeat' split at h
    all_goals first | (cases h; done) | exact am_nx_no h
  · exfalso; unfold am_jj at h; (try dsimp only at h)
    repeat' split at h
    all_goals first | (cases h; done) | exact am_nx_no h
  · exfalso; unfold am_jj at h; (try dsimp only at h)
    repeat' split at h
    all_goals first | (cases h; done) | exact am_nx_no h
  · exfalso; unfold am_jj at h; (try dsimp only at h)
    repeat' split at h
    all_goals first | (cases h; done) | exact am_nx_no h
  · exfalso; unfold am_jj at h; (try dsimp only at h)
    repeat' split at h
    all_goals first | (cases h; done) | exact am_nx_no h
  · exfalso; unfold am_jj at h; (try dsimp only at h)
    repeat' split at h
    all_goals first | (cases h; done) | exact am_nx_no h
  · exfalso; unfold am_jj at h; (try dsimp only at h)
    repeat' split at h
    all_goals first | (cases h; done) | exact am_nx_no h
  · exfalso; unfold am_j1 at h; (try dsimp only at h)
    repeat' split at h
    all_goals first | (cases h; done) | exact am_nx_no h
  · exfalso; unfold am_lsh at h; (try dsimp only at h)
    repeat' split at h
    all_goals first | (cases h; done) | exact am_nx_no h
  · exfalso; unfold am_i1 at h; (try dsimp only at h)
    repeat' split at h
    all_goals first | (cases h; done) | exact am_nx_no h
  · exfalso; unfold am_j1 at h; (try dsimp only at h)
    repeat' split at h
    all_goals first | (cases h; done) | exact am_nx_no h
  · exfalso; unfold am_i1 at h; (try dsimp only at h)
    repeat' split at h
    all_goals first | (cases h; done) | exact am_nx_no h
  · exfalso; unfold am_i1 at h; (try dsimp only at h)
    repeat' split at h
    all_goals first | (cases h; done) | exact am_nx_no h
  · exfalso; unfold am_i1 at h; (try dsimp only at h)
    repeat' split at h
    all_goals first | (cases h; done) | exact am_nx_no h
  · exfalso; unfold am_dup at h; (try dsimp only at h)
    repeat' split at h
    all_goals first | (cases h; done) | exact am_nx_no h
  · exfalso; unfold am_dupx at h; (try dsimp only at h)
    repeat' split at h
    all_goals first | (cases h; done) | exact am_nx_no h
  · exfalso; unfold am_dup2 at h; (try dsimp only at h)
    repeat' split at h
    all_goals first | (cases h; done) | exact am_nx_no h
  · exfalso; unfold am_pop at h; (try dsimp only at h)
    repeat' split at h
    all_goals first | (cases h; done) | exact am_nx_no h
  · exfalso; unfold am_go at h; (try dsimp only at h)
    repeat' split at h
    all_goals first | (cases h; done) | exact am_nx_no h
  · exfalso; unfold am_if1 at h; (try dsimp only at h)
    try unfold am_cond at h
    repeat' split at h
    all_goals first | (cases h; done) | exact am_nx_no h
  · exfalso; unfold am_if2 at h; (try dsimp only at h)
    try unfold am_cond at h
    repeat' split at h
    all_goals first | (cases h; done) | exact am_nx_no h
  · exfalso; unfold am_nul at h; (try dsimp only at h)
    try unfold am_go at h
    repeat' split at h
    all_goals first | (cases h; done) | exact am_nx_no h
  · exfalso; unfold am_nul at h; (try dsimp only at h)
    try unfold am_go at h
    repeat' split at h
    all_goals first | (cases h; done) | exact am_nx_no h
  · exfalso; unfold am_tsw at h; (try dsimp only at h)
    try unfold am_go at h
    repeat' split at h
    all_goals first | (cases h; done) | exact am_nx_no h
  · exfalso; unfold am_lsw at h; (try dsimp only at h)
    try unfold am_go at h
    repeat' split at h
    all_goals first | (cases h; done) | exact am_nx_no h
  · exfalso; unfold am_getf at h; (try dsimp only at h)
    repeat' split at h
    all_goals first | (cases h; done) | exact am_nx_no h
  · exfalso; unfold am_putf at h; (try dsimp only at h)
    repeat' split at h
    all_goals first | (cases h; done) | exact am_nx_no h
  · exfalso; unfold am_gets at h; (try dsimp only at h)
    repeat' split at h
    all_goals first | (cases h; done) | exact am_nx_no h
  · exfalso; unfold am_aload at h; (try dsimp only at h)
    repeat' split at h
    all_goals first | (cases h; done) | exact am_nx_no h
  · exfalso; unfold am_aload at h; (try dsimp only at h)
    repeat' split at h
    all_goals first | (cases h; done) | exact am_nx_no h
  · exfalso; unfold am_lald at h; (try dsimp only at h)
    repeat' split at h
    all_goals first | (cases h; done) | exact am_nx_no h
  · exfalso; unfold am_aald at h; (try dsimp only at h)
    repeat' split at h
    all_goals first | (cases h; done) | exact am_nx_no h
  · exfalso; unfold am_alen at h; (try dsimp only at h)
    repeat' split at h
    all_goals first | (cases h; done) | exact am_nx_no h
  · exfalso; unfold am_astore at h; (try dsimp only at h)
    repeat' split at h
    all_goals first | (cases h; done) | exact am_nx_no h
  · exfalso; unfold am_astore at h; (try dsimp only at h)
    repeat' split at h
    all_goals first | (cases h; done) | exact am_nx_no h
  · exfalso; unfold am_last at h; (try dsimp only at h)
    repeat' split at h
    all_goals first | (cases h; done) | exact am_nx_no h
  · exfalso; unfold am_aast at h; (try dsimp only at h)
    repeat' split at h
    all_goals first | (cases h; done) | exact am_nx_no h
  · exfalso; unfold am_newa at h; (try dsimp only at h)
    repeat' split at h
    all_goals first | (cases h; done) | exact am_nx_no h
  · exfalso; unfold am_newq at h; (try dsimp only at h)
    repeat' split at h
    all_goals first | (cases h; done) | exact am_nx_no h
  · exfalso; unfold am_newo at h; (try dsimp only at h)
    repeat' split at h
    all_goals first | (cases h; done) | exact am_nx_no h
  · exfalso; unfold am_call1 at h; (try dsimp only at h)
    try unfold am_inv at h
    try unfold am_acopy at h
    try unfold am_res at h
    repeat' split at h
    all_goals first | (cases h; done) | exact am_nx_no h
  · exfalso; unfold am_call1 at h; (try dsimp only at h)
    try unfold am_inv at h
    try unfold am_acopy at h
    try unfold am_res at h
    repeat' split at h
    all_goals first | (cases h; done) | exact am_nx_no h
  · exfalso; unfold am_call1 at h; (try dsimp only at h)
    try unfold am_inv at h
    try unfold am_acopy at h
    try unfold am_res at h
    repeat' split at h
    all_goals first | (cases h; done) | exact am_nx_no h
  · exact Or.inl rfl
  · exact Or.inr (Or.inl rfl)
  · exact Or.inr (Or.inr (Or.inl rfl))
  · exact Or.inr (Or.inr (Or.inr rfl))
  · cases h
def am_Mo (cl : am_C) : Prop := ∀ y av es v es', cl y av es = some (v, es') → es.length ≤ es'.length ∧ am_sz es ≤ am_sz es'
theorem am_ins_mono {xs : List Int32} {cl : am_C} (hm : am_Mo cl) {M : am_M} {pc : Nat} {i : Instr} {L : am_L} {st : List Value} {es : am_H} {N : Nat × (am_L × (List Value × am_H))} (h : am_ins xs cl M pc i L st es = some (.inl N)) : es.length ≤ N.2.2.2.length ∧ am_sz es ≤ am_sz N.2.2.2 := by
  unfold am_ins at h
  split at h
  · obtain rfl := am_nx_inv h; exact ⟨Nat.le_refl _, Nat.le_refl _⟩
  · obtain rfl := am_nx_inv h; exact ⟨Nat.le_refl _, Nat.le_refl _⟩
  · obtain rfl := am_nx_inv h; exact ⟨Nat.le_refl _, Nat.le_refl _⟩
  · obtain rfl := am_nx_inv h; exact ⟨Nat.le_refl _, Nat.le_refl _⟩
  · obtain rfl := am_nx_inv h; exact ⟨Nat.le_refl _, Nat.le_refl _⟩
  · unfold am_conl at h; (try dsimp only at h)
    repeat' split at h
    all_goals first | (cases h; done) | (obtain rfl := am_nx_inv h; exact ⟨Nat.le_refl _, Nat.le_refl _⟩)
  · unfold am_conl at h; (try dsimp only at h)
    repeat' split at h
    all_goals first | (cases h; done) | (obtain rfl := am_nx_inv h; exact ⟨Nat.le_refl _, Nat.le_refl _⟩)
  · unfold am_conl at h; (try dsimp only at h)
    repeat' split at h
    all_goals first | (cases h; done) | (obtain rfl := am_nx_inv h; exact ⟨Nat.le_refl _, Nat.le_refl _⟩)
  · unfold am_load at h; (try dsimp only at h)
    repeat' split at h
    all_goals first | (cases h; done) | (obtain rfl := am_nx_inv h; exact ⟨Nat.le_refl _, Nat.le_refl _⟩)
  · unfold am_load at h; (try dsimp only at h)
    repeat' split at h
    all_goals first | (cases h; done) | (obtain rfl := am_nx_inv h; exact ⟨Nat.le_refl _, Nat.le_refl _⟩)
  · unfold am_load at h; (try dsimp only at h)
    repeat' split at h
    all_goals first | (cases h; done) | (obtain rfl := am_nx_inv h; exact ⟨Nat.le_refl _, Nat.le_refl _⟩)
  · unfold am_load at h; (try dsimp only at h)
    repeat' split at h
    all_goals first | (cases h; done) | (obtain rfl := am_nx_inv h; exact ⟨Nat.le_refl _, Nat.le_refl _⟩)
  · unfold am_load at h; (try dsimp only at h)
    repeat' split at h
    all_goals first | (cases h; done) | (obtain rfl := am_nx_inv h; exact ⟨Nat.le_refl _, Nat.le_refl _⟩)
  · unfold am_load at h; (try dsimp only at h)
    repeat' split at h
    all_goals first | (cases h; done) | (obtain rfl := am_nx_inv h; exact ⟨Nat.le_refl _, Nat.le_refl _⟩)
  · unfold am_store at h; (try dsimp only at h)
    repeat' split at h
    all_goals first | (cases h; done) | (obtain rfl := am_nx_inv h; exact ⟨Nat.le_refl _, Nat.le_refl _⟩)
  · unfold am_store at h; (try dsimp only at h)
    repeat' split at h
    all_goals first | (cases h; done) | (obtain rfl := am_nx_inv h; exact ⟨Nat.le_refl _, Nat.le_refl _⟩)
  · unfold am_store at h; (try dsimp only at h)
    repeat' split at h
    all_goals first | (cases h; done) | (obtain rfl := am_nx_inv h; exact ⟨Nat.le_refl _, Nat.le_refl _⟩)
  · unfold am_store at h; (try dsimp only at h)
    repeat' split at h
    all_goals first | (cases h; done) | (obtain rfl := am_nx_inv h; exact ⟨Nat.le_refl _, Nat.le_refl _⟩)
  · unfold am_store at h; (try dsimp only at h)
    repeat' split at h
    all_goals first | (cases h; done) | (obtain rfl := am_nx_inv h; exact ⟨Nat.le_refl _, Nat.le_refl _⟩)
  · unfold am_store at h; (try dsimp only at h)
    repeat' split at h
    all_goals first | (cases h; done) | (obtain rfl := am_nx_inv h; exact ⟨Nat.le_refl _, Nat.le_refl _⟩)
  · unfold am_iinc at h; (try dsimp only at h)
    repeat' split at h
    all_goals first | (cases h; done) | (obtain rfl := am_nx_inv h; exact ⟨Nat.le_refl _, Nat.le_refl _⟩)
  · unfold am_ii at h; (try dsimp only at h)
    repeat' split at h
    all_goals first | (cases h; done) | (obtain rfl := am_nx_inv h; exact ⟨Nat.le_refl _, Nat.le_refl _⟩)
  · unfold am_ii at h; (try dsimp only at h)
    repeat' split at h
    all_goals first | (cases h; done) | (obtain rfl := am_nx_inv h; exact ⟨Nat.le_refl _, Nat.le_refl _⟩)
  · unfold am_ii at h; (try dsimp only at h)
    repeat' split at h
    all_goals first | (cases h; done) | (obtain rfl := am_nx_inv h; exact ⟨Nat.le_refl _, Nat.le_refl _⟩)
  · unfold am_ii at h; (try dsimp only at h)
    repeat' split at h
    all_goals first | (cases h; done) | (obtain rfl := am_nx_inv h; exact ⟨Nat.le_refl _, Nat.le_refl _⟩)
  · unfold am_ii at h; (try dsimp only at h)
    repeat' split at h
    all_goals first | (cases h; done) | (obtain rfl := am_nx_inv h; exact ⟨Nat.le_refl _, Nat.le_refl _⟩)
  · unfold am_ii at h; (try dsimp only at h)
    repeat' split at h
    all_goals first | (cases h; done) | (obtain rfl := am_nx_inv h; exact ⟨Nat.le_refl _, Nat.le_refl _⟩)
  · unfold am_ii at h; (try dsimp only at h)
    repeat' split at h
    all_goals first | (cases h; done) | (obtain rfl := am_nx_inv h; exact ⟨Nat.le_refl _, Nat.le_refl _⟩)
  · unfold am_ii at h; (try dsimp only at h)
    repeat' split at h
    all_goals first | (cases h; done) | (obtain rfl := am_nx_inv h; exact ⟨Nat.le_refl _, Nat.le_refl _⟩)
  · unfold am_ii at h; (try dsimp only at h)
    repeat' split at h
    all_goals first | (cases h; done) | (obtain rfl := am_nx_inv h; exact ⟨Nat.le_refl _, Nat.le_refl _⟩)
  · unfold am_ii at h; (try dsimp only at h)
    repeat' split at h
    all_goals first | (cases h; done) | (obtain rfl := am_nx_inv h; exact ⟨Nat.le_refl _, Nat.le_refl _⟩)
  · unfold am_ii at h; (try dsimp only at h)
    repeat' split at h
    all_goals first | (cases h; done) | (obtain rfl := am_nx_inv h; exact ⟨Nat.le_refl _, Nat.le_refl _⟩)
  · unfold am_i1 at h; (try dsimp only at h)
    repeat' split at h
    all_goals first | (cases h; done) | (obtain rfl := am_nx_inv h; exact ⟨Nat.le_refl _, Nat.le_refl _⟩)
  · unfold am_jj at h; (try dsimp only at h)
    repeat' split at h
    all_goals first | (cases h; done) | (obtain rfl := am_nx_inv h; exact ⟨Nat.le_refl _, Nat.le_refl _⟩)
  · unfold am_jj at h; (try dsimp only at h)
    repeat' split at h
    all_goals first | (cases h; done) | (obtain rfl := am_nx_inv h; exact ⟨Nat.le_refl _, Nat.le_refl _⟩)
  · unfold am_jj at h; (try dsimp only at h)
    repeat' split at h
    all_goals first | (cases h; done) | (obtain rfl := am_nx_inv h; exact ⟨Nat.le_refl _, Nat.le_refl _⟩)
  · unfold am_jj at h; (try dsimp only at h)
    repeat' split at h
    all_goals first | (cases h; done) | (obtain rfl := am_nx_inv h; exact ⟨Nat.le_refl _, Nat.le_refl _⟩)
  · unfold am_jj at h; (try dsimp only at h)
    repeat' split at h
    all_goals first | (cases h; done) | (obtain rfl := am_nx_inv h; exact ⟨Nat.le_refl _, Nat.le_refl _⟩)
  · unfold am_jj at h; (try dsimp only at h)
    repeat' split at h
    all_goals first | (cases h; done) | (obtain rfl := am_nx_inv h; exact ⟨Nat.le_refl _, Nat.le_refl _⟩)
  · unfold am_j1 at h; (try dsimp only at h)
    repeat' split at h
    all_goals first | (cases h; done) | (obtain rfl := am_nx_inv h; exact ⟨Nat.le_refl _, Nat.le_refl _⟩)
  · unfold am_lsh at h; (try dsimp only at h)
    repeat' split at h
    all_goals first | (cases h; done) | (obtain rfl := am_nx_inv h; exact ⟨Nat.le_refl _, Nat.le_refl _⟩)
  · unfold am_i1 at h; (try dsimp only at h)
    repeat' split at h
    all_goals first | (cases h; done) | (obtain rfl := am_nx_inv h; exact ⟨Nat.le_refl _, Nat.le_refl _⟩)
  · unfold am_j1 at h; (try dsimp only at h)
    repeat' split at h
    all_goals first | (cases h; done) | (obtain rfl := am_nx_inv h; exact ⟨Nat.le_refl _, Nat.le_refl _⟩)
  · unfold am_i1 at h; (try dsimp only at h)
    repeat' split at h
    all_goals first | (cases h; done) | (obtain rfl := am_nx_inv h; exact ⟨Nat.le_refl _, Nat.le_refl _⟩)
  · unfold am_i1 at h; (try dsimp only at h)
    repeat' split at h
    all_goals first | (cases h; done) | (obtain rfl := am_nx_inv h; exact ⟨Nat.le_refl _, Nat.le_refl _⟩)
  · unfold am_i1 at h; (try dsimp only at h)
    repeat' split at h
    all_goals first | (cases h; done) | (obtain rfl := am_nx_inv h; exact ⟨Nat.le_refl _, Nat.le_refl _⟩)
  · unfold am_dup at h; (try dsimp only at h)
    repeat' split at h
    all_goals first | (cases h; done) | (obtain rfl := am_nx_inv h; exact ⟨Nat.le_refl _, Nat.le_refl _⟩)
  · unfold am_dupx at h; (try dsimp only at h)
    repeat' split at h
    all_goals first | (cases h; done) | (obtain rfl := am_nx_inv h; exact ⟨Nat.le_refl _, Nat.le_refl _⟩)
  · unfold am_dup2 at h; (try dsimp only at h)
    repeat' split at h
    all_goals first | (cases h; done) | (obtain rfl := am_nx_inv h; exact ⟨Nat.le_refl _, Nat.le_refl _⟩)
  · unfold am_pop at h; (try dsimp only at h)
    repeat' split at h
    all_goals first | (cases h; done) | (obtain rfl := am_nx_inv h; exact ⟨Nat.le_refl _, Nat.le_refl _⟩)
  · unfold am_go at h; (try dsimp only at h)
    repeat' split at h
    all_goals first | (cases h; done) | (obtain rfl := am_nx_inv h; exact ⟨Nat.le_refl _, Nat.le_refl _⟩)
  · unfold am_if1 at h; (try dsimp only at h)
    try unfold am_cond at h
    repeat' split at h
    all_goals first | (cases h; done) | (obtain rfl := am_nx_inv h; exact ⟨Nat.le_refl _, Nat.le_refl _⟩)
  · unfold am_if2 at h; (try dsimp only at h)
    try unfold am_cond at h
    repeat' split at h
    all_goals first | (cases h; done) | (obtain rfl := am_nx_inv h; exact ⟨Nat.le_refl _, Nat.le_refl _⟩)
  · unfold am_nul at h; (try dsimp only at h)
    try unfold am_go at h
    repeat' split at h
    all_goals first | (cases h; done) | (obtain rfl := am_nx_inv h; exact ⟨Nat.le_refl _, Nat.le_refl _⟩)
  · unfold am_nul at h; (try dsimp only at h)
    try unfold am_go at h
    repeat' split at h
    all_goals first | (cases h; done) | (obtain rfl := am_nx_inv h; exact ⟨Nat.le_refl _, Nat.le_refl _⟩)
  · unfold am_tsw at h; (try dsimp only at h)
    try unfold am_go at h
    repeat' split at h
    all_goals first | (cases h; done) | (obtain rfl := am_nx_inv h; exact ⟨Nat.le_refl _, Nat.le_refl _⟩)
  · unfold am_lsw at h; (try dsimp only at h)
    try unfold am_go at h
    repeat' split at h
    all_goals first | (cases h; done) | (obtain rfl := am_nx_inv h; exact ⟨Nat.le_refl _, Nat.le_refl _⟩)
  · unfold am_getf at h; (try dsimp only at h)
    repeat' split at h
    all_goals first | (cases h; done) | (obtain rfl := am_nx_inv h; exact ⟨Nat.le_refl _, Nat.le_refl _⟩)
  · exact am_mput_mono h
  · unfold am_gets at h; (try dsimp only at h)
    repeat' split at h
    all_goals first | (cases h; done) | (obtain rfl := am_nx_inv h; exact ⟨Nat.le_refl _, Nat.le_refl _⟩)
  · unfold am_aload at h; (try dsimp only at h)
    repeat' split at h
    all_goals first | (cases h; done) | (obtain rfl := am_nx_inv h; exact ⟨Nat.le_refl _, Nat.le_refl _⟩)
  · unfold am_aload at h; (try dsimp only at h)
    repeat' split at h
    all_goals first | (cases h; done) | (obtain rfl := am_nx_inv h; exact ⟨Nat.le_refl _, Nat.le_refl _⟩)
  · unfold am_lald at h; (try dsimp only at h)
    repeat' split at h
    all_goals first | (cases h; done) | (obtain rfl := am_nx_inv h; exact ⟨Nat.le_refl _, Nat.le_refl _⟩)
  · unfold am_aald at h; (try dsimp only at h)
    repeat' split at h
    all_goals first | (cases h; done) | (obtain rfl := am_nx_inv h; exact ⟨Nat.le_refl _, Nat.le_refl _⟩)
  · unfold am_alen at h; (try dsimp only at h)
    repeat' split at h
    all_goals first | (cases h; done) | (obtain rfl := am_nx_inv h; exact ⟨Nat.le_refl _, Nat.le_refl _⟩)
  · exact am_mast_mono h
  · exact am_mast_mono h
  · exact am_mlast_mono h
  · exact am_maast_mono h
  · unfold am_newa at h; (try dsimp only at h)
    repeat' split at h
    all_goals first | (cases h; done) | (obtain rfl := am_nx_inv h; dsimp only; rw [List.length_append, am_sz_push]; exact ⟨Nat.le_add_right _ _, Nat.le_add_right _ _⟩)
  · unfold am_newq at h; (try dsimp only at h)
    repeat' split at h
    all_goals first | (cases h; done) | (obtain rfl := am_nx_inv h; dsimp only; rw [List.length_append, am_sz_push]; exact ⟨Nat.le_add_right _ _, Nat.le_add_right _ _⟩)
  · unfold am_newo at h; (try dsimp only at h)
    repeat' split at h
    all_goals first | (cases h; done) | (obtain rfl := am_nx_inv h; dsimp only; rw [List.length_append, am_sz_push]; exact ⟨Nat.le_add_right _ _, Nat.le_add_right _ _⟩)
  · exact am_mcall_mono hm h
  · exact am_mcall_mono hm h
  · exact am_mcall_mono hm h
  · unfold am_iret at h; repeat' split at h
    all_goals cases h
  · unfold am_lret at h; repeat' split at h
    all_goals cases h
  · unfold am_aret at h; repeat' split at h
    all_goals cases h
  · unfold am_vret at h; repeat' split at h
    all_goals cases h
  · cases h
theorem am_run_mono {xs : List Int32} {cl : am_C} (hm : am_Mo cl) {M : am_M} : ∀ (n pc : Nat) (L : am_L) (st : List Value) (es : am_H) (v : Option Value) (es1 : am_H), am_run xs cl M n pc L st es = some (v, es1) → es.length ≤ es1.length ∧ am_sz es ≤ am_sz es1 := by
  intro n
  induction n with
  | zero => intro pc L st es v es1 h; cases h
  | succ n ih =>
    intro pc L st es v es1 h
    unfold am_run at h
    split at h
    · rename_i i len hi
      split at h
      · rename_i pc' L' st' es' hN
        have h1 := am_ins_mono hm hN
        have h2 := ih _ _ _ _ _ _ h
        exact ⟨Nat.le_trans h1.1 h2.1, Nat.le_trans h1.2 h2.2⟩
      · rename_i r hN
        cases h
        rcases am_ins_ret hN with rfl | rfl | rfl | rfl
        · unfold am_ins am_iret at hN; dsimp only at hN; repeat' split at hN
          all_goals first | (cases hN; exact ⟨Nat.le_refl _, Nat.le_refl _⟩) | cases hN
        · unfold am_ins am_lret at hN; dsimp only at hN; repeat' split at hN
          all_goals first | (cases hN; exact ⟨Nat.le_refl _, Nat.le_refl _⟩) | cases hN
        · unfold am_ins am_aret at hN; dsimp only at hN; repeat' split at hN
          all_goals first | (cases hN; exact ⟨Nat.le_refl _, Nat.le_refl _⟩) | cases hN
        · unfold am_ins am_vret at hN; dsimp only at hN; repeat' split at hN
          all_goals first | (cases hN; exact ⟨Nat.le_refl _, Nat.le_refl _⟩) | cases hN
      · cases h
    · cases h
theorem am_call_mono (xs : List Int32) : ∀ (d n : Nat), am_Mo (am_call xs d n) := by
  intro d
  induction d with
  | zero => intro n y av es v es' h; cases h
  | succ d ih =>
    intro n y av es v es' h
    unfold am_call at h
    split at h
    · split at h
      · exact am_run_mono (ih n) _ _ _ _ _ _ _ h
      · cases h
    · cases h
/-- a run of the abstract machine is a run of the machine, up to an end that is given -/
theorem am_run_sound {d : Nat} (C : am_Cx p R s m args meth c Γ xs M cc E0) {cl : am_C} (hcl : am_Ok l Γ xs d cl) (hR1 : d + 1 ≤ R.frames) (hR2 : 40 * (d + 1) ≤ R.locals) (hcode : ∀ q ∈ M.2.2.2.2, decode cc q.1 = .ok q.2 ∧ am_il q.2.1 q.2.2 = true)
    {v : Option Value} {es1 : am_H} (hE1 : es1.length - E0 ≤ R.cells) (hS1 : am_sz es1 - S0 ≤ R.slots)
    (hend : ∀ (pc : Nat) (i : Instr) (len : Nat) (L : am_L) (st : List Value) (es : am_H), decode cc pc = .ok (i, len) → am_il i len = true → am_ins xs cl M pc i L st es = some (.inr (v, es1)) → am_Wp p l e R s m args below meth c Q Γ M.2.2.1 E0 S0 pc L st es) :
    ∀ (n pc : Nat) (L : am_L) (st : List Value) (es : am_H), am_run xs cl M n pc L st es = some (v, es1) → E0 ≤ es.length → S0 ≤ am_sz es → am_Wp p l e R s m args below meth c Q Γ M.2.2.1 E0 S0 pc L st es := by
  have hm : am_Mo cl := fun y av es v es' h => ⟨(hcl y av es v es' h).1, (hcl y av es v es' h).2.1⟩
  intro n
  induction n with
  | zero => intro pc L st es h; cases h
  | succ n ih =>
    intro pc L st es h hE hS
    unfold am_run at h
    split at h
    · rename_i i len hi
      obtain ⟨hd, hil⟩ := hcode _ (am_lk hi)
      split at h
      · rename_i pc' L' st' es' hN
        have h1 := am_ins_mono hm hN
        have h2 := am_run_mono hm _ _ _ _ _ _ _ h
        dsimp only at h1
        exact am_ins_sound C hcl hR1 hR2 hd hil hN hE hS (by dsimp only; omega) (by dsimp only; omega) (ih pc' L' st' es' h (Nat.le_trans hE h1.1) (Nat.le_trans hS h1.2))
      · rename_i r hN
        cases h
        exact hend _ _ _ _ _ _ hd hil hN
      · cases h
    · cases h
/-- the ends of a method -/
theorem am_end {cl : am_C} (C : am_Cx p R s m args meth c Γ xs M cc E0) (hr : meth.sig.returnType = M.2.1) (hlocks : meth.locks = false) {v : Option Value} {es1 : am_H} {mc ms : Nat} (hmc : mc = es1.length - E0) (hms : ms = am_sz es1 - S0) (pc : Nat) (i : Instr) (len : Nat) (L : am_L) (st : List Value) (es : am_H) (hd : decode cc pc = .ok (i, len)) (hil : am_il i len = true) (h : am_ins xs cl M pc i L st es = some (.inr (v, es1))) : am_Wp p l e R s m args below meth c (MQ below (am_Post Γ v es1) args s mc ms (fun q : Nat => am_base Γ ≤ q)) Γ M.2.2.1 E0 S0 pc L st es := by
  obtain ⟨hx, hb, hml, hown, hts, hKK, hb1, hb2, ho, hini, hfr, hlo⟩ := id C
  subst hmc; subst hms
  have hq : ∀ {H : Heap} {locs : List Loc}, am_Wd Γ es1 s H → va_S (fun q : Nat => am_base Γ ≤ q) s.heap H locs → ∀ t : State, t.heap = H → s.WarmedH t.vm → am_Post Γ v es1 args s (.returned (v.map (am_cV Γ))) t := fun a b t ht hW => ⟨rfl, by rw [ht]; exact a.warm hW, b.F ht⟩
  rcases am_ins_ret h with rfl | rfl | rfl | rfl
  · obtain rfl : len = 1 := by simpa [am_il] using hil
    unfold am_ins am_iret at h
    dsimp only at h
    split at h
    · rename_i ty x hty
      split at h
      · rename_i hn
        cases h
        intro hL H locs ls a b dl
        exact W.zret hx hb (hr.trans hty) hn (hq a b) b.2.2 hd hlocks
      · cases h
    · cases h
  · obtain rfl : len = 1 := by simpa [am_il] using hil
    unfold am_ins am_lret at h
    dsimp only at h
    split at h
    · rename_i x hty
      cases h
      intro hL H locs ls a b dl
      exact W.lret hx hb (hr.trans hty) (hq a b) b.2.2 hd hlocks
    · cases h
  · obtain rfl : len = 1 := by simpa [am_il] using hil
    unfold am_ins am_aret at h
    dsimp only at h
    split at h
    · rename_i o x hty
      split at h
      · rename_i hA
        cases h
        intro hL H locs ls a b dl
        exact W.aret hx hb (hr.trans hty) (Or.inl ⟨_, rfl⟩) ((am_isA_cV (Γ := Γ) hA).symm) (hq a b) b.2.2 hd hlocks
      · cases h
    · rename_i o x hty
      split at h
      · rename_i hA
        cases h
        intro hL H locs ls a b dl
        exact W.aret hx hb (hr.trans hty) (Or.inr ⟨_, rfl⟩) ((am_isA_cV (Γ := Γ) hA).symm) (hq a b) b.2.2 hd hlocks
      · cases h
    · cases h
  · obtain rfl : len = 1 := by simpa [am_il] using hil
    unfold am_ins am_vret at h
    dsimp only at h
    split at h
    · rename_i hty
      cases h
      intro hL H locs ls a b dl
      exact W.vret hx hb (hr.trans hty) (hq a b) b.2.2 hd hlocks
    · cases h
theorem am_ofW {y : MethodName} {ws ws' : List Cond} {rm : Room} {Pc : Array Value → State → Prop} {Qc : Array Value → State → Outcome → State → Prop} {mc ms : Nat} {free : Addr → Prop} {maxL : Nat} {ret : Option FieldType}
    (hy : plainFor y = true) (hw : ws = Cond.code y cc maxL ret :: ws')
    (body : ∀ p e s m args below meth c s₁, BodyLoose p l y (headSpec ws rm) cc maxL ret e s m args below meth c s₁ → c.maxLocals = maxL → Pc args s →
      W p l e (headSpec ws rm).room s m args below meth c s.heap [] 0 0 (MQ below Qc args s mc ms free) (entryFrame m args maxL)) : Met l y ws rm Pc Qc mc ms free := by
  refine MetFree.of_bodySF (code := cc) (maxLocals := maxL) (ret := ret) hy ?_ ?_
  · intro args s m h hn
    obtain ⟨meth, c, h1, h2, h3, h4, h5, h6, -, -⟩ := Cond.code_spec hn (atoms_spec (ws := ws) h _ (by rw [hw]; exact List.mem_cons_self))
    exact ⟨meth, c, h1, h2, h3, h4, h5, h6⟩
  · intro p e s m args below meth c s₁ B hml hP _
    have hh0 : s₁.heap = s.heap := by rw [B.state]; rfl
    obtain ⟨t, a1, o, b1, b2, b3⟩ := body p e s m args below meth c s₁ B hml hP s₁ hh0 (Stand.of_body B)
    exact ⟨t, o, a1, b1, b2, ⟨b3.1, b3.2⟩⟩
theorem am_arg_sl (Γ : am_G) (av : List Value) : (lg_sl (av.map (am_cV Γ))).length = (am_arg av).length := by
  induction av with
  | nil => rfl
  | cons v av ih =>
    simp only [lg_sl, am_arg, List.map_cons, List.flatMap_cons, List.length_append] at ih ⊢
    rw [ih, am_cV_cat]
    split <;> rfl
theorem am_ini_mem {av : List Value} {n i : Nat} {v : Value} (h : (am_ini n av)[i]? = some (some v)) : (am_arg av)[i]? = some (some v) := by
  unfold am_ini at h
  by_cases hl : i < (am_arg av).length
  · rwa [List.getElem?_append_left hl] at h
  · rw [List.getElem?_append_right (by omega), List.getElem?_replicate] at h
    split at h <;> cases h
theorem am_arg_at (Γ : am_G) : ∀ (av : List Value) (k i : Nat) (v : Value), (am_arg av)[i]? = some (some v) → (k + i, am_cV Γ v) ∈ lv_args k (av.map (am_cV Γ)) := by
  intro av
  induction av with
  | nil => intro k i v h; simp [am_arg] at h
  | cons w av ih =>
    intro k i v h
    unfold am_arg at h
    rw [List.flatMap_cons] at h
    show (k + i, am_cV Γ v) ∈ (k, am_cV Γ w) :: lv_args (if (am_cV Γ w).category = 2 then k + 2 else k + 1) (av.map (am_cV Γ))
    rw [am_cV_cat]
    split at h
    · rename_i hc
      rw [if_pos hc]
      match i with
      | 0 => cases h; exact List.mem_cons_self
      | 1 => cases h
      | i + 2 =>
        have := ih (k + 2) i v h
        rw [show k + (i + 2) = k + 2 + i by omega]
        exact List.mem_cons_of_mem _ this
    · rename_i hc
      rw [if_neg hc]
      match i with
      | 0 => cases h; exact List.mem_cons_self
      | i + 1 =>
        have := ih (k + 1) i v h
        rw [show k + (i + 1) = k + 1 + i by omega]
        exact List.mem_cons_of_mem _ this
/-- every call of the abstract machine is a contract -/
theorem am_sound (l : Launch) (Γ : am_G) (xs : List Int32) (n : Nat) : ∀ d, am_Ok l Γ xs d (am_call xs d n) := by
  intro d
  induction d with
  | zero => intro y av es v es' h; cases h
  | succ d ih =>
    intro y av es v es' h
    have hmo := am_call_mono xs (d + 1) n y av es v es' h
    refine ⟨hmo.1, hmo.2, ?_⟩
    unfold am_call at h
    split at h
    case h_2 => cases h
    rename_i t ht
    split at h
    case isFalse => cases h
    rename_i hlen
    refine ⟨t, ht, ?_⟩
    have htm : t ∈ am_ms := List.mem_of_getElem? ht
    obtain ⟨hdec, hcod, hcls, hpl, hinit, hnm, hmx, ho⟩ := am_msO t htm
    refine am_ofW (cc := t.2.1) (maxL := t.2.2.2.2.1) (ret := t.2.2.2.1) hpl rfl ?_
    intro p e s m args below meth c s₁ B hml hv
    obtain ⟨rfl, hWd, hKK, hsz⟩ := hv
    have hts0 := atoms_spec (ws := am_Ws t) B.pre
    have hts : ∀ w ∈ am_B, w.before (av.map (am_cV Γ)).toArray s = true := fun w hw => hts0 w (List.mem_cons_of_mem _ hw)
    have hown : s.vm.findClass (am_cn t.2.2.1) = some m.cls := by rw [← hcls]; exact findClass_of_methodNamed B.named
    have hin : t.2.2.2.2.2.1 = true → meth.name = "<init>" := fun q => by
      rw [(name_of_methodNamed B.named B.method).1]; exact hnm q
    have C : am_Cx p (headSpec (am_Ws t) (am_Rm (d + 1) es es')).room s m (av.map (am_cV Γ)).toArray meth c Γ xs t.2.2 t.2.1 es.length :=
      ⟨B.exec, B.bytes, hml, hown, hts, hKK, hsz, hWd.1, ho, hin, by show 1 ≤ d + 1; omega, by show 40 ≤ 40 * (d + 1); omega⟩
    have hl := lv_entry (av.map (am_cV Γ)) (n := t.2.2.2.2.1) (by rw [am_arg_sl]; exact hlen)
    rw [lg_entry_eq]
    generalize (lg_sl (av.map (am_cV Γ)) ++ List.replicate (t.2.2.2.2.1 - (lg_sl (av.map (am_cV Γ))).length) Slot.unset).toArray = ls at hl ⊢
    have hini : (am_ini t.2.2.2.2.1 av).length = t.2.2.2.2.1 := by
      unfold am_ini; rw [List.length_append, List.length_replicate]; omega
    have hAL : am_AL Γ (am_ini t.2.2.2.2.1 av) ls := ⟨by rw [hini]; exact hl.1, hl.2.1, fun i v hi => by
      have := hl.2.2 _ (am_arg_at Γ av 0 i v (am_ini_mem hi))
      rwa [Nat.zero_add] at this⟩
    have K := am_run_sound (Q := MQ below (am_Post Γ v es') (av.map (am_cV Γ)).toArray s (es'.length - es.length) (am_sz es' - am_sz es) (fun q : Nat => am_base Γ ≤ q)) (below := below) (l := l) (e := e) (E0 := es.length) (S0 := am_sz es) C ih (by show d + 1 ≤ d + 1; omega) (by show 40 * (d + 1) ≤ 40 * (d + 1); omega) hdec (v := v) (es1 := es') (Nat.le_refl _) (Nat.le_refl _)
      (fun pc i len L st es2 h1 h2 h3 => am_end C B.returns B.notSynchronized rfl rfl pc i len L st es2 h1 h2 h3) n 0 _ _ _ h (Nat.le_refl _) (Nat.le_refl _) hini s.heap [] ls hWd va_S.rf hAL
    rw [Nat.sub_self, Nat.sub_self] at K
    exact K
end SN
