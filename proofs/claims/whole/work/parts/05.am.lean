abbrev am_A : Type := List Int32 ⊕ (List Int64 ⊕ List (Option Nat))
abbrev am_E : Type := (FieldType × am_A) ⊕ (Nat × List Value)
abbrev am_L : Type := List (Option Value)
abbrev am_H : Type := List am_E
abbrev am_R : Type := Option Value × am_H
abbrev am_N : Type := (Nat × (am_L × (List Value × am_H))) ⊕ am_R
def am_nx (pc : Nat) (L : am_L) (st : List Value) (es : am_H) : Option am_N := some (.inl (pc, L, st, es))
def am_bs : List (List Int32) := [[116, 117, 114, 110, 32], [98, 97, 99, 107, 32], [107, 110, 111, 119, 32], [112, 107, 118, 109, 115, 104], [60, 61, 62]]
def am_tA : List Int32 := [-1, 0, 0, 0, 1, 2, 3]
def am_tB : List Int32 := [10, 11, 12, 0, 20, 0, 30, 0, 0, 0, 0, 40, 50, 51, 0, 0, 0, 60, 71, 70, 0]
/-- arrays that nobody writes, by their numbers behind a million -/
def am_ro (xs : List Int32) (j : Nat) : Option (FieldType × List Int32) :=
  if j = 200 then some (.int, am_tA) else if j = 201 then some (.int, am_tB) else if j = 202 then some (.int, xs)
  else if 100 ≤ j then (match am_bs[j - 100]? with | some l => some (.byte, l) | none => none) else none
def am_arr (xs : List Int32) (es : am_H) (a : Nat) : Option (FieldType × am_A) :=
  if a < 1000000 then (match es[a]? with | some (.inl q) => some q | _ => none)
  else (match am_ro xs (a - 1000000) with | some (ty, l) => some (ty, .inl l) | none => none)
def am_get {α : Type} (l : List α) (i : Int32) : Option α := if i < 0 then none else l[i.toNatClampNeg]?
def am_len (a : am_A) : Nat := match a with
  | .inl l => l.length
  | .inr (.inl l) => l.length
  | .inr (.inr l) => l.length
def am_ld (L : am_L) (i : Nat) : Option Value := match L[i]? with
  | some (some v) => some v
  | _ => none
/-- a long just ahead of place i goes -/
def am_cl1 (L : am_L) (i : Nat) : am_L := match i with
  | 0 => L
  | j + 1 => match L[j]? with
    | some (some v) => if v.category = 2 then L.set j none else L
    | _ => L
def am_st (L : am_L) (i : Nat) (v : Value) : am_L := if v.category = 2 then ((am_cl1 L i).set i (some v)).set (i + 1) none else (am_cl1 L i).set i (some v)
def am_cmp (c : ClassFile.Cond) (x y : Int32) : Bool := match c with
  | .eq => decide (x = y)
  | .ne => decide (¬ x = y)
  | .lt => decide (x < y)
  | .ge => decide (y ≤ x)
  | .gt => decide (y < x)
  | .le => decide (x ≤ y)
def am_jmp (pc : Nat) (off : Int) : Option Nat := if 0 ≤ (pc : Int) + off then some ((pc : Int) + off).toNat else none
def am_go (pc : Nat) (off : Int) (L : am_L) (st : List Value) (es : am_H) : Option am_N := match am_jmp pc off with
  | some t => am_nx t L st es
  | none => none
def am_cond (c : ClassFile.Cond) (x y : Int32) (pc : Nat) (off : Int) (L : am_L) (st : List Value) (es : am_H) : Option am_N :=
  match am_jmp pc off with
  | some t => if am_cmp c x y = true then am_nx t L st es else am_nx (pc + 3) L st es
  | none => none
def am_rf (r : Option Nat) : Value := match r with
  | some a => .ref a
  | none => .null
def am_isI (v : Value) : Bool := match v with | .int _ => true | _ => false
def am_isJ (v : Value) : Bool := match v with | .long _ => true | _ => false
def am_isA (v : Value) : Bool := match v with | .ref _ => true | .null => true | _ => false
def am_store (st : List Value) (L : am_L) (i np : Nat) (es : am_H) (w : Nat) (ok : Value → Bool) : Option am_N := match st with
  | v :: r => if ok v = true ∧ i + w ≤ L.length then am_nx np (am_st L i v) r es else none
  | [] => none
def am_load (st : List Value) (L : am_L) (i np : Nat) (es : am_H) (ok : Value → Bool) : Option am_N := match am_ld L i with
  | some v => if ok v = true then am_nx np L (v :: st) es else none
  | none => none
def am_ii (st : List Value) (f : Int32 → Int32 → Option Value) (np : Nat) (L : am_L) (es : am_H) : Option am_N := match st with
  | .int y :: .int x :: r => (match f x y with | some v => am_nx np L (v :: r) es | none => none)
  | _ => none
def am_jj (st : List Value) (f : Int64 → Int64 → Option Value) (np : Nat) (L : am_L) (es : am_H) : Option am_N := match st with
  | .long y :: .long x :: r => (match f x y with | some v => am_nx np L (v :: r) es | none => none)
  | _ => none
def am_i1 (st : List Value) (f : Int32 → Value) (np : Nat) (L : am_L) (es : am_H) : Option am_N := match st with
  | .int x :: r => am_nx np L (f x :: r) es
  | _ => none
def am_j1 (st : List Value) (f : Int64 → Value) (np : Nat) (L : am_L) (es : am_H) : Option am_N := match st with
  | .long x :: r => am_nx np L (f x :: r) es
  | _ => none
def am_astore (st : List Value) (np : Nat) (L : am_L) (es : am_H) (tys : List FieldType) (nar : FieldType → Int32 → Int32) : Option am_N := match st with
  | .int x :: .int i :: .ref a :: r => (match es[a]? with
    | some (.inl (ty, .inl l)) => if a < 1000000 ∧ ¬ i < 0 ∧ i.toNatClampNeg < l.length ∧ ty ∈ tys then am_nx np L r (es.set a (.inl (ty, .inl (l.set i.toNatClampNeg (nar ty x))))) else none
    | _ => none)
  | _ => none
def am_aload (xs : List Int32) (st : List Value) (np : Nat) (L : am_L) (es : am_H) (tys : List FieldType) : Option am_N := match st with
  | .int i :: .ref a :: r => (match am_arr xs es a with
    | some (ty, .inl l) => if ty ∈ tys then (match am_get l i with | some x => am_nx np L (.int x :: r) es | none => none) else none
    | _ => none)
  | _ => none
def am_getf (o idx : Nat) (st : List Value) (np : Nat) (L : am_L) (es : am_H) : Option am_N := match st with
  | .ref a :: r =>
    if a < 1000000 then (match (am_fld o).lookup idx, es[a]? with
      | some (ci, k), some (.inr (cj, fs)) => if ci = cj then (match fs[k]? with | some v => am_nx np L (v :: r) es | none => none) else none
      | _, _ => none)
    else if a < 1000005 then (match (am_sfl o).lookup idx with
      | some 0 => am_nx np L (.ref (a + 100) :: r) es
      | some 1 => am_nx np L (.int 0 :: r) es
      | _ => none)
    else none
  | _ => none
def am_putf (o idx : Nat) (ini : Bool) (st : List Value) (np : Nat) (L : am_L) (es : am_H) : Option am_N := match st with
  | v :: .ref a :: r => (match (am_fld o).lookup idx, es[a]? with
      | some (ci, k), some (.inr (cj, fs)) => if ci = cj ∧ a < 1000000 ∧ k < fs.length ∧ narrow (am_y ci k) v = v ∧ fits (am_y ci k) v = true ∧ ((am_T ci k).2.2.2 = true → ini = true ∧ am_cn ci = am_cn o) then am_nx np L r (es.set a (.inr (ci, fs.set k v))) else none
      | _, _ => none)
  | _ => none
def am_gets (o idx : Nat) (st : List Value) (np : Nat) (L : am_L) (es : am_H) : Option am_N := match (am_sta o).lookup idx with
  | some 0 => am_nx np L (.int 1 :: st) es
  | some 1 => am_nx np L (.ref 1000200 :: st) es
  | some 2 => am_nx np L (.ref 1000201 :: st) es
  | some 3 => am_nx np L (.ref 1000300 :: st) es
  | _ => none
def am_conl (o idx : Nat) (st : List Value) (np : Nat) (L : am_L) (es : am_H) (ok : Value → Bool) : Option am_N := match (am_con o).lookup idx with
  | some v => if ok v = true then am_nx np L (v :: st) es else none
  | none => none
def am_cat (st : List Value) : Nat := (st.map fun v => v.category).sum
abbrev am_C : Type := Nat → List Value → am_H → Option am_R
def am_ow (y : Nat) : Nat := match am_ms[y]? with
  | some t => t.2.2.1
  | none => 99
def am_res (r : Option am_R) (np : Nat) (L : am_L) (rest : List Value) : Option am_N := match r with
  | some (v, es) => am_nx np L (v.toList ++ rest) es
  | none => none
def am_recv (y b : Nat) (es : am_H) : Bool := if b < 1000000 then (match es[b]? with | some (.inr (ci, _)) => decide (ci = am_ow y) | _ => false) else decide (b < 1000005 ∧ am_ow y = 10)
def am_inv (cl : am_C) (k y n : Nat) (st : List Value) (np : Nat) (L : am_L) (es : am_H) : Option am_N :=
  if k = 1 ∨ k = 4 then
    (if n ≤ st.length ∧ am_cat (st.drop n) ≤ 8 then am_res (cl y (st.take n).reverse es) np L (st.drop n) else none)
  else (match st.drop n with
    | .ref b :: rest => if am_cat rest ≤ 8 ∧ (((k = 2 ∨ k = 5) ∧ b < 1000000) ∨ (k = 0 ∧ am_recv y b es = true)) then am_res (cl y (.ref b :: (st.take n).reverse) es) np L rest else none
    | _ => none)
def am_copy {α : Type} (f g : List α) (sp dp n : Nat) : List α := g.mapIdx (fun k x => if dp ≤ k ∧ k < dp + n then (f[sp + (k - dp)]?).getD x else x)
def am_acopy (st : List Value) (np : Nat) (L : am_L) (es : am_H) : Option am_N := match st with
  | .int n :: .int dp :: .ref a :: .int sp :: .ref b :: r =>
    if n < 0 ∨ dp < 0 ∨ sp < 0 ∨ ¬ am_cat r ≤ 8 ∨ ¬ a < 1000000 ∨ ¬ b < 1000000 then none else
    (match es[b]?, es[a]? with
      | some (.inl (.int, .inl f)), some (.inl (.int, .inl g)) => if sp.toNatClampNeg + n.toNatClampNeg ≤ f.length ∧ dp.toNatClampNeg + n.toNatClampNeg ≤ g.length then am_nx np L r (es.set a (.inl (.int, .inl (am_copy f g sp.toNatClampNeg dp.toNatClampNeg n.toNatClampNeg)))) else none
      | some (.inl (.long, .inr (.inl f))), some (.inl (.long, .inr (.inl g))) => if sp.toNatClampNeg + n.toNatClampNeg ≤ f.length ∧ dp.toNatClampNeg + n.toNatClampNeg ≤ g.length then am_nx np L r (es.set a (.inl (.long, .inr (.inl (am_copy f g sp.toNatClampNeg dp.toNatClampNeg n.toNatClampNeg))))) else none
      | _, _ => none)
  | _ => none
def am_call1 (cl : am_C) (o idx : Nat) (sp : Bool) (ks : List Nat) (st : List Value) (np : Nat) (L : am_L) (es : am_H) : Option am_N := match (am_mt o).lookup idx with
  | some (k, y, n) => if k ∈ ks then am_inv cl k y n st np L es
    else if k = 6 ∧ sp = true then (match st with
      | .ref a :: r => if am_cat r ≤ 8 ∧ a < 1000000 then am_nx np L r es else none
      | _ => none)
    else if k = 7 ∧ ks = [1, 4] then am_acopy st np L es else none
  | none => none
def am_newo (o idx : Nat) (st : List Value) (np : Nat) (L : am_L) (es : am_H) : Option am_N := match (am_new o).lookup idx with
  | some ci => if es.length < 1000 then am_nx np L (.ref es.length :: st) (es ++ [.inr (ci, am_df ci)]) else none
  | none => none
def am_newa (at_ : ArrayType) (st : List Value) (np : Nat) (L : am_L) (es : am_H) : Option am_N := match st with
  | .int n :: r => if n < 0 ∨ 1000 < n.toNatClampNeg ∨ ¬ es.length < 1000 then none else (match at_ with
    | .int => am_nx np L (.ref es.length :: r) (es ++ [.inl (.int, .inl (List.replicate n.toNatClampNeg 0))])
    | .byte => am_nx np L (.ref es.length :: r) (es ++ [.inl (.byte, .inl (List.replicate n.toNatClampNeg 0))])
    | .boolean => am_nx np L (.ref es.length :: r) (es ++ [.inl (.boolean, .inl (List.replicate n.toNatClampNeg 0))])
    | .long => am_nx np L (.ref es.length :: r) (es ++ [.inl (.long, .inr (.inl (List.replicate n.toNatClampNeg 0)))])
    | _ => none)
  | _ => none
def am_newq (o idx : Nat) (st : List Value) (np : Nat) (L : am_L) (es : am_H) : Option am_N := match st with
  | .int n :: r => if n < 0 ∨ 1000 < n.toNatClampNeg ∨ ¬ es.length < 1000 then none else (match (am_new o).lookup idx with
    | some ci => if ci ∈ [1, 3, 5] then am_nx np L (.ref es.length :: r) (es ++ [.inl (.object (am_cn ci), .inr (.inr (List.replicate n.toNatClampNeg none)))]) else none
    | none => none)
  | _ => none
def am_aast (st : List Value) (np : Nat) (L : am_L) (es : am_H) : Option am_N := match st with
  | .ref v :: .int i :: .ref a :: r => (match es[a]?, es[v]? with
    | some (.inl (.object C, .inr (.inr l))), some (.inr (ci, _)) => if a < 1000000 ∧ v < 1000000 ∧ ci < 10 ∧ C = am_cn ci ∧ ¬ i < 0 ∧ i.toNatClampNeg < l.length then am_nx np L r (es.set a (.inl (.object C, .inr (.inr (l.set i.toNatClampNeg (some v)))))) else none
    | _, _ => none)
  | _ => none
def am_last (st : List Value) (np : Nat) (L : am_L) (es : am_H) : Option am_N := match st with
  | .long x :: .int i :: .ref a :: r => (match es[a]? with
    | some (.inl (.long, .inr (.inl l))) => if a < 1000000 ∧ ¬ i < 0 ∧ i.toNatClampNeg < l.length then am_nx np L r (es.set a (.inl (.long, .inr (.inl (l.set i.toNatClampNeg x))))) else none
    | _ => none)
  | _ => none
def am_lald (xs : List Int32) (st : List Value) (np : Nat) (L : am_L) (es : am_H) : Option am_N := match st with
  | .int i :: .ref a :: r => (match am_arr xs es a with
    | some (.long, .inr (.inl l)) => (match am_get l i with | some x => am_nx np L (.long x :: r) es | none => none)
    | _ => none)
  | _ => none
def am_aald (xs : List Int32) (st : List Value) (np : Nat) (L : am_L) (es : am_H) : Option am_N := match st with
  | .int i :: .ref a :: r => (match am_arr xs es a with
    | some (.object _, .inr (.inr l)) => (match am_get l i with | some x => if x.all (fun q => decide (q < 1000000)) = true then am_nx np L (am_rf x :: r) es else none | none => none)
    | _ => none)
  | _ => none
def am_alen (xs : List Int32) (st : List Value) (np : Nat) (L : am_L) (es : am_H) : Option am_N := match st with
  | .ref a :: r => (match am_arr xs es a with
    | some (_, x) => am_nx np L (.int (Int32.ofNat (am_len x)) :: r) es
    | none => none)
  | _ => none
def am_iret (ret : Option FieldType) (st : List Value) (es : am_H) : Option am_N := match ret, st with
  | some ty, [.int v] => if narrow ty (.int v) = .int v then some (.inr (some (.int v), es)) else none
  | _, _ => none
def am_lret (ret : Option FieldType) (st : List Value) (es : am_H) : Option am_N := match ret, st with
  | some .long, [.long v] => some (.inr (some (.long v), es))
  | _, _ => none
def am_aret (ret : Option FieldType) (st : List Value) (es : am_H) : Option am_N := match ret, st with
  | some (.object _), [v] => if am_isA v = true then some (.inr (some v, es)) else none
  | some (.array _), [v] => if am_isA v = true then some (.inr (some v, es)) else none
  | _, _ => none
def am_vret (ret : Option FieldType) (st : List Value) (es : am_H) : Option am_N := match ret, st with
  | none, [] => some (.inr (none, es))
  | _, _ => none
def am_tsw (d lo hi : Int) (offs : Array Int) (pc : Nat) (st : List Value) (L : am_L) (es : am_H) : Option am_N := match st with
  | .int x :: r => if x.toInt < lo ∨ hi < x.toInt then am_go pc d L r es else (match offs[(x.toInt - lo).toNat]? with
    | some off => am_go pc off L r es
    | none => none)
  | _ => none
def am_lsw (d : Int) (ps : Array (Int × Int)) (pc : Nat) (st : List Value) (L : am_L) (es : am_H) : Option am_N := match st with
  | .int x :: r => if (ps.toList.zip (ps.toList.drop 1)).all (fun (a, next) => a.1 < next.1) = true then am_go pc (Op.lookupswitch.offset ps.toList d x.toInt) L r es else none
  | _ => none
def am_nul (st : List Value) (want : Bool) (pc : Nat) (off : Int) (L : am_L) (es : am_H) : Option am_N := match st with
  | .null :: r => if want = true then am_go pc off L r es else am_nx (pc + 3) L r es
  | .ref a :: r => if 1000005 ≤ a then none else if want = true then am_nx (pc + 3) L r es else am_go pc off L r es
  | _ => none
def am_dup (st : List Value) (np : Nat) (L : am_L) (es : am_H) : Option am_N := match st with
  | v :: r => if v.category = 1 then am_nx np L (v :: v :: r) es else none
  | [] => none
def am_dupx (st : List Value) (np : Nat) (L : am_L) (es : am_H) : Option am_N := match st with
  | v :: u :: r => if v.category = 1 ∧ u.category = 1 then am_nx np L (v :: u :: v :: r) es else none
  | _ => none
def am_dup2 (st : List Value) (np : Nat) (L : am_L) (es : am_H) : Option am_N := match st with
  | v :: r => if v.category = 2 then am_nx np L (v :: v :: r) es else (match r with
    | u :: r' => if u.category = 1 ∧ v.category = 1 then am_nx np L (v :: u :: v :: u :: r') es else none
    | [] => none)
  | [] => none
def am_pop (st : List Value) (np : Nat) (L : am_L) (es : am_H) : Option am_N := match st with
  | v :: r => if v.category = 1 then am_nx np L r es else none
  | [] => none
def am_iinc (i : Nat) (n : Int) (st : List Value) (np : Nat) (L : am_L) (es : am_H) : Option am_N := match am_ld L i with
  | some (.int x) => am_nx np (am_st L i (.int (x + Int32.ofInt n))) st es
  | _ => none
def am_lsh (st : List Value) (np : Nat) (L : am_L) (es : am_H) : Option am_N := match st with
  | .int y :: .long x :: r => am_nx np L (.long (x <<< (y.toInt64 &&& 63)) :: r) es
  | _ => none
def am_if1 (c : ClassFile.Cond) (off : Int) (st : List Value) (pc : Nat) (L : am_L) (es : am_H) : Option am_N := match st with
  | .int x :: r => am_cond c x 0 pc off L r es
  | _ => none
def am_if2 (c : ClassFile.Cond) (off : Int) (st : List Value) (pc : Nat) (L : am_L) (es : am_H) : Option am_N := match st with
  | .int y :: .int x :: r => am_cond c x y pc off L r es
  | _ => none
def am_ins (xs : List Int32) (cl : am_C) (M : am_M) (pc : Nat) (i : Instr) (L : am_L) (st : List Value) (es : am_H) : Option am_N := match i with
  | .iconst n => am_nx (pc + 1) L (.int (Int32.ofInt n) :: st) es
  | .bipush n => am_nx (pc + 2) L (.int ((Int8.ofInt n).toInt32) :: st) es
  | .sipush n => am_nx (pc + 3) L (.int ((Int16.ofInt n).toInt32) :: st) es
  | .lconst n => am_nx (pc + 1) L (.long (Int64.ofNat (n : Nat)) :: st) es
  | .aconst_null => am_nx (pc + 1) L (.null :: st) es
  | .ldc idx => am_conl M.1 idx st (pc + 2) L es (fun v => am_isI v || am_isA v)
  | .ldc_w idx => am_conl M.1 idx st (pc + 3) L es am_isI
  | .ldc2_w idx => am_conl M.1 idx st (pc + 3) L es am_isJ
  | .iload_n k => am_load st L k (pc + 1) es am_isI
  | .iload k => am_load st L k (pc + 2) es am_isI
  | .lload_n k => am_load st L k (pc + 1) es am_isJ
  | .lload k => am_load st L k (pc + 2) es am_isJ
  | .aload_n k => am_load st L k (pc + 1) es am_isA
  | .aload k => am_load st L k (pc + 2) es am_isA
  | .istore_n k => am_store st L k (pc + 1) es 1 am_isI
  | .istore k => am_store st L k (pc + 2) es 1 am_isI
  | .astore_n k => am_store st L k (pc + 1) es 1 am_isA
  | .astore k => am_store st L k (pc + 2) es 1 am_isA
  | .lstore_n k => am_store st L k (pc + 1) es 2 am_isJ
  | .lstore k => am_store st L k (pc + 2) es 2 am_isJ
  | .iinc k n => am_iinc k n st (pc + 3) L es
  | .iadd => am_ii st (fun x y => some (.int (x + y))) (pc + 1) L es
  | .isub => am_ii st (fun x y => some (.int (x - y))) (pc + 1) L es
  | .imul => am_ii st (fun x y => some (.int (x * y))) (pc + 1) L es
  | .iand => am_ii st (fun x y => some (.int (x &&& y))) (pc + 1) L es
  | .ior => am_ii st (fun x y => some (.int (x ||| y))) (pc + 1) L es
  | .ixor => am_ii st (fun x y => some (.int (x ^^^ y))) (pc + 1) L es
  | .ishl => am_ii st (fun x y => some (.int (x <<< (y &&& 31)))) (pc + 1) L es
  | .ishr => am_ii st (fun x y => some (.int (x >>> (y &&& 31)))) (pc + 1) L es
  | .iushr => am_ii st (fun x y => some (.int (x.toUInt32 >>> (y.toUInt32 &&& Int32.toUInt32 31)).toInt32)) (pc + 1) L es
  | .idiv => am_ii st (fun x y => if y = 0 then none else some (.int (x / y))) (pc + 1) L es
  | .irem => am_ii st (fun x y => if y = 0 then none else some (.int (x - x / y * y))) (pc + 1) L es
  | .ineg => am_i1 st (fun x => .int (-x)) (pc + 1) L es
  | .ladd => am_jj st (fun x y => some (.long (x + y))) (pc + 1) L es
  | .land => am_jj st (fun x y => some (.long (x &&& y))) (pc + 1) L es
  | .lor => am_jj st (fun x y => some (.long (x ||| y))) (pc + 1) L es
  | .ldiv => am_jj st (fun x y => if y = 0 then none else some (.long (x / y))) (pc + 1) L es
  | .lrem => am_jj st (fun x y => if y = 0 then none else some (.long (x - x / y * y))) (pc + 1) L es
  | .lcmp => am_jj st (fun x y => some (.int (lg_cmp x y))) (pc + 1) L es
  | .lneg => am_j1 st (fun x => .long (-x)) (pc + 1) L es
  | .lshl => am_lsh st (pc + 1) L es
  | .i2l => am_i1 st (fun x => .long x.toInt64) (pc + 1) L es
  | .l2i => am_j1 st (fun x => .int x.toInt32) (pc + 1) L es
  | .i2b => am_i1 st (fun x => .int x.toInt8.toInt32) (pc + 1) L es
  | .i2s => am_i1 st (fun x => .int x.toInt16.toInt32) (pc + 1) L es
  | .i2c => am_i1 st (fun x => .int (x.toUInt32 % 65536).toInt32) (pc + 1) L es
  | .dup => am_dup st (pc + 1) L es
  | .dup_x1 => am_dupx st (pc + 1) L es
  | .dup2 => am_dup2 st (pc + 1) L es
  | .pop => am_pop st (pc + 1) L es
  | .goto off => am_go pc off L st es
  | .ifCond c off => am_if1 c off st pc L es
  | .if_icmp c off => am_if2 c off st pc L es
  | .ifnull off => am_nul st true pc off L es
  | .ifnonnull off => am_nul st false pc off L es
  | .tableswitch d lo hi offs => am_tsw d lo hi offs pc st L es
  | .lookupswitch d ps => am_lsw d ps pc st L es
  | .getfield idx => am_getf M.1 idx st (pc + 3) L es
  | .putfield idx => am_putf M.1 idx M.2.2.2.1 st (pc + 3) L es
  | .getstatic idx => am_gets M.1 idx st (pc + 3) L es
  | .iaload => am_aload xs st (pc + 1) L es [.int]
  | .baload => am_aload xs st (pc + 1) L es [.byte, .boolean]
  | .laload => am_lald xs st (pc + 1) L es
  | .aaload => am_aald xs st (pc + 1) L es
  | .arraylength => am_alen xs st (pc + 1) L es
  | .iastore => am_astore st (pc + 1) L es [.int] (fun _ x => x)
  | .bastore => am_astore st (pc + 1) L es [.byte, .boolean] vp_nar
  | .lastore => am_last st (pc + 1) L es
  | .aastore => am_aast st (pc + 1) L es
  | .newarray t => am_newa t st (pc + 2) L es
  | .anewarray idx => am_newq M.1 idx st (pc + 3) L es
  | .new idx => am_newo M.1 idx st (pc + 3) L es
  | .invokevirtual idx => am_call1 cl M.1 idx false [0] st (pc + 3) L es
  | .invokestatic idx => am_call1 cl M.1 idx false [1, 4] st (pc + 3) L es
  | .invokespecial idx => am_call1 cl M.1 idx true [2, 5] st (pc + 3) L es
  | .ireturn => am_iret M.2.1 st es
  | .lreturn => am_lret M.2.1 st es
  | .areturn => am_aret M.2.1 st es
  | .return_ => am_vret M.2.1 st es
  | _ => none
def am_at (M : am_M) (pc : Nat) : Option (Instr × Nat) := M.2.2.2.2.lookup pc
def am_run (xs : List Int32) (cl : am_C) (M : am_M) : Nat → Nat → am_L → List Value → am_H → Option am_R
  | 0, _, _, _, _ => none
  | n + 1, pc, L, st, es => match am_at M pc with
    | some (i, _) => (match am_ins xs cl M pc i L st es with
      | some (.inl (pc', L', st', es')) => am_run xs cl M n pc' L' st' es'
      | some (.inr r) => some r
      | none => none)
    | none => none
def am_arg (av : List Value) : am_L := av.flatMap fun v => if v.category = 2 then [some v, none] else [some v]
def am_ini (n : Nat) (av : List Value) : am_L := am_arg av ++ List.replicate (n - (am_arg av).length) none
def am_call (xs : List Int32) : Nat → Nat → am_C
  | 0, _ => fun _ _ _ => none
  | d + 1, n => fun y av es => match am_ms[y]? with
    | some t => if (am_arg av).length ≤ t.2.2.2.2.1 then am_run xs (am_call xs d n) t.2.2 n 0 (am_ini t.2.2.2.2.1 av) [] es else none
    | none => none
