theorem bd_ran {T : q_T} {b : Nat} (h : q_Bd T) (hb : b < 100) (h38 : T.1 153 38 < 99) : q_Bd (q_ran T b) := by
  unfold q_ran
  split
  · exact (h.u (show b < 100 by omega)).u (show T.1 153 38 + 1 < 100 by omega)
  · exact h.u (show T.1 153 38 + 1 < 100 by omega)
theorem bd_rr {T : q_T} {b c : Nat} (h : q_Bd T) (hb : b < 100) (hc : c < 100) (h38 : T.1 153 38 < 90) : q_Bd (q_ran (q_ran T b) c) := bd_ran (bd_ran h hb (by omega)) hc (by have := (q_ran_tr T b).2.1; omega)
theorem bd_wp {T : q_T} (k p : Nat) (x : Int32) (h : q_Bd T) (h38 : T.1 153 38 < 90) : q_Bd (f_wp k T p x).2 := by
  unfold f_wp
  split
  · exact bd_rr h (b := 30) (c := 10) (by omega) (by omega) h38
  · exact bd_rr h (b := 30) (c := 10) (by omega) (by omega) h38
  · exact bd_rr h (b := 50) (c := 10) (by omega) (by omega) h38
  · exact bd_rr h (b := 71) (c := 10) (by omega) (by omega) h38
  · exact bd_ran h (b := 10) (by omega) (by omega)
theorem bd_d0 {T : q_T} (p : Nat) (x : Int32) (h : q_Bd T) (h38 : T.1 153 38 < 85) : q_Bd (f_d0 T p x).2 := bd_wp (T.1 154 p) p x (bd_ran h (b := 11) (by omega) (by omega)) (by have := (q_ran_tr T 11).2.1; omega)
theorem bd_d1 {T : q_T} (p : Nat) (x : Int32) (h : q_Bd T) (h38 : T.1 153 38 < 80) : q_Bd (f_d1 T p x).2 := bd_d0 p x (bd_ran h (b := 20) (by omega) (by omega)) (by have := (q_ran_tr T 20).2.1; omega)
theorem bd_dp {T : q_T} (k p : Nat) (x : Int32) (h : q_Bd T) (h38 : T.1 153 38 < 70) : q_Bd (f_dp k T p x).2 := by
  unfold f_dp
  split
  · exact bd_d1 p x h (by omega)
  · exact bd_d1 p (x + 1) (bd_ran h (b := 51) (by omega) (by omega)) (by have := (q_ran_tr T 51).2.1; omega)
  · have e := (q_ran_tr T 70).2.1
    exact bd_ran (b := 10) (bd_d0 p x (bd_ran h (b := 70) (by omega) (by omega)) (by omega)) (by omega) (by have := (f_d0_tr (q_ran T 70) p x).2.1; omega)
  · exact bd_d0 p x h (by omega)
theorem bd_t0 {T : q_T} (p : Nat) (x : Int32) (h : q_Bd T) (h38 : T.1 153 38 < 60) : q_Bd (f_t0 T p x).2 := bd_dp (T.1 154 p) p x (bd_ran h (b := 12) (by omega) (by omega)) (by have := (q_ran_tr T 12).2.1; omega)
theorem bd_t3 {T : q_T} (p : Nat) (x : Int32) (h : q_Bd T) (h38 : T.1 153 38 < 40) : q_Bd (f_t3 T p x).2 := by
  have e := (q_ran_tr T 40).2.1
  exact bd_dp (T.1 154 p) p 1 (bd_t0 p x (bd_ran h (b := 40) (by omega) (by omega)) (by omega)) (by have := (f_t0_tr (q_ran T 40) p x).2.1; omega)
theorem bd_tp {T : q_T} (k p : Nat) (x : Int32) (h : q_Bd T) (h38 : T.1 153 38 < 40) : q_Bd (f_tp k T p x).2 := by
  unfold f_tp
  split
  · exact bd_t3 p x h h38
  · exact bd_t3 p x h h38
  · exact bd_t0 p (x - nI p) (bd_ran h (b := 60) (by omega) (by omega)) (by have := (q_ran_tr T 60).2.1; omega)
  · exact bd_t0 p x h (by omega)
theorem q_Kp.tr {T T' : q_T} {n : Nat} (h : q_Kp T) (hB : q_Bd T') (ht : q_Tr T T' n) : q_Kp T' := h.x hB (by rw [ht.2.2]) (fun c k hc => ht.1 c k (by omega) (by omega)) (fun t h1 h2 => by
  rw [ht.1 182 t (by omega) (by omega)] at h2
  rw [ht.1 183 t (by omega) (by omega)]
  exact h.2 t h1 h2)
theorem i_act {T : q_T} (h : q_Kp T) (d a x : Int32) : q_Kp (f_act T d a x).2 := by
  have hU : q_Bd (q_Tu T 153 38 0) := h.1.1.1.1.u (show 0 < 100 by omega)
  have e : (q_Tu T 153 38 0).1 153 38 = 0 := q_Tu_eq
  unfold f_act
  split
  · split
    · exact h.tr (bd_wp _ _ x hU (by omega)) (U_tr.tr (f_wp_tr _ _ _ x))
    · split
      · exact h.tr (bd_dp _ _ x hU (by omega)) (U_tr.tr (f_dp_tr _ _ _ x))
      · exact h.tr (bd_tp _ _ x hU (by omega)) (U_tr.tr (f_tp_tr _ _ _ x))
  · exact h.tr hU U_tr
