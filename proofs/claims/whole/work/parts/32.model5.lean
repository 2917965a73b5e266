
theorem num_bad {pd : Nat → Int32} {ty sp : Nat} {s : As} (hp : PDok pd ty) (h : sp ≤ ty ∧ (s.2.2.2 = 1 ∨ s.2.2.2 = 2) ∧ s.2.2.1 = -1) (hn : ltr pd ty sp - 48 < 0 ∨ 9 < ltr pd ty sp - 48) : flt pd ty sp s = nI sp := by
  obtain ⟨h1, h2, h3⟩ := h
  by_cases hl : sp < ty
  · exact flt_none hl (take_nd h2 h3 (dig_no hp hl hn))
  · have e : sp = ty := by omega
    subst e
    exact flt_end (may_n h2 h3)
theorem nI_0v {V : Nat} (h : nI V ≤ 0) (hV : V < 2 ^ 31) : V = 0 := by
  have := (nI_leI (b := 0) hV (by omega)).mp h
  omega
theorem num_s0 {pd : Nat → Int32} {ty i V : Nat} {s : As} (hV : V = 0) (q : s.2.2.2 = 1 ∨ s.2.2.2 = 2) (hp : PDok pd ty) : STK pd ty i (s.1, s.2.1, nI V, s.2.2.2) := by
  intro h1 h2
  subst hV
  exact take_d0 (s := (s.1, s.2.1, nI 0, s.2.2.2)) q rfl h2
theorem num_s1 {pd : Nat → Int32} {ty i : Nat} {s : As} (hp : PDok pd ty) (hn : ltr pd ty i - 48 < 0 ∨ 9 < ltr pd ty i - 48) : STK pd ty i s := fun h1 h2 => absurd h2 (dig_no hp h1 hn)
theorem num_s2 {pd : Nat → Int32} {ty i V : Nat} {s : As} (hp : PDok pd ty) (hV0 : 1 ≤ V) (hV : V ≤ 9999) (q : s.2.2.2 = 1 ∨ s.2.2.2 = 2) (h1 : ¬ ltr pd ty i - 48 < 0) (h2 : ¬ 9 < ltr pd ty i - 48) (hov : ∀ k, k ≤ 9 → pd i = nI (k + 48) → ¬ 10 * V + k ≤ 9999) : STK pd ty i (s.1, s.2.1, nI V, s.2.2.2) := by
  intro h3 _
  obtain ⟨-, k, hk, hpk, -⟩ := dig_of hp h1 h2
  rw [hpk, take_d2 (s := (s.1, s.2.1, nI V, s.2.2.2)) q rfl hV0 hV hk, if_neg (hov k hk hpk)]

set_option maxRecDepth 100000 in
set_option maxHeartbeats 4000000 in
theorem c_X10_letter (g : Gd) (h0 : Nat) (h1 : Nat) (h2 : Nat) (h3 : Nat) (h4 : Nat) (h5 : Nat) (h6 : Nat) (h7 : Nat) (pm : Int32) (ty : Nat) (om : Int32) (sp : Nat) (wr : Int32) (pd : Nat → Int32) (hty : ty ≤ 80) (hsp : sp ≤ 1000) : Ki g yX10_letter cX10_letter 1 (some .int) 0 0 0 [.ref h0] [(h0, .inr (10, [.ref h1, .ref h2, .ref h3, .ref h4, .int pm, .ref h5, .ref h6, .int (nI ty), .ref h7, .int om, .int (nI sp), .int wr])), (h6, .inl (gC g, 80, .inl pd))] (fun (r : Int32) (w : va_W) => r = ltr pd ty sp ∧ w = [(h0, .inr (10, [.ref h1, .ref h2, .ref h3, .ref h4, .int pm, .ref h5, .ref h6, .int (nI ty), .ref h7, .int om, .int (nI sp), .int wr])), (h6, .inl (gC g, 80, .inl pd))]) := by
  refine Ki.of (by decide) (Nat.le_of_ble_eq_true rfl) (fun X C hI hret => ?_)
  show V g X 0 0 [(h0, .inr (10, [.ref h1, .ref h2, .ref h3, .ref h4, .int pm, .ref h5, .ref h6, .int (nI ty), .ref h7, .int om, .int (nI sp), .int wr])), (h6, .inl (gC g, 80, .inl pd))] 0 [(0, .ref h0)] []
  refine V_aload_n C 0 dX10_letter_0 rfl rfl ?_
  refine V_get (v := .int (nI sp)) C 0 rfl rfl in_X10 10 (by decide) fl_X10_119 rfl rfl dX10_letter_1 ?_
  refine V_aload_n C 0 dX10_letter_4 rfl rfl ?_
  refine V_get (v := .int (nI ty)) C 0 rfl rfl in_X10 7 (by decide) fl_X10_104 rfl rfl dX10_letter_5 ?_
  refine V_icmp_ge (tgt := 23) C dX10_letter_8 (by decide) (fun c_8 => ?_) (fun c_8 => ?_)
  · have hlt : ¬ sp < ty := by have := lp_ge ty rfl (by omega) (by omega) c_8; omega
    refine V_bipush (v := (-6)) C dX10_letter_23 (by decide) ?_
    refine hret _ _ _ _ dX10_letter_25 ?_
    exact ⟨(ltr_out hlt).symm, rfl⟩
  · have hlt : sp < ty := lp_lt ty rfl (by omega) (by omega) c_8
    refine V_aload_n C 0 dX10_letter_11 rfl rfl ?_
    refine V_get (v := .ref h6) C 0 rfl rfl in_X10 6 (by decide) fl_X10_26 rfl rfl dX10_letter_12 ?_
    refine V_aload_n C 0 dX10_letter_15 rfl rfl ?_
    refine V_get (v := .int (nI sp)) C 0 rfl rfl in_X10 10 (by decide) fl_X10_119 rfl rfl dX10_letter_16 ?_
    refine V_cald C 1 rfl (ix_nI (show sp < 80 by omega) (by omega)) dX10_letter_19 ?_
    refine V_goto (tgt := 25) C dX10_letter_20 (by decide) ?_
    refine hret _ _ _ _ dX10_letter_25 ?_
    exact ⟨(ltr_in hlt).symm, rfl⟩
set_option maxRecDepth 100000 in
set_option maxHeartbeats 4000000 in
theorem c_X10_wants (g : Gd) (h0 : Nat) (h1 : Nat) (h2 : Nat) (h3 : Nat) (h4 : Nat) (h5 : Nat) (h6 : Nat) (h7 : Nat) (pm : Int32) (ty : Int32) (om : Int32) (sp : Nat) (wr : Int32) (bb : Int32) (hsp : sp ≤ 1000) : Kv g yX10_wants cX10_wants 2 none 0 0 0 [.ref h0, .int bb] [(h0, .inr (10, [.ref h1, .ref h2, .ref h3, .ref h4, .int pm, .ref h5, .ref h6, .int ty, .ref h7, .int om, .int (nI sp), .int wr]))] (fun (w : va_W) => (¬ wr = -6 ∧ w = [(h0, .inr (10, [.ref h1, .ref h2, .ref h3, .ref h4, .int pm, .ref h5, .ref h6, .int ty, .ref h7, .int om, .int (nI sp), .int wr]))]) ∨ (wr = -6 ∧ bb = 0 ∧ w = [(h0, .inr (10, [.ref h1, .ref h2, .ref h3, .ref h4, .int pm, .ref h5, .ref h6, .int ty, .ref h7, .int om, .int (nI (sp + 1)), .int (nI sp)]))]) ∨ (wr = -6 ∧ ¬ bb = 0 ∧ w = [(h0, .inr (10, [.ref h1, .ref h2, .ref h3, .ref h4, .int pm, .ref h5, .ref h6, .int ty, .ref h7, .int om, .int (nI (sp + 1)), .int (-6)]))])) := by
  refine Kv.of (by decide) (Nat.le_of_ble_eq_true rfl) (fun X C hI hret => ?_)
  show V g X 0 0 [(h0, .inr (10, [.ref h1, .ref h2, .ref h3, .ref h4, .int pm, .ref h5, .ref h6, .int ty, .ref h7, .int om, .int (nI sp), .int wr]))] 0 [(0, .ref h0), (1, .int bb)] []
  refine V_aload_n C 0 dX10_wants_0 rfl rfl ?_
  refine V_get (v := .int wr) C 0 rfl rfl in_X10 11 (by decide) fl_X10_122 rfl rfl dX10_wants_1 ?_
  refine V_bipush (v := (-6)) C dX10_wants_4 (by decide) ?_
  refine V_icmp_ne (tgt := 36) C dX10_wants_6 (by decide) (fun c_6 => ?_) (fun c_6 => ?_)
  · refine hret _ _ _ dX10_wants_36 ?_
    exact Or.inl ⟨c_6, rfl⟩
  · refine V_aload_n C 0 dX10_wants_9 rfl rfl ?_
    refine V_iload_n C 1 dX10_wants_10 rfl rfl ?_
    refine V_if_eq (tgt := 19) C dX10_wants_11 (by decide) (fun c_11 => ?_) (fun c_11 => ?_)
    · refine V_aload_n C 0 dX10_wants_19 rfl rfl ?_
      refine V_get (v := .int (nI sp)) C 0 rfl rfl in_X10 10 (by decide) fl_X10_119 rfl rfl dX10_wants_20 ?_
      refine V_put (ty := .int) (ws2 := [(h0, .inr (10, [.ref h1, .ref h2, .ref h3, .ref h4, .int pm, .ref h5, .ref h6, .int ty, .ref h7, .int om, .int (nI sp), .int (nI sp)]))]) C 0 rfl rfl in_X10 tyX10 tyX10_ok nmX10 11 (by decide) fl_X10_122 rfl rfl (by decide +kernel) rfl rfl (Nat.le_of_ble_eq_true rfl) dX10_wants_23 rfl ?_
      refine V_aload_n C 0 dX10_wants_26 rfl rfl ?_
      refine V_dup C dX10_wants_27 rfl ?_
      refine V_get (v := .int (nI sp)) C 0 rfl rfl in_X10 10 (by decide) fl_X10_119 rfl rfl dX10_wants_28 ?_
      refine V_iconst (v := 1) C dX10_wants_31 (by decide) ?_
      refine V_iadd C dX10_wants_32 ?_
      refine V_ev (show ((nI sp) + 1 : Int32) = nI (sp + 1) from nI_add sp 1) ?_
      refine V_put (ty := .int) (ws2 := [(h0, .inr (10, [.ref h1, .ref h2, .ref h3, .ref h4, .int pm, .ref h5, .ref h6, .int ty, .ref h7, .int om, .int (nI (sp + 1)), .int (nI sp)]))]) C 0 rfl rfl in_X10 tyX10 tyX10_ok nmX10 10 (by decide) fl_X10_119 rfl rfl (by decide +kernel) rfl rfl (Nat.le_of_ble_eq_true rfl) dX10_wants_33 rfl ?_
      refine hret _ _ _ dX10_wants_36 ?_
      exact Or.inr (Or.inl ⟨c_6, c_11, rfl⟩)
    · refine V_bipush (v := (-6)) C dX10_wants_14 (by decide) ?_
      refine V_goto (tgt := 23) C dX10_wants_16 (by decide) ?_
      refine V_put (ty := .int) (ws2 := [(h0, .inr (10, [.ref h1, .ref h2, .ref h3, .ref h4, .int pm, .ref h5, .ref h6, .int ty, .ref h7, .int om, .int (nI sp), .int (-6)]))]) C 0 rfl rfl in_X10 tyX10 tyX10_ok nmX10 11 (by decide) fl_X10_122 rfl rfl (by decide +kernel) rfl rfl (Nat.le_of_ble_eq_true rfl) dX10_wants_23 rfl ?_
      refine V_aload_n C 0 dX10_wants_26 rfl rfl ?_
      refine V_dup C dX10_wants_27 rfl ?_
      refine V_get (v := .int (nI sp)) C 0 rfl rfl in_X10 10 (by decide) fl_X10_119 rfl rfl dX10_wants_28 ?_
      refine V_iconst (v := 1) C dX10_wants_31 (by decide) ?_
      refine V_iadd C dX10_wants_32 ?_
      refine V_ev (show ((nI sp) + 1 : Int32) = nI (sp + 1) from nI_add sp 1) ?_
      refine V_put (ty := .int) (ws2 := [(h0, .inr (10, [.ref h1, .ref h2, .ref h3, .ref h4, .int pm, .ref h5, .ref h6, .int ty, .ref h7, .int om, .int (nI (sp + 1)), .int (-6)]))]) C 0 rfl rfl in_X10 tyX10 tyX10_ok nmX10 10 (by decide) fl_X10_119 rfl rfl (by decide +kernel) rfl rfl (Nat.le_of_ble_eq_true rfl) dX10_wants_33 rfl ?_
      refine hret _ _ _ dX10_wants_36 ?_
      exact Or.inr (Or.inr ⟨c_6, c_11, rfl⟩)
set_option maxRecDepth 100000 in
set_option maxHeartbeats 4000000 in
theorem c_X10_number (g : Gd) (h0 : Nat) (h1 : Nat) (h2 : Nat) (h3 : Nat) (h4 : Nat) (h5 : Nat) (h6 : Nat) (h7 : Nat) (pm : Int32) (ty : Nat) (om : Int32) (sp : Nat) (wr : Int32) (pd : Nat → Int32) (s5 : As) (hty : ty ≤ 80) (hsp : sp ≤ 900) (hpd : PDok pd ty) (hs5 : (wr = -6 → sp ≤ ty ∧ (s5.2.2.2 = 1 ∨ s5.2.2.2 = 2) ∧ s5.2.2.1 = -1)) : Ki g yX10_number cX10_number 3 (some .int) 1 0 0 [.ref h0] [(h0, .inr (10, [.ref h1, .ref h2, .ref h3, .ref h4, .int pm, .ref h5, .ref h6, .int (nI ty), .ref h7, .int om, .int (nI sp), .int wr])), (h6, .inl (gC g, 80, .inl pd))] (fun (r : Int32) (w : va_W) => (∃ (v9 : Int32), ¬ wr = -6 ∧ r = v9 ∧ w = [(h0, .inr (10, [.ref h1, .ref h2, .ref h3, .ref h4, .int pm, .ref h5, .ref h6, .int (nI ty), .ref h7, .int om, .int (nI sp), .int wr])), (h6, .inl (gC g, 80, .inl pd))]) ∨ (∃ (v9 : Int32), wr = -6 ∧ flt pd ty sp s5 = nI sp ∧ r = v9 ∧ w = [(h0, .inr (10, [.ref h1, .ref h2, .ref h3, .ref h4, .int pm, .ref h5, .ref h6, .int (nI ty), .ref h7, .int om, .int (nI (sp + 1)), .int (nI sp)])), (h6, .inl (gC g, 80, .inl pd))]) ∨ (∃ (V9 : Nat) (i9 : Nat), wr = -6 ∧ V9 ≤ 9999 ∧ sp < i9 ∧ RCH pd ty sp s5 i9 (s5.1, s5.2.1, nI V9, s5.2.2.2) ∧ STK pd ty i9 (s5.1, s5.2.1, nI V9, s5.2.2.2) ∧ r = nI V9 ∧ w = [(h0, .inr (10, [.ref h1, .ref h2, .ref h3, .ref h4, .int pm, .ref h5, .ref h6, .int (nI ty), .ref h7, .int om, .int (nI i9), .int (-6)])), (h6, .inl (gC g, 80, .inl pd))])) := by
  refine Ki.of (by decide) (Nat.le_of_ble_eq_true rfl) (fun X C hI hret => ?_)
  show V g X 0 0 [(h0, .inr (10, [.ref h1, .ref h2, .ref h3, .ref h4, .int pm, .ref h5, .ref h6, .int (nI ty), .ref h7, .int om, .int (nI sp), .int wr])), (h6, .inl (gC g, 80, .inl pd))] 0 [(0, .ref h0)] []
  refine V_aload_n C 0 dX10_number_0 rfl rfl ?_
  refine V_callVi (q0 := 0) (na := 0) (As := []) (rest := []) (wr := []) C (c_X10_letter g h0 h1 h2 h3 h4 h5 h6 h7 pm ty om sp wr pd (show ty ≤ 80 from by first | assumption | omega | exact ix_nI (by omega) (by omega) | decide) (show sp ≤ 1000 from by first | assumption | omega | exact ix_nI (by omega) (by omega) | decide)) ⟨⟨ini_X10, co_X10_letter, ⟨by decide, by decide, by decide +kernel⟩, by decide⟩, ml_X10_125, im_X10_letter, se_X10_letter⟩ [0, 1] [] rfl rfl rfl rfl (by decide) rfl rfl rfl rfl (Nat.le_of_ble_eq_true rfl) (by omega) (by omega) dX10_number_1 (fun r_1 w_ hw_2 => ?_)
  obtain ⟨rfl, rfl⟩ := hw_2
  refine V_to (ws2 := [(h0, .inr (10, [.ref h1, .ref h2, .ref h3, .ref h4, .int pm, .ref h5, .ref h6, .int (nI ty), .ref h7, .int om, .int (nI sp), .int wr])), (h6, .inl (gC g, 80, .inl pd))]) ?_ rfl
  refine V_bipush (v := 48) C dX10_number_4 (by decide) ?_
  refine V_isub C dX10_number_6 ?_
  refine V_istore_n (L2 := [(1, .int ((ltr pd ty sp) - 48)), (0, .ref h0)]) C dX10_number_7 rfl (by decide) rfl ?_
  refine V_aload_n C 1 dX10_number_8 rfl rfl ?_
  refine V_iload_n C 0 dX10_number_9 rfl rfl ?_
  refine V_iconst (v := 0) C dX10_number_10 (by decide) ?_
  refine V_bipush (v := 9) C dX10_number_11 (by decide) ?_
  refine V_callSi (na := 3) (As := [.int ((ltr pd ty sp) - 48), .int 0, .int 9]) (rest := [.ref h0]) (wr := [(h0, .inr (10, [.ref h1, .ref h2, .ref h3, .ref h4, .int pm, .ref h5, .ref h6, .int (nI ty), .ref h7, .int om, .int (nI sp), .int wr])), (h6, .inl (gC g, 80, .inl pd))]) C (c_X10_in g ((ltr pd ty sp) - 48) 0 9 ) ⟨⟨ini_X10, co_X10_in, ⟨by decide, by decide, by decide +kernel⟩, by decide⟩, ml_X10_33, sm_X10_in⟩ [] [0, 1] rfl rfl rfl rfl (by decide) rfl rfl (Nat.le_of_ble_eq_true rfl) (by omega) (by omega) dX10_number_13 (fun r_3 w_ hw_4 => ?_)
  rcases hw_4 with ⟨hf4_0, hf4_1, rfl, rfl⟩ | ⟨hf4_0, rfl, rfl⟩
  · refine V_to (ws2 := [(h0, .inr (10, [.ref h1, .ref h2, .ref h3, .ref h4, .int pm, .ref h5, .ref h6, .int (nI ty), .ref h7, .int om, .int (nI sp), .int wr])), (h6, .inl (gC g, 80, .inl pd))]) ?_ rfl
    refine V_callVv (q0 := 0) (na := 1) (As := [.int 1]) (rest := []) (wr := [(h6, .inl (gC g, 80, .inl pd))]) C (c_X10_wants g h0 h1 h2 h3 h4 h5 h6 h7 pm (nI ty) om sp wr 1 (show sp ≤ 1000 from by first | assumption | omega | exact ix_nI (by omega) (by omega) | decide)) ⟨⟨ini_X10, co_X10_wants, ⟨by decide, by decide, by decide +kernel⟩, by decide⟩, ml_X10_128, im_X10_wants, se_X10_wants⟩ [0] [1] rfl rfl rfl rfl (by decide) rfl rfl rfl rfl (Nat.le_of_ble_eq_true rfl) (by omega) (by omega) dX10_number_16 (fun w_ hw_6 => ?_)
    rcases hw_6 with ⟨hf6_0, rfl⟩ | ⟨hf6_0, hf6_1, rfl⟩ | ⟨hf6_0, hf6_1, rfl⟩
    · refine V_to (ws2 := [(h6, .inl (gC g, 80, .inl pd)), (h0, .inr (10, [.ref h1, .ref h2, .ref h3, .ref h4, .int pm, .ref h5, .ref h6, .int (nI ty), .ref h7, .int om, .int (nI sp), .int wr]))]) ?_ rfl
      refine V_aload_n C 1 dX10_number_19 rfl rfl ?_
      refine V_callVi (q0 := 1) (na := 0) (As := []) (rest := []) (wr := []) C (c_X10_letter g h0 h1 h2 h3 h4 h5 h6 h7 pm ty om sp wr pd (show ty ≤ 80 from by first | assumption | omega | exact ix_nI (by omega) (by omega) | decide) (show sp ≤ 1000 from by first | assumption | omega | exact ix_nI (by omega) (by omega) | decide)) ⟨⟨ini_X10, co_X10_letter, ⟨by decide, by decide, by decide +kernel⟩, by decide⟩, ml_X10_125, im_X10_letter, se_X10_letter⟩ [1, 0] [] rfl rfl rfl rfl (by decide) rfl rfl rfl rfl (Nat.le_of_ble_eq_true rfl) (by omega) (by omega) dX10_number_20 (fun r_7 w_ hw_8 => ?_)
      obtain ⟨rfl, rfl⟩ := hw_8
      refine V_to (ws2 := [(h0, .inr (10, [.ref h1, .ref h2, .ref h3, .ref h4, .int pm, .ref h5, .ref h6, .int (nI ty), .ref h7, .int om, .int (nI sp), .int wr])), (h6, .inl (gC g, 80, .inl pd))]) ?_ rfl
      refine V_bipush (v := 48) C dX10_number_23 (by decide) ?_
      refine V_isub C dX10_number_25 ?_
      refine V_istore_n (L2 := [(2, .int ((ltr pd ty sp) - 48)), (1, .int ((ltr pd ty sp) - 48)), (0, .ref h0)]) C dX10_number_26 rfl (by decide) rfl ?_
      refine V_aload_n C 2 dX10_number_27 rfl rfl ?_
      refine V_get (v := .int wr) C 0 rfl rfl in_X10 11 (by decide) fl_X10_122 rfl rfl dX10_number_28 ?_
      refine V_bipush (v := (-6)) C dX10_number_31 (by decide) ?_
      refine V_icmp_ne (tgt := 90) C dX10_number_33 (by decide) (fun _ => ?_) (fun h => absurd h (hf6_0))
      refine V_iload_n C 1 dX10_number_90 rfl rfl ?_
      refine hret _ _ _ _ dX10_number_91 ?_
      exact Or.inl ⟨_, hf6_0, rfl, rfl⟩
    · refine V_to (ws2 := [(h6, .inl (gC g, 80, .inl pd)), (h0, .inr (10, [.ref h1, .ref h2, .ref h3, .ref h4, .int pm, .ref h5, .ref h6, .int (nI ty), .ref h7, .int om, .int (nI (sp + 1)), .int (nI sp)]))]) ?_ rfl
      exact absurd hf6_1 (by decide)
    · refine V_to (ws2 := [(h6, .inl (gC g, 80, .inl pd)), (h0, .inr (10, [.ref h1, .ref h2, .ref h3, .ref h4, .int pm, .ref h5, .ref h6, .int (nI ty), .ref h7, .int om, .int (nI (sp + 1)), .int (-6)]))]) ?_ rfl
      refine V_aload_n C 1 dX10_number_19 rfl rfl ?_
      refine V_callVi (q0 := 1) (na := 0) (As := []) (rest := []) (wr := []) C (c_X10_letter g h0 h1 h2 h3 h4 h5 h6 h7 pm ty om (sp + 1) (-6) pd (show ty ≤ 80 from by first | assumption | omega | exact ix_nI (by omega) (by omega) | decide) (show (sp + 1) ≤ 1000 from by first | assumption | omega | exact ix_nI (by omega) (by omega) | decide)) ⟨⟨ini_X10, co_X10_letter, ⟨by decide, by decide, by decide +kernel⟩, by decide⟩, ml_X10_125, im_X10_letter, se_X10_letter⟩ [1, 0] [] rfl rfl rfl rfl (by decide) rfl rfl rfl rfl (Nat.le_of_ble_eq_true rfl) (by omega) (by omega) dX10_number_20 (fun r_9 w_ hw_10 => ?_)
      obtain ⟨rfl, rfl⟩ := hw_10
      refine V_to (ws2 := [(h0, .inr (10, [.ref h1, .ref h2, .ref h3, .ref h4, .int pm, .ref h5, .ref h6, .int (nI ty), .ref h7, .int om, .int (nI (sp + 1)), .int (-6)])), (h6, .inl (gC g, 80, .inl pd))]) ?_ rfl
      refine V_bipush (v := 48) C dX10_number_23 (by decide) ?_
      refine V_isub C dX10_number_25 ?_
      refine V_istore_n (L2 := [(2, .int ((ltr pd ty (sp + 1)) - 48)), (1, .int ((ltr pd ty sp) - 48)), (0, .ref h0)]) C dX10_number_26 rfl (by decide) rfl ?_
      obtain ⟨q1, q2, q3⟩ := hs5 hf6_0
      obtain ⟨hlt, k1, hk1, hpk, hvk⟩ := dig_of hpd hf4_0 hf4_1
      have hR1 : RCH pd ty sp s5 (sp + 1) (s5.1, s5.2.1, nI k1, s5.2.2.2) := RCH.st hlt (by rw [hpk]; exact take_d1 q2 q3 hk1) (by rw [hpk]; exact dig_ns hk1)
      rw [hvk]
      have loop_27 : ∀ (fu_27 : Nat) (V7 : Nat) (i7 : Nat), (V7 ≤ 9999) → (sp < i7) → (RCH pd ty sp s5 i7 (s5.1, s5.2.1, nI V7, s5.2.2.2)) → ty - i7 < fu_27 → V g X 0 0 [(h0, .inr (10, [.ref h1, .ref h2, .ref h3, .ref h4, .int pm, .ref h5, .ref h6, .int (nI ty), .ref h7, .int om, .int (nI i7), .int (-6)])), (h6, .inl (gC g, 80, .inl pd))] 27 [(0, .ref h0), (1, .int (nI V7)), (2, .int (ltr pd ty i7 - 48))] [] := by
        intro fu_27
        induction fu_27 with
        | zero => intro V7 i7 hV hi7 hR hm; exact absurd hm (by omega)
        | succ fu_27 ih_27 =>
          intro V7 i7 hV hi7 hR hm
          refine V_aload_n C 0 dX10_number_27 rfl rfl ?_
          refine V_get (v := .int (-6)) C 0 rfl rfl in_X10 11 (by decide) fl_X10_122 rfl rfl dX10_number_28 ?_
          refine V_bipush (v := (-6)) C dX10_number_31 (by decide) ?_
          refine V_icmp_ne (tgt := 90) C dX10_number_33 (by decide) (fun h => absurd rfl h) (fun _ => ?_)
          refine V_iload_n C 1 dX10_number_36 rfl rfl ?_
          refine V_if_le (tgt := 90) C dX10_number_37 (by decide) (fun c_37 => ?_) (fun c_37 => ?_)
          · refine V_iload_n C 1 dX10_number_90 rfl rfl ?_
            refine hret _ _ _ _ dX10_number_91 ?_
            exact Or.inr (Or.inr ⟨V7, i7, hf6_0, hV, hi7, hR, num_s0 (nI_0v c_37 (by omega)) q2 hpd, rfl, rfl⟩)
          · have hV0 : 1 ≤ V7 := by
              rcases Nat.eq_zero_or_pos V7 with q9 | q9
              · exact absurd (by rw [q9]; decide) c_37
              · exact q9
            refine V_iload_n C 2 dX10_number_40 rfl rfl ?_
            refine V_iconst (v := 0) C dX10_number_41 (by decide) ?_
            refine V_bipush (v := 9) C dX10_number_42 (by decide) ?_
            refine V_callSi (na := 3) (As := [.int (ltr pd ty i7 - 48), .int 0, .int 9]) (rest := []) (wr := [(h0, .inr (10, [.ref h1, .ref h2, .ref h3, .ref h4, .int pm, .ref h5, .ref h6, .int (nI ty), .ref h7, .int om, .int (nI i7), .int (-6)])), (h6, .inl (gC g, 80, .inl pd))]) C (c_X10_in g (ltr pd ty i7 - 48) 0 9 ) ⟨⟨ini_X10, co_X10_in, ⟨by decide, by decide, by decide +kernel⟩, by decide⟩, ml_X10_33, sm_X10_in⟩ [] [0, 1] rfl rfl rfl rfl (by decide) rfl rfl (Nat.le_of_ble_eq_true rfl) (by omega) (by omega) dX10_number_44 (fun r_11 w_ hw_12 => ?_)
            rcases hw_12 with ⟨hf12_0, hf12_1, rfl, rfl⟩ | ⟨hf12_0, rfl, rfl⟩
            · refine V_to (ws2 := [(h0, .inr (10, [.ref h1, .ref h2, .ref h3, .ref h4, .int pm, .ref h5, .ref h6, .int (nI ty), .ref h7, .int om, .int (nI i7), .int (-6)])), (h6, .inl (gC g, 80, .inl pd))]) ?_ rfl
              refine V_if_eq (tgt := 90) C dX10_number_47 (by decide) (fun h => absurd h (by decide)) (fun _ => ?_)
              obtain ⟨hlt7, k2, hk2, hpk2, hvk2⟩ := dig_of hpd hf12_0 hf12_1
              refine V_bipush (v := 10) C dX10_number_50 (by decide) ?_
              refine V_iload_n C 1 dX10_number_52 rfl rfl ?_
              refine V_imul C dX10_number_53 ?_
              refine V_ev (show (10 * (nI V7) : Int32) = nI (10 * V7) from pk_mul 10 V7) ?_
              refine V_iload_n C 2 dX10_number_54 rfl rfl ?_
              refine V_iadd C dX10_number_55 ?_
              refine V_ev (show ((nI (10 * V7)) + (ltr pd ty i7 - 48) : Int32) = nI (10 * V7 + k2) from by rw [hvk2]; exact nI_add _ _) ?_
              refine V_sipush (v := 9999) C dX10_number_56 (by decide) ?_
              refine V_icmp_gt (tgt := 90) C dX10_number_59 (by decide) (fun c_59 => ?_) (fun c_59 => ?_)
              · have hov : ∀ k, k ≤ 9 → pd i7 = nI (k + 48) → ¬ 10 * V7 + k ≤ 9999 := fun k hk9 hpk9 => by
                  have e9 : k + 48 = k2 + 48 := (nI_eq (by omega) (by omega)).mp (hpk9.symm.trans hpk2)
                  rw [show k = k2 by omega]
                  exact fun q9 => absurd c_59 (nI_nlt (a := 9999) q9 (by omega))
                refine V_iload_n C 1 dX10_number_90 rfl rfl ?_
                refine hret _ _ _ _ dX10_number_91 ?_
                exact Or.inr (Or.inr ⟨V7, i7, hf6_0, hV, hi7, hR, num_s2 hpd hV0 hV q2 hf12_0 hf12_1 hov, rfl, rfl⟩)
              · have hV2 : 10 * V7 + k2 ≤ 9999 := by
                  rcases Nat.lt_or_ge 9999 (10 * V7 + k2) with q9 | q9
                  · exact absurd (nI_lt (a := 9999) q9 (by omega)) c_59
                  · exact q9
                have hR2 := hR.tr (RCH.st hlt7 (by rw [hpk2, take_d2 (s := (s5.1, s5.2.1, nI V7, s5.2.2.2)) q2 rfl hV0 hV hk2, if_pos hV2]) (by rw [hpk2]; exact dig_ns hk2))
                refine V_bipush (v := 10) C dX10_number_62 (by decide) ?_
                refine V_iload_n C 1 dX10_number_64 rfl rfl ?_
                refine V_imul C dX10_number_65 ?_
                refine V_ev (show (10 * (nI V7) : Int32) = nI (10 * V7) from pk_mul 10 V7) ?_
                refine V_iload_n C 2 dX10_number_66 rfl rfl ?_
                refine V_iadd C dX10_number_67 ?_
                refine V_ev (show ((nI (10 * V7)) + (ltr pd ty i7 - 48) : Int32) = nI (10 * V7 + k2) from by rw [hvk2]; exact nI_add _ _) ?_
                refine V_istore_n (L2 := [(1, .int (nI (10 * V7 + k2))), (0, .ref h0), (2, .int (ltr pd ty i7 - 48))]) C dX10_number_68 rfl (by decide) rfl ?_
                refine V_aload_n C 1 dX10_number_69 rfl rfl ?_
                refine V_dup C dX10_number_70 rfl ?_
                refine V_get (v := .int (nI i7)) C 0 rfl rfl in_X10 10 (by decide) fl_X10_119 rfl rfl dX10_number_71 ?_
                refine V_iconst (v := 1) C dX10_number_74 (by decide) ?_
                refine V_iadd C dX10_number_75 ?_
                refine V_ev (show ((nI i7) + 1 : Int32) = nI (i7 + 1) from nI_add i7 1) ?_
                refine V_put (ty := .int) (ws2 := [(h0, .inr (10, [.ref h1, .ref h2, .ref h3, .ref h4, .int pm, .ref h5, .ref h6, .int (nI ty), .ref h7, .int om, .int (nI (i7 + 1)), .int (-6)])), (h6, .inl (gC g, 80, .inl pd))]) C 0 rfl rfl in_X10 tyX10 tyX10_ok nmX10 10 (by decide) fl_X10_119 rfl rfl (by decide +kernel) rfl rfl (Nat.le_of_ble_eq_true rfl) dX10_number_76 rfl ?_
                refine V_aload_n C 1 dX10_number_79 rfl rfl ?_
                refine V_callVi (q0 := 0) (na := 0) (As := []) (rest := []) (wr := []) C (c_X10_letter g h0 h1 h2 h3 h4 h5 h6 h7 pm ty om (i7 + 1) (-6) pd (show ty ≤ 80 from by first | assumption | omega | exact ix_nI (by omega) (by omega) | decide) (show (i7 + 1) ≤ 1000 from by first | assumption | omega | exact ix_nI (by omega) (by omega) | decide)) ⟨⟨ini_X10, co_X10_letter, ⟨by decide, by decide, by decide +kernel⟩, by decide⟩, ml_X10_125, im_X10_letter, se_X10_letter⟩ [0, 1] [] rfl rfl rfl rfl (by decide) rfl rfl rfl rfl (Nat.le_of_ble_eq_true rfl) (by omega) (by omega) dX10_number_80 (fun r_13 w_ hw_14 => ?_)
                obtain ⟨rfl, rfl⟩ := hw_14
                refine V_to (ws2 := [(h0, .inr (10, [.ref h1, .ref h2, .ref h3, .ref h4, .int pm, .ref h5, .ref h6, .int (nI ty), .ref h7, .int om, .int (nI (i7 + 1)), .int (-6)])), (h6, .inl (gC g, 80, .inl pd))]) ?_ rfl
                refine V_bipush (v := 48) C dX10_number_83 (by decide) ?_
                refine V_isub C dX10_number_85 ?_
                refine V_istore_n (L2 := [(2, .int ((ltr pd ty (i7 + 1)) - 48)), (1, .int (nI (10 * V7 + k2))), (0, .ref h0)]) C dX10_number_86 rfl (by decide) rfl ?_
                refine V_goto (tgt := 27) C dX10_number_87 (by decide) ?_
                refine V_locs (L2 := [(0, .ref h0), (1, .int (nI (10 * V7 + k2))), (2, .int ((ltr pd ty (i7 + 1)) - 48))]) [2, 1, 0] rfl ?_
                exact ih_27 (10 * V7 + k2) (i7 + 1) hV2 (by omega) hR2 (by omega)
            · refine V_to (ws2 := [(h0, .inr (10, [.ref h1, .ref h2, .ref h3, .ref h4, .int pm, .ref h5, .ref h6, .int (nI ty), .ref h7, .int om, .int (nI i7), .int (-6)])), (h6, .inl (gC g, 80, .inl pd))]) ?_ rfl
              refine V_if_eq (tgt := 90) C dX10_number_47 (by decide) (fun _ => ?_) (fun h => absurd (by decide) h)
              refine V_iload_n C 1 dX10_number_90 rfl rfl ?_
              refine hret _ _ _ _ dX10_number_91 ?_
              exact Or.inr (Or.inr ⟨V7, i7, hf6_0, hV, hi7, hR, num_s1 hpd hf12_0, rfl, rfl⟩)
      refine V_locs (L2 := [(0, .ref h0), (1, .int (nI k1)), (2, .int ((ltr pd ty (sp + 1)) - 48))]) [2, 1, 0] rfl ?_
      exact loop_27 (ty - (sp + 1) + 1) k1 (sp + 1) (by omega) (show sp < (sp + 1) from by first | assumption | omega | rfl) hR1 (by omega)
  · refine V_to (ws2 := [(h0, .inr (10, [.ref h1, .ref h2, .ref h3, .ref h4, .int pm, .ref h5, .ref h6, .int (nI ty), .ref h7, .int om, .int (nI sp), .int wr])), (h6, .inl (gC g, 80, .inl pd))]) ?_ rfl
    refine V_callVv (q0 := 0) (na := 1) (As := [.int 0]) (rest := []) (wr := [(h6, .inl (gC g, 80, .inl pd))]) C (c_X10_wants g h0 h1 h2 h3 h4 h5 h6 h7 pm (nI ty) om sp wr 0 (show sp ≤ 1000 from by first | assumption | omega | exact ix_nI (by omega) (by omega) | decide)) ⟨⟨ini_X10, co_X10_wants, ⟨by decide, by decide, by decide +kernel⟩, by decide⟩, ml_X10_128, im_X10_wants, se_X10_wants⟩ [0] [1] rfl rfl rfl rfl (by decide) rfl rfl rfl rfl (Nat.le_of_ble_eq_true rfl) (by omega) (by omega) dX10_number_16 (fun w_ hw_16 => ?_)
    rcases hw_16 with ⟨hf16_0, rfl⟩ | ⟨hf16_0, hf16_1, rfl⟩ | ⟨hf16_0, hf16_1, rfl⟩
    · refine V_to (ws2 := [(h6, .inl (gC g, 80, .inl pd)), (h0, .inr (10, [.ref h1, .ref h2, .ref h3, .ref h4, .int pm, .ref h5, .ref h6, .int (nI ty), .ref h7, .int om, .int (nI sp), .int wr]))]) ?_ rfl
      refine V_aload_n C 1 dX10_number_19 rfl rfl ?_
      refine V_callVi (q0 := 1) (na := 0) (As := []) (rest := []) (wr := []) C (c_X10_letter g h0 h1 h2 h3 h4 h5 h6 h7 pm ty om sp wr pd (show ty ≤ 80 from by first | assumption | omega | exact ix_nI (by omega) (by omega) | decide) (show sp ≤ 1000 from by first | assumption | omega | exact ix_nI (by omega) (by omega) | decide)) ⟨⟨ini_X10, co_X10_letter, ⟨by decide, by decide, by decide +kernel⟩, by decide⟩, ml_X10_125, im_X10_letter, se_X10_letter⟩ [1, 0] [] rfl rfl rfl rfl (by decide) rfl rfl rfl rfl (Nat.le_of_ble_eq_true rfl) (by omega) (by omega) dX10_number_20 (fun r_17 w_ hw_18 => ?_)
      obtain ⟨rfl, rfl⟩ := hw_18
      refine V_to (ws2 := [(h0, .inr (10, [.ref h1, .ref h2, .ref h3, .ref h4, .int pm, .ref h5, .ref h6, .int (nI ty), .ref h7, .int om, .int (nI sp), .int wr])), (h6, .inl (gC g, 80, .inl pd))]) ?_ rfl
      refine V_bipush (v := 48) C dX10_number_23 (by decide) ?_
      refine V_isub C dX10_number_25 ?_
      refine V_istore_n (L2 := [(2, .int ((ltr pd ty sp) - 48)), (1, .int ((ltr pd ty sp) - 48)), (0, .ref h0)]) C dX10_number_26 rfl (by decide) rfl ?_
      refine V_aload_n C 2 dX10_number_27 rfl rfl ?_
      refine V_get (v := .int wr) C 0 rfl rfl in_X10 11 (by decide) fl_X10_122 rfl rfl dX10_number_28 ?_
      refine V_bipush (v := (-6)) C dX10_number_31 (by decide) ?_
      refine V_icmp_ne (tgt := 90) C dX10_number_33 (by decide) (fun _ => ?_) (fun h => absurd h (hf16_0))
      refine V_iload_n C 1 dX10_number_90 rfl rfl ?_
      refine hret _ _ _ _ dX10_number_91 ?_
      exact Or.inl ⟨_, hf16_0, rfl, rfl⟩
    · refine V_to (ws2 := [(h6, .inl (gC g, 80, .inl pd)), (h0, .inr (10, [.ref h1, .ref h2, .ref h3, .ref h4, .int pm, .ref h5, .ref h6, .int (nI ty), .ref h7, .int om, .int (nI (sp + 1)), .int (nI sp)]))]) ?_ rfl
      refine V_aload_n C 1 dX10_number_19 rfl rfl ?_
      refine V_callVi (q0 := 1) (na := 0) (As := []) (rest := []) (wr := []) C (c_X10_letter g h0 h1 h2 h3 h4 h5 h6 h7 pm ty om (sp + 1) (nI sp) pd (show ty ≤ 80 from by first | assumption | omega | exact ix_nI (by omega) (by omega) | decide) (show (sp + 1) ≤ 1000 from by first | assumption | omega | exact ix_nI (by omega) (by omega) | decide)) ⟨⟨ini_X10, co_X10_letter, ⟨by decide, by decide, by decide +kernel⟩, by decide⟩, ml_X10_125, im_X10_letter, se_X10_letter⟩ [1, 0] [] rfl rfl rfl rfl (by decide) rfl rfl rfl rfl (Nat.le_of_ble_eq_true rfl) (by omega) (by omega) dX10_number_20 (fun r_19 w_ hw_20 => ?_)
      obtain ⟨rfl, rfl⟩ := hw_20
      refine V_to (ws2 := [(h0, .inr (10, [.ref h1, .ref h2, .ref h3, .ref h4, .int pm, .ref h5, .ref h6, .int (nI ty), .ref h7, .int om, .int (nI (sp + 1)), .int (nI sp)])), (h6, .inl (gC g, 80, .inl pd))]) ?_ rfl
      refine V_bipush (v := 48) C dX10_number_23 (by decide) ?_
      refine V_isub C dX10_number_25 ?_
      refine V_istore_n (L2 := [(2, .int ((ltr pd ty (sp + 1)) - 48)), (1, .int ((ltr pd ty sp) - 48)), (0, .ref h0)]) C dX10_number_26 rfl (by decide) rfl ?_
      refine V_aload_n C 2 dX10_number_27 rfl rfl ?_
      refine V_get (v := .int (nI sp)) C 0 rfl rfl in_X10 11 (by decide) fl_X10_122 rfl rfl dX10_number_28 ?_
      refine V_bipush (v := (-6)) C dX10_number_31 (by decide) ?_
      refine V_icmp_ne (tgt := 90) C dX10_number_33 (by decide) (fun _ => ?_) (fun h => absurd h (nI_ne6 (by omega)))
      refine V_iload_n C 1 dX10_number_90 rfl rfl ?_
      refine hret _ _ _ _ dX10_number_91 ?_
      exact Or.inr (Or.inl ⟨_, hf16_0, num_bad hpd (hs5 hf16_0) hf4_0, rfl, rfl⟩)
    · refine V_to (ws2 := [(h6, .inl (gC g, 80, .inl pd)), (h0, .inr (10, [.ref h1, .ref h2, .ref h3, .ref h4, .int pm, .ref h5, .ref h6, .int (nI ty), .ref h7, .int om, .int (nI (sp + 1)), .int (-6)]))]) ?_ rfl
      exact absurd rfl hf16_1
