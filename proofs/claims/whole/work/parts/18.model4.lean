
theorem no8 {w : Int32} (h0 : ¬ w = 0) (h1 : ¬ w = 1) (h2 : ¬ w = 2) (h3 : ¬ w = 3) (h4 : ¬ w = 4) (h5 : ¬ w = 5) (h6 : ¬ w = 6) (h7 : ¬ w = 7) (h8 : ¬ w = 8) : ¬ ok8 w := fun h => by
  obtain ⟨i, -, hi, rfl⟩ := rg_nI 0 8 rfl rfl (by omega) (by omega) h.1 h.2
  rcases (show i = 0 ∨ i = 1 ∨ i = 2 ∨ i = 3 ∨ i = 4 ∨ i = 5 ∨ i = 6 ∨ i = 7 ∨ i = 8 by omega) with rfl | rfl | rfl | rfl | rfl | rfl | rfl | rfl | rfl
  · exact h0 rfl
  · exact h1 rfl
  · exact h2 rfl
  · exact h3 rfl
  · exact h4 rfl
  · exact h5 rfl
  · exact h6 rfl
  · exact h7 rfl
  · exact h8 rfl
theorem farM_up {f : Nat → Int32} {co : Int32} {j : Nat} {x : Int32} (hx : x = f j) (h : co < x) (hj : 1 ≤ j) : farM f co j = farM f co (j - 1) := by
  subst hx
  obtain ⟨k, rfl⟩ : ∃ k, j = k + 1 := ⟨j - 1, by omega⟩
  rw [farM, if_pos h]
  rfl
theorem farM_0 {f : Nat → Int32} {co : Int32} {x : Int32} (hx : x = f 0) (h : co < x) : farM f co 0 = -6 := by
  subst hx
  rw [farM, if_pos h]
theorem farM_found {f : Nat → Int32} {co : Int32} {j : Nat} {x : Int32} (hx : x = f j) (h : ¬ co < x) : farM f co j = nI j := by
  subst hx
  cases j with
  | zero => rw [farM, if_neg h]; rfl
  | succ k => rw [farM, if_neg h]
theorem nI_ne6 {j : Nat} (h : j < 2 ^ 31) : ¬ nI j = -6 := fun q => by
  have h1 := congrArg Int32.toInt q
  rw [nI_toInt h] at h1
  have h2 : (-6 : Int32).toInt = -6 := by decide
  omega
theorem ok1_1 {w : Int32} (h : ok1 w) (h0 : ¬ w = 0) : w = 1 := by
  obtain ⟨i, -, h1, h2⟩ := rg_nI 0 1 rfl rfl (by omega) (by omega) h.1 h.2
  rcases (show i = 0 ∨ i = 1 by omega) with rfl | rfl
  · exact absurd h2 h0
  · exact h2

set_option maxRecDepth 100000 in
set_option maxHeartbeats 4000000 in
theorem c_X10_hoursWith (g : Gd) (h0 : Nat) (h1 : Nat) (h2 : Nat) (h3 : Nat) (h4 : Nat) (h5 : Nat) (h6 : Nat) (h7 : Nat) (pm : Int32) (ty : Int32) (om : Int32) (sp : Int32) (wr : Int32) (z : Nat → Int32) (t : Int32)  : Ki g yX10_hoursWith cX10_hoursWith 4 (some .int) 0 0 0 [.ref h0, .int t] [(h0, .inr (10, [.ref h1, .ref h2, .ref h3, .ref h4, .int pm, .ref h5, .ref h6, .int ty, .ref h7, .int om, .int sp, .int wr])), (h1, .inl (gI g, 113, .inl z))] (fun (r : Int32) (w : va_W) => r = hcnt (fun i => z (12 + i)) t 24 ∧ w = [(h0, .inr (10, [.ref h1, .ref h2, .ref h3, .ref h4, .int pm, .ref h5, .ref h6, .int ty, .ref h7, .int om, .int sp, .int wr])), (h1, .inl (gI g, 113, .inl z))]) := by
  refine Ki.of (by decide) (Nat.le_of_ble_eq_true rfl) (fun X C hI hret => ?_)
  show V g X 0 0 [(h0, .inr (10, [.ref h1, .ref h2, .ref h3, .ref h4, .int pm, .ref h5, .ref h6, .int ty, .ref h7, .int om, .int sp, .int wr])), (h1, .inl (gI g, 113, .inl z))] 0 [(0, .ref h0), (1, .int t)] []
  refine V_iconst (v := 0) C dX10_hoursWith_0 (by decide) ?_
  refine V_istore_n (L2 := [(2, .int 0), (0, .ref h0), (1, .int t)]) C dX10_hoursWith_1 rfl (by decide) rfl ?_
  refine V_iconst (v := 0) C dX10_hoursWith_2 (by decide) ?_
  refine V_istore_n (L2 := [(3, .int 0), (2, .int 0), (0, .ref h0), (1, .int t)]) C dX10_hoursWith_3 rfl (by decide) rfl ?_
  have loop_4 : ∀ (fu_4 : Nat) (j : Nat) (cn : Int32), (j ≤ 24) → (cn = hcnt (fun i => z (12 + i)) t j) → 24 - j < fu_4 → V g X 0 0 [(h0, .inr (10, [.ref h1, .ref h2, .ref h3, .ref h4, .int pm, .ref h5, .ref h6, .int ty, .ref h7, .int om, .int sp, .int wr])), (h1, .inl (gI g, 113, .inl z))] 4 [(0, .ref h0), (1, .int t), (2, .int cn), (3, .int (nI j))] [] := by
    intro fu_4
    induction fu_4 with
    | zero => intro j cn hj hc hm; exact absurd hm (by omega)
    | succ fu_4 ih_4 =>
      intro j cn hj hc hm
      refine V_iload_n C 3 dX10_hoursWith_4 rfl rfl ?_
      refine V_bipush (v := 24) C dX10_hoursWith_5 (by decide) ?_
      refine V_icmp_ge (tgt := 37) C dX10_hoursWith_7 (by decide) (fun c_7 => ?_) (fun c_7 => ?_)
      · refine V_iload_n C 2 dX10_hoursWith_37 rfl rfl ?_
        refine hret _ _ _ _ dX10_hoursWith_38 ?_
        have hj2 : j = 24 := by have := lp_ge 24 rfl (by omega) (by omega) c_7; omega
        subst hj2
        exact ⟨hc, rfl⟩
      · have hj2 : j < 24 := lp_lt 24 rfl (by omega) (by omega) c_7
        refine V_iload_n C 2 dX10_hoursWith_10 rfl rfl ?_
        refine V_aload_n C 0 dX10_hoursWith_11 rfl rfl ?_
        refine V_get (v := .ref h1) C 0 rfl rfl in_X10 0 (by decide) fl_X10_7 rfl rfl dX10_hoursWith_12 ?_
        refine V_bipush (v := 12) C dX10_hoursWith_15 (by decide) ?_
        refine V_iload_n C 3 dX10_hoursWith_17 rfl rfl ?_
        refine V_iadd C dX10_hoursWith_18 ?_
        refine V_ev (show (12 + (nI j) : Int32) = nI (12 + j) from nI_add 12 j) ?_
        refine V_iald C 1 rfl (ix_nI (show 12 + j < 113 by omega) (by omega)) dX10_hoursWith_19 ?_
        refine V_iload_n C 1 dX10_hoursWith_20 rfl rfl ?_
        refine V_icmp_ne (tgt := 28) C dX10_hoursWith_21 (by decide) (fun c_21 => ?_) (fun c_21 => ?_)
        · refine V_iconst (v := 0) C dX10_hoursWith_28 (by decide) ?_
          refine V_iadd C dX10_hoursWith_29 ?_
          refine V_istore_n (L2 := [(2, .int (cn + 0)), (0, .ref h0), (1, .int t), (3, .int (nI j))]) C dX10_hoursWith_30 rfl (by decide) rfl ?_
          refine V_iinc (v := nI (j + 1)) (L2 := [(3, .int (nI (j + 1))), (2, .int (cn + 0)), (0, .ref h0), (1, .int t)]) C 3 dX10_hoursWith_31 rfl (nI_add j 1) (by decide) rfl ?_
          refine V_goto (tgt := 4) C dX10_hoursWith_34 (by decide) ?_
          refine V_locs (L2 := [(0, .ref h0), (1, .int t), (2, .int (cn + 0)), (3, .int (nI (j + 1)))]) [2, 3, 1, 0] rfl ?_
          exact ih_4 (j + 1) (cn + 0) (show (j + 1) ≤ 24 from by first | assumption | omega | rfl) (by rw [hcnt, if_neg c_21, Int32.add_zero, hc]) (by omega)
        · refine V_iconst (v := 1) C dX10_hoursWith_24 (by decide) ?_
          refine V_goto (tgt := 29) C dX10_hoursWith_25 (by decide) ?_
          refine V_iadd C dX10_hoursWith_29 ?_
          refine V_istore_n (L2 := [(2, .int (cn + 1)), (0, .ref h0), (1, .int t), (3, .int (nI j))]) C dX10_hoursWith_30 rfl (by decide) rfl ?_
          refine V_iinc (v := nI (j + 1)) (L2 := [(3, .int (nI (j + 1))), (2, .int (cn + 1)), (0, .ref h0), (1, .int t)]) C 3 dX10_hoursWith_31 rfl (nI_add j 1) (by decide) rfl ?_
          refine V_goto (tgt := 4) C dX10_hoursWith_34 (by decide) ?_
          refine V_locs (L2 := [(0, .ref h0), (1, .int t), (2, .int (cn + 1)), (3, .int (nI (j + 1)))]) [2, 3, 1, 0] rfl ?_
          exact ih_4 (j + 1) (cn + 1) (show (j + 1) ≤ 24 from by first | assumption | omega | rfl) (by rw [hcnt, if_pos c_21, hc]) (by omega)
  refine V_locs (L2 := [(0, .ref h0), (1, .int t), (2, .int 0), (3, .int 0)]) [2, 3, 1, 0] rfl ?_
  exact loop_4 (24 - 0 + 1) 0 0 (show 0 ≤ 24 from by first | assumption | omega | rfl) (show 0 = hcnt (fun i => z (12 + i)) t 0 from by first | assumption | omega | rfl) (by omega)
set_option maxRecDepth 100000 in
set_option maxHeartbeats 4000000 in
theorem c_X10_ofTariff (g : Gd) (h0 : Nat) (h1 : Nat) (h2 : Nat) (h3 : Nat) (h4 : Nat) (h5 : Nat) (h6 : Nat) (h7 : Nat) (pm : Int32) (ty : Int32) (om : Int32) (sp : Int32) (wr : Int32) (z : Nat → Int32) (tt : Int32) (ww : Int32)  : Ki g yX10_ofTariff cX10_ofTariff 3 (some .int) 2 0 0 [.ref h0, .int tt, .int ww] [(h0, .inr (10, [.ref h1, .ref h2, .ref h3, .ref h4, .int pm, .ref h5, .ref h6, .int ty, .ref h7, .int om, .int sp, .int wr])), (h1, .inl (gI g, 113, .inl z))] (fun (r : Int32) (w : va_W) => (¬ okT tt ∧ r = (-1) ∧ w = [(h0, .inr (10, [.ref h1, .ref h2, .ref h3, .ref h4, .int pm, .ref h5, .ref h6, .int ty, .ref h7, .int om, .int sp, .int wr])), (h1, .inl (gI g, 113, .inl z))]) ∨ (okT tt ∧ ¬ ok4 ww ∧ r = (-2) ∧ w = [(h0, .inr (10, [.ref h1, .ref h2, .ref h3, .ref h4, .int pm, .ref h5, .ref h6, .int ty, .ref h7, .int om, .int sp, .int wr])), (h1, .inl (gI g, 113, .inl z))]) ∨ (∃ (t0 : Nat) (w1 : Nat), t0 < 3 ∧ w1 < 4 ∧ tt = nI t0 ∧ ww = nI w1 ∧ r = z (4 * t0 + w1) ∧ w = [(h0, .inr (10, [.ref h1, .ref h2, .ref h3, .ref h4, .int pm, .ref h5, .ref h6, .int ty, .ref h7, .int om, .int sp, .int wr])), (h1, .inl (gI g, 113, .inl z))]) ∨ (∃ (t0 : Nat), t0 < 3 ∧ tt = nI t0 ∧ ww = 4 ∧ r = hcnt (fun i => z (12 + i)) (nI t0) 24 ∧ w = [(h0, .inr (10, [.ref h1, .ref h2, .ref h3, .ref h4, .int pm, .ref h5, .ref h6, .int ty, .ref h7, .int om, .int sp, .int wr])), (h1, .inl (gI g, 113, .inl z))])) := by
  refine Ki.of (by decide) (Nat.le_of_ble_eq_true rfl) (fun X C hI hret => ?_)
  show V g X 0 0 [(h0, .inr (10, [.ref h1, .ref h2, .ref h3, .ref h4, .int pm, .ref h5, .ref h6, .int ty, .ref h7, .int om, .int sp, .int wr])), (h1, .inl (gI g, 113, .inl z))] 0 [(0, .ref h0), (1, .int tt), (2, .int ww)] []
  refine V_iload_n C 1 dX10_ofTariff_0 rfl rfl ?_
  refine V_callSi (na := 1) (As := [.int tt]) (rest := []) (wr := [(h0, .inr (10, [.ref h1, .ref h2, .ref h3, .ref h4, .int pm, .ref h5, .ref h6, .int ty, .ref h7, .int om, .int sp, .int wr])), (h1, .inl (gI g, 113, .inl z))]) C (c_X10_isTariff g tt ) ⟨⟨ini_X10, co_X10_isTariff, ⟨by decide, by decide, by decide +kernel⟩, by decide⟩, ml_X10_48, sm_X10_isTariff⟩ [] [0, 1] rfl rfl rfl rfl (by decide) rfl rfl (Nat.le_of_ble_eq_true rfl) (by omega) (by omega) dX10_ofTariff_1 (fun r_1 w_ hw_2 => ?_)
  rcases hw_2 with ⟨hf2_0, rfl, rfl⟩ | ⟨hf2_0, rfl, rfl⟩
  · refine V_to (ws2 := [(h0, .inr (10, [.ref h1, .ref h2, .ref h3, .ref h4, .int pm, .ref h5, .ref h6, .int ty, .ref h7, .int om, .int sp, .int wr])), (h1, .inl (gI g, 113, .inl z))]) ?_ rfl
    refine V_if_ne (tgt := 9) C dX10_ofTariff_4 (by decide) (fun _ => ?_) (fun h => absurd h (by decide))
    refine V_iload_n C 2 dX10_ofTariff_9 rfl rfl ?_
    refine V_iconst (v := 0) C dX10_ofTariff_10 (by decide) ?_
    refine V_iconst (v := 4) C dX10_ofTariff_11 (by decide) ?_
    refine V_callSi (na := 3) (As := [.int ww, .int 0, .int 4]) (rest := []) (wr := [(h0, .inr (10, [.ref h1, .ref h2, .ref h3, .ref h4, .int pm, .ref h5, .ref h6, .int ty, .ref h7, .int om, .int sp, .int wr])), (h1, .inl (gI g, 113, .inl z))]) C (c_X10_in g ww 0 4 ) ⟨⟨ini_X10, co_X10_in, ⟨by decide, by decide, by decide +kernel⟩, by decide⟩, ml_X10_33, sm_X10_in⟩ [] [0, 1] rfl rfl rfl rfl (by decide) rfl rfl (Nat.le_of_ble_eq_true rfl) (by omega) (by omega) dX10_ofTariff_12 (fun r_3 w_ hw_4 => ?_)
    rcases hw_4 with ⟨hf4_0, hf4_1, rfl, rfl⟩ | ⟨hf4_0, rfl, rfl⟩
    · refine V_to (ws2 := [(h0, .inr (10, [.ref h1, .ref h2, .ref h3, .ref h4, .int pm, .ref h5, .ref h6, .int ty, .ref h7, .int om, .int sp, .int wr])), (h1, .inl (gI g, 113, .inl z))]) ?_ rfl
      refine V_if_ne (tgt := 23) C dX10_ofTariff_15 (by decide) (fun _ => ?_) (fun h => absurd h (by decide))
      obtain ⟨t0, -, ht0, rfl⟩ := rg_nI 0 2 rfl rfl (by omega) (by omega) hf2_0.1 hf2_0.2
      have ht0 : t0 < 3 := by omega
      obtain ⟨w1, -, hw1, rfl⟩ := rg_nI 0 4 rfl rfl (by omega) (by omega) hf4_0 hf4_1
      refine V_iload_n C 2 dX10_ofTariff_23 rfl rfl ?_
      refine V_iconst (v := 4) C dX10_ofTariff_24 (by decide) ?_
      refine V_icmp_ge (tgt := 37) C dX10_ofTariff_25 (by decide) (fun c_25 => ?_) (fun c_25 => ?_)
      · refine V_aload_n C 0 dX10_ofTariff_37 rfl rfl ?_
        refine V_iload_n C 1 dX10_ofTariff_38 rfl rfl ?_
        refine V_callVi (q0 := 0) (na := 1) (As := [.int (nI t0)]) (rest := []) (wr := []) C (c_X10_hoursWith g h0 h1 h2 h3 h4 h5 h6 h7 pm ty om sp wr z (nI t0) ) ⟨⟨ini_X10, co_X10_hoursWith, ⟨by decide, by decide, by decide +kernel⟩, by decide⟩, ml_X10_101, im_X10_hoursWith, se_X10_hoursWith⟩ [0, 1] [] rfl rfl rfl rfl (by decide) rfl rfl rfl rfl (Nat.le_of_ble_eq_true rfl) (by omega) (by omega) dX10_ofTariff_39 (fun r_5 w_ hw_6 => ?_)
        obtain ⟨rfl, rfl⟩ := hw_6
        refine V_to (ws2 := [(h0, .inr (10, [.ref h1, .ref h2, .ref h3, .ref h4, .int pm, .ref h5, .ref h6, .int ty, .ref h7, .int om, .int sp, .int wr])), (h1, .inl (gI g, 113, .inl z))]) ?_ rfl
        refine hret _ _ _ _ dX10_ofTariff_42 ?_
        exact Or.inr (Or.inr (Or.inr ⟨t0, ht0, rfl, by rw [show w1 = 4 by have := lp_ge 4 rfl (by omega) (by omega) c_25; omega]; rfl, rfl, rfl⟩))
      · have hw4 : w1 < 4 := lp_lt 4 rfl (by omega) (by omega) c_25
        refine V_aload_n C 0 dX10_ofTariff_28 rfl rfl ?_
        refine V_iload_n C 1 dX10_ofTariff_29 rfl rfl ?_
        refine V_iload_n C 2 dX10_ofTariff_30 rfl rfl ?_
        refine V_callVi (q0 := 0) (na := 2) (As := [.int (nI t0), .int (nI w1)]) (rest := []) (wr := []) C (c_X10_its g h0 h1 h2 h3 h4 h5 h6 h7 pm ty om sp wr z t0 w1 (show t0 < 3 from by first | assumption | omega | exact ix_nI (by omega) (by omega) | decide) (show w1 < 4 from by first | assumption | omega | exact ix_nI (by omega) (by omega) | decide)) ⟨⟨ini_X10, co_X10_its, ⟨by decide, by decide, by decide +kernel⟩, by decide⟩, ml_X10_37, im_X10_its, se_X10_its⟩ [0, 1] [] rfl rfl rfl rfl (by decide) rfl rfl rfl rfl (Nat.le_of_ble_eq_true rfl) (by omega) (by omega) dX10_ofTariff_31 (fun r_7 w_ hw_8 => ?_)
        obtain ⟨rfl, rfl⟩ := hw_8
        refine V_to (ws2 := [(h0, .inr (10, [.ref h1, .ref h2, .ref h3, .ref h4, .int pm, .ref h5, .ref h6, .int ty, .ref h7, .int om, .int sp, .int wr])), (h1, .inl (gI g, 113, .inl z))]) ?_ rfl
        refine V_goto (tgt := 42) C dX10_ofTariff_34 (by decide) ?_
        refine hret _ _ _ _ dX10_ofTariff_42 ?_
        exact Or.inr (Or.inr (Or.inl ⟨t0, w1, ht0, hw4, rfl, rfl, rfl, rfl⟩))
    · refine V_to (ws2 := [(h0, .inr (10, [.ref h1, .ref h2, .ref h3, .ref h4, .int pm, .ref h5, .ref h6, .int ty, .ref h7, .int om, .int sp, .int wr])), (h1, .inl (gI g, 113, .inl z))]) ?_ rfl
      refine V_if_ne (tgt := 23) C dX10_ofTariff_15 (by decide) (fun h => absurd rfl h) (fun _ => ?_)
      refine V_bipush (v := (-2)) C dX10_ofTariff_18 (by decide) ?_
      refine V_goto (tgt := 42) C dX10_ofTariff_20 (by decide) ?_
      refine hret _ _ _ _ dX10_ofTariff_42 ?_
      exact Or.inr (Or.inl ⟨hf2_0, fun h => (hf4_0).elim h.1 h.2, rfl, rfl⟩)
  · refine V_to (ws2 := [(h0, .inr (10, [.ref h1, .ref h2, .ref h3, .ref h4, .int pm, .ref h5, .ref h6, .int ty, .ref h7, .int om, .int sp, .int wr])), (h1, .inl (gI g, 113, .inl z))]) ?_ rfl
    refine V_if_ne (tgt := 9) C dX10_ofTariff_4 (by decide) (fun h => absurd rfl h) (fun _ => ?_)
    refine V_iconst (v := (-1)) C dX10_ofTariff_7 (by decide) ?_
    refine hret _ _ _ _ dX10_ofTariff_8 ?_
    exact Or.inl ⟨hf2_0, rfl, rfl⟩
set_option maxRecDepth 100000 in
set_option maxHeartbeats 4000000 in
theorem c_X10_ride (g : Gd) (h0 : Nat) (h1 : Nat) (h2 : Nat) (h3 : Nat) (h4 : Nat) (h5 : Nat) (h6 : Nat) (h7 : Nat) (pm : Int32) (ty : Int32) (om : Int32) (sp : Int32) (wr : Int32) (z : Nat → Int32) (ww : Int32)  : Ki g yX10_ride cX10_ride 2 (some .int) 1 0 0 [.ref h0, .int ww] [(h0, .inr (10, [.ref h1, .ref h2, .ref h3, .ref h4, .int pm, .ref h5, .ref h6, .int ty, .ref h7, .int om, .int sp, .int wr])), (h1, .inl (gI g, 113, .inl z))] (fun (r : Int32) (w : va_W) => (¬ ok8 ww ∧ r = (-2) ∧ w = [(h0, .inr (10, [.ref h1, .ref h2, .ref h3, .ref h4, .int pm, .ref h5, .ref h6, .int ty, .ref h7, .int om, .int sp, .int wr])), (h1, .inl (gI g, 113, .inl z))]) ∨ (∃ (w1 : Nat), w1 < 9 ∧ ww = nI w1 ∧ r = z (39 + w1) ∧ w = [(h0, .inr (10, [.ref h1, .ref h2, .ref h3, .ref h4, .int pm, .ref h5, .ref h6, .int ty, .ref h7, .int om, .int sp, .int wr])), (h1, .inl (gI g, 113, .inl z))])) := by
  refine Ki.of (by decide) (Nat.le_of_ble_eq_true rfl) (fun X C hI hret => ?_)
  show V g X 0 0 [(h0, .inr (10, [.ref h1, .ref h2, .ref h3, .ref h4, .int pm, .ref h5, .ref h6, .int ty, .ref h7, .int om, .int sp, .int wr])), (h1, .inl (gI g, 113, .inl z))] 0 [(0, .ref h0), (1, .int ww)] []
  refine V_iload_n C 1 dX10_ride_0 rfl rfl ?_
  refine V_iconst (v := 0) C dX10_ride_1 (by decide) ?_
  refine V_bipush (v := 8) C dX10_ride_2 (by decide) ?_
  refine V_callSi (na := 3) (As := [.int ww, .int 0, .int 8]) (rest := []) (wr := [(h0, .inr (10, [.ref h1, .ref h2, .ref h3, .ref h4, .int pm, .ref h5, .ref h6, .int ty, .ref h7, .int om, .int sp, .int wr])), (h1, .inl (gI g, 113, .inl z))]) C (c_X10_in g ww 0 8 ) ⟨⟨ini_X10, co_X10_in, ⟨by decide, by decide, by decide +kernel⟩, by decide⟩, ml_X10_33, sm_X10_in⟩ [] [0, 1] rfl rfl rfl rfl (by decide) rfl rfl (Nat.le_of_ble_eq_true rfl) (by omega) (by omega) dX10_ride_4 (fun r_1 w_ hw_2 => ?_)
  rcases hw_2 with ⟨hf2_0, hf2_1, rfl, rfl⟩ | ⟨hf2_0, rfl, rfl⟩
  · refine V_to (ws2 := [(h0, .inr (10, [.ref h1, .ref h2, .ref h3, .ref h4, .int pm, .ref h5, .ref h6, .int ty, .ref h7, .int om, .int sp, .int wr])), (h1, .inl (gI g, 113, .inl z))]) ?_ rfl
    refine V_if_eq (tgt := 22) C dX10_ride_7 (by decide) (fun h => absurd h (by decide)) (fun _ => ?_)
    obtain ⟨w1, -, hw1, rfl⟩ := rg_nI 0 8 rfl rfl (by omega) (by omega) hf2_0 hf2_1
    refine V_aload_n C 0 dX10_ride_10 rfl rfl ?_
    refine V_get (v := .ref h1) C 0 rfl rfl in_X10 0 (by decide) fl_X10_7 rfl rfl dX10_ride_11 ?_
    refine V_bipush (v := 39) C dX10_ride_14 (by decide) ?_
    refine V_iload_n C 1 dX10_ride_16 rfl rfl ?_
    refine V_iadd C dX10_ride_17 ?_
    refine V_ev (show (39 + (nI w1) : Int32) = nI (39 + w1) from nI_add 39 w1) ?_
    refine V_iald C 1 rfl (ix_nI (show 39 + w1 < 113 by omega) (by omega)) dX10_ride_18 ?_
    refine V_goto (tgt := 24) C dX10_ride_19 (by decide) ?_
    refine hret _ _ _ _ dX10_ride_24 ?_
    exact Or.inr ⟨w1, by omega, rfl, rfl, rfl⟩
  · refine V_to (ws2 := [(h0, .inr (10, [.ref h1, .ref h2, .ref h3, .ref h4, .int pm, .ref h5, .ref h6, .int ty, .ref h7, .int om, .int sp, .int wr])), (h1, .inl (gI g, 113, .inl z))]) ?_ rfl
    refine V_if_eq (tgt := 22) C dX10_ride_7 (by decide) (fun _ => ?_) (fun h => absurd (by decide) h)
    refine V_bipush (v := (-2)) C dX10_ride_22 (by decide) ?_
    refine hret _ _ _ _ dX10_ride_24 ?_
    exact Or.inl ⟨fun h => (hf2_0).elim h.1 h.2, rfl, rfl⟩
set_option maxRecDepth 100000 in
set_option maxHeartbeats 4000000 in
theorem c_X10_log (g : Gd) (h0 : Nat) (h1 : Nat) (h2 : Nat) (h3 : Nat) (h4 : Nat) (h5 : Nat) (h6 : Nat) (h7 : Nat) (pm : Int32) (ty : Int32) (om : Int32) (sp : Int32) (wr : Int32) (z : Nat → Int32) (lg : Nat) (aa : Int32) (ww : Int32) (hlg : lg ≤ 12) (hzl : z 52 = nI lg) : Ki g yX10_log cX10_log 3 (some .int) 1 0 0 [.ref h0, .int aa, .int ww] [(h0, .inr (10, [.ref h1, .ref h2, .ref h3, .ref h4, .int pm, .ref h5, .ref h6, .int ty, .ref h7, .int om, .int sp, .int wr])), (h1, .inl (gI g, 113, .inl z))] (fun (r : Int32) (w : va_W) => (¬ okL aa (nI lg) ∧ r = (-1) ∧ w = [(h0, .inr (10, [.ref h1, .ref h2, .ref h3, .ref h4, .int pm, .ref h5, .ref h6, .int ty, .ref h7, .int om, .int sp, .int wr])), (h1, .inl (gI g, 113, .inl z))]) ∨ (okL aa (nI lg) ∧ ¬ ok4 ww ∧ r = (-2) ∧ w = [(h0, .inr (10, [.ref h1, .ref h2, .ref h3, .ref h4, .int pm, .ref h5, .ref h6, .int ty, .ref h7, .int om, .int sp, .int wr])), (h1, .inl (gI g, 113, .inl z))]) ∨ (∃ (a1 : Nat) (w1 : Nat), a1 < lg ∧ w1 < 5 ∧ aa = nI a1 ∧ ww = nI w1 ∧ r = z (53 + 5 * a1 + w1) ∧ w = [(h0, .inr (10, [.ref h1, .ref h2, .ref h3, .ref h4, .int pm, .ref h5, .ref h6, .int ty, .ref h7, .int om, .int sp, .int wr])), (h1, .inl (gI g, 113, .inl z))])) := by
  refine Ki.of (by decide) (Nat.le_of_ble_eq_true rfl) (fun X C hI hret => ?_)
  show V g X 0 0 [(h0, .inr (10, [.ref h1, .ref h2, .ref h3, .ref h4, .int pm, .ref h5, .ref h6, .int ty, .ref h7, .int om, .int sp, .int wr])), (h1, .inl (gI g, 113, .inl z))] 0 [(0, .ref h0), (1, .int aa), (2, .int ww)] []
  refine V_iload_n C 1 dX10_log_0 rfl rfl ?_
  refine V_iconst (v := 0) C dX10_log_1 (by decide) ?_
  refine V_aload_n C 0 dX10_log_2 rfl rfl ?_
  refine V_get (v := .ref h1) C 0 rfl rfl in_X10 0 (by decide) fl_X10_7 rfl rfl dX10_log_3 ?_
  refine V_bipush (v := 52) C dX10_log_6 (by decide) ?_
  refine V_iald C 1 rfl (show ix 52 52 113 from ix_nI (k := 52) (by omega) (by omega)) dX10_log_8 ?_
  refine V_ev (show (z 52 : Int32) = nI lg from hzl) ?_
  refine V_iconst (v := 1) C dX10_log_9 (by decide) ?_
  refine V_isub C dX10_log_10 ?_
  refine V_callSi (na := 3) (As := [.int aa, .int 0, .int ((nI lg) - 1)]) (rest := []) (wr := [(h0, .inr (10, [.ref h1, .ref h2, .ref h3, .ref h4, .int pm, .ref h5, .ref h6, .int ty, .ref h7, .int om, .int sp, .int wr])), (h1, .inl (gI g, 113, .inl z))]) C (c_X10_in g aa 0 ((nI lg) - 1) ) ⟨⟨ini_X10, co_X10_in, ⟨by decide, by decide, by decide +kernel⟩, by decide⟩, ml_X10_33, sm_X10_in⟩ [] [0, 1] rfl rfl rfl rfl (by decide) rfl rfl (Nat.le_of_ble_eq_true rfl) (by omega) (by omega) dX10_log_11 (fun r_1 w_ hw_2 => ?_)
  rcases hw_2 with ⟨hf2_0, hf2_1, rfl, rfl⟩ | ⟨hf2_0, rfl, rfl⟩
  · refine V_to (ws2 := [(h0, .inr (10, [.ref h1, .ref h2, .ref h3, .ref h4, .int pm, .ref h5, .ref h6, .int ty, .ref h7, .int om, .int sp, .int wr])), (h1, .inl (gI g, 113, .inl z))]) ?_ rfl
    refine V_if_ne (tgt := 19) C dX10_log_14 (by decide) (fun _ => ?_) (fun h => absurd h (by decide))
    refine V_iload_n C 2 dX10_log_19 rfl rfl ?_
    refine V_iconst (v := 0) C dX10_log_20 (by decide) ?_
    refine V_iconst (v := 4) C dX10_log_21 (by decide) ?_
    refine V_callSi (na := 3) (As := [.int ww, .int 0, .int 4]) (rest := []) (wr := [(h0, .inr (10, [.ref h1, .ref h2, .ref h3, .ref h4, .int pm, .ref h5, .ref h6, .int ty, .ref h7, .int om, .int sp, .int wr])), (h1, .inl (gI g, 113, .inl z))]) C (c_X10_in g ww 0 4 ) ⟨⟨ini_X10, co_X10_in, ⟨by decide, by decide, by decide +kernel⟩, by decide⟩, ml_X10_33, sm_X10_in⟩ [] [0, 1] rfl rfl rfl rfl (by decide) rfl rfl (Nat.le_of_ble_eq_true rfl) (by omega) (by omega) dX10_log_22 (fun r_3 w_ hw_4 => ?_)
    rcases hw_4 with ⟨hf4_0, hf4_1, rfl, rfl⟩ | ⟨hf4_0, rfl, rfl⟩
    · refine V_to (ws2 := [(h0, .inr (10, [.ref h1, .ref h2, .ref h3, .ref h4, .int pm, .ref h5, .ref h6, .int ty, .ref h7, .int om, .int sp, .int wr])), (h1, .inl (gI g, 113, .inl z))]) ?_ rfl
      refine V_if_eq (tgt := 44) C dX10_log_25 (by decide) (fun h => absurd h (by decide)) (fun _ => ?_)
      obtain ⟨a1, ha1, rfl⟩ := okL_get rfl hlg ⟨hf2_0, hf2_1⟩
      obtain ⟨w1, -, hw1, rfl⟩ := rg_nI 0 4 rfl rfl (by omega) (by omega) hf4_0 hf4_1
      refine V_aload_n C 0 dX10_log_28 rfl rfl ?_
      refine V_get (v := .ref h1) C 0 rfl rfl in_X10 0 (by decide) fl_X10_7 rfl rfl dX10_log_29 ?_
      refine V_bipush (v := 53) C dX10_log_32 (by decide) ?_
      refine V_iconst (v := 5) C dX10_log_34 (by decide) ?_
      refine V_iload_n C 1 dX10_log_35 rfl rfl ?_
      refine V_imul C dX10_log_36 ?_
      refine V_ev (show (5 * (nI a1) : Int32) = nI (5 * a1) from pk_mul 5 a1) ?_
      refine V_iadd C dX10_log_37 ?_
      refine V_ev (show (53 + (nI (5 * a1)) : Int32) = nI (53 + (5 * a1)) from nI_add 53 (5 * a1)) ?_
      refine V_iload_n C 2 dX10_log_38 rfl rfl ?_
      refine V_iadd C dX10_log_39 ?_
      refine V_ev (show ((nI (53 + (5 * a1))) + (nI w1) : Int32) = nI ((53 + (5 * a1)) + w1) from nI_add (53 + (5 * a1)) w1) ?_
      refine V_iald C 1 rfl (ix_nI (show (53 + (5 * a1)) + w1 < 113 by omega) (by omega)) dX10_log_40 ?_
      refine V_goto (tgt := 46) C dX10_log_41 (by decide) ?_
      refine hret _ _ _ _ dX10_log_46 ?_
      exact Or.inr (Or.inr ⟨a1, w1, ha1, by omega, rfl, rfl, rfl, rfl⟩)
    · refine V_to (ws2 := [(h0, .inr (10, [.ref h1, .ref h2, .ref h3, .ref h4, .int pm, .ref h5, .ref h6, .int ty, .ref h7, .int om, .int sp, .int wr])), (h1, .inl (gI g, 113, .inl z))]) ?_ rfl
      refine V_if_eq (tgt := 44) C dX10_log_25 (by decide) (fun _ => ?_) (fun h => absurd (by decide) h)
      refine V_bipush (v := (-2)) C dX10_log_44 (by decide) ?_
      refine hret _ _ _ _ dX10_log_46 ?_
      exact Or.inr (Or.inl ⟨⟨hf2_0, hf2_1⟩, fun h => (hf4_0).elim h.1 h.2, rfl, rfl⟩)
  · refine V_to (ws2 := [(h0, .inr (10, [.ref h1, .ref h2, .ref h3, .ref h4, .int pm, .ref h5, .ref h6, .int ty, .ref h7, .int om, .int sp, .int wr])), (h1, .inl (gI g, 113, .inl z))]) ?_ rfl
    refine V_if_ne (tgt := 19) C dX10_log_14 (by decide) (fun h => absurd rfl h) (fun _ => ?_)
    refine V_iconst (v := (-1)) C dX10_log_17 (by decide) ?_
    refine hret _ _ _ _ dX10_log_18 ?_
    exact Or.inl ⟨fun h => (hf2_0).elim h.1 h.2, rfl, rfl⟩
set_option maxRecDepth 100000 in
set_option maxHeartbeats 4000000 in
theorem c_X10_count (g : Gd) (h0 : Nat) (h1 : Nat) (h2 : Nat) (h3 : Nat) (h4 : Nat) (h5 : Nat) (h6 : Nat) (h7 : Nat) (pm : Int32) (ty : Int32) (om : Int32) (sp : Int32) (wr : Int32) (z : Nat → Int32) (c : Nat) (ww : Int32) (hc : c < 86400) (hz : z 37 = nI c) : Ki g yX10_count cX10_count 2 (some .int) 1 0 0 [.ref h0, .int ww] [(h0, .inr (10, [.ref h1, .ref h2, .ref h3, .ref h4, .int pm, .ref h5, .ref h6, .int ty, .ref h7, .int om, .int sp, .int wr])), (h1, .inl (gI g, 113, .inl z))] (fun (r : Int32) (w : va_W) => (ww = 0 ∧ r = nI c ∧ w = [(h0, .inr (10, [.ref h1, .ref h2, .ref h3, .ref h4, .int pm, .ref h5, .ref h6, .int ty, .ref h7, .int om, .int sp, .int wr])), (h1, .inl (gI g, 113, .inl z))]) ∨ (ww = 1 ∧ r = z 38 ∧ w = [(h0, .inr (10, [.ref h1, .ref h2, .ref h3, .ref h4, .int pm, .ref h5, .ref h6, .int ty, .ref h7, .int om, .int sp, .int wr])), (h1, .inl (gI g, 113, .inl z))]) ∨ (ww = 2 ∧ r = z (12 + c / 3600) ∧ w = [(h0, .inr (10, [.ref h1, .ref h2, .ref h3, .ref h4, .int pm, .ref h5, .ref h6, .int ty, .ref h7, .int om, .int sp, .int wr])), (h1, .inl (gI g, 113, .inl z))]) ∨ (ww = 3 ∧ r = z 36 ∧ w = [(h0, .inr (10, [.ref h1, .ref h2, .ref h3, .ref h4, .int pm, .ref h5, .ref h6, .int ty, .ref h7, .int om, .int sp, .int wr])), (h1, .inl (gI g, 113, .inl z))]) ∨ (ww = 4 ∧ r = z 50 ∧ w = [(h0, .inr (10, [.ref h1, .ref h2, .ref h3, .ref h4, .int pm, .ref h5, .ref h6, .int ty, .ref h7, .int om, .int sp, .int wr])), (h1, .inl (gI g, 113, .inl z))]) ∨ (ww = 5 ∧ r = z 51 ∧ w = [(h0, .inr (10, [.ref h1, .ref h2, .ref h3, .ref h4, .int pm, .ref h5, .ref h6, .int ty, .ref h7, .int om, .int sp, .int wr])), (h1, .inl (gI g, 113, .inl z))]) ∨ (ww = 6 ∧ r = z 52 ∧ w = [(h0, .inr (10, [.ref h1, .ref h2, .ref h3, .ref h4, .int pm, .ref h5, .ref h6, .int ty, .ref h7, .int om, .int sp, .int wr])), (h1, .inl (gI g, 113, .inl z))]) ∨ (ww = 7 ∧ r = ty ∧ w = [(h0, .inr (10, [.ref h1, .ref h2, .ref h3, .ref h4, .int pm, .ref h5, .ref h6, .int ty, .ref h7, .int om, .int sp, .int wr])), (h1, .inl (gI g, 113, .inl z))]) ∨ (ww = 8 ∧ r = pm ∧ w = [(h0, .inr (10, [.ref h1, .ref h2, .ref h3, .ref h4, .int pm, .ref h5, .ref h6, .int ty, .ref h7, .int om, .int sp, .int wr])), (h1, .inl (gI g, 113, .inl z))]) ∨ (¬ ok8 ww ∧ r = (-2) ∧ w = [(h0, .inr (10, [.ref h1, .ref h2, .ref h3, .ref h4, .int pm, .ref h5, .ref h6, .int ty, .ref h7, .int om, .int sp, .int wr])), (h1, .inl (gI g, 113, .inl z))])) := by
  refine Ki.of (by decide) (Nat.le_of_ble_eq_true rfl) (fun X C hI hret => ?_)
  show V g X 0 0 [(h0, .inr (10, [.ref h1, .ref h2, .ref h3, .ref h4, .int pm, .ref h5, .ref h6, .int ty, .ref h7, .int om, .int sp, .int wr])), (h1, .inl (gI g, 113, .inl z))] 0 [(0, .ref h0), (1, .int ww)] []
  refine V_iload_n C 1 dX10_count_0 rfl rfl ?_
  by_cases e_0 : ww = 0
  · subst e_0
    refine V_tabIn (tgt := 52) (off := 51) C dX10_count_1 (by decide) (by decide) (by decide) (by decide) ?_
    refine V_aload_n C 0 dX10_count_52 rfl rfl ?_
    refine V_get (v := .ref h1) C 0 rfl rfl in_X10 0 (by decide) fl_X10_7 rfl rfl dX10_count_53 ?_
    refine V_bipush (v := 37) C dX10_count_56 (by decide) ?_
    refine V_iald C 1 rfl (show ix 37 37 113 from ix_nI (k := 37) (by omega) (by omega)) dX10_count_58 ?_
    refine V_ev (show (z 37 : Int32) = nI c from hz) ?_
    refine hret _ _ _ _ dX10_count_59 ?_
    exact Or.inl (⟨rfl, rfl, rfl⟩)
  by_cases e_1 : ww = 1
  · subst e_1
    refine V_tabIn (tgt := 60) (off := 59) C dX10_count_1 (by decide) (by decide) (by decide) (by decide) ?_
    refine V_aload_n C 0 dX10_count_60 rfl rfl ?_
    refine V_get (v := .ref h1) C 0 rfl rfl in_X10 0 (by decide) fl_X10_7 rfl rfl dX10_count_61 ?_
    refine V_bipush (v := 38) C dX10_count_64 (by decide) ?_
    refine V_iald C 1 rfl (show ix 38 38 113 from ix_nI (k := 38) (by omega) (by omega)) dX10_count_66 ?_
    refine hret _ _ _ _ dX10_count_67 ?_
    exact Or.inr (Or.inl (⟨rfl, rfl, rfl⟩))
  by_cases e_2 : ww = 2
  · subst e_2
    refine V_tabIn (tgt := 68) (off := 67) C dX10_count_1 (by decide) (by decide) (by decide) (by decide) ?_
    refine V_aload_n C 0 dX10_count_68 rfl rfl ?_
    refine V_aload_n C 0 dX10_count_69 rfl rfl ?_
    refine V_get (v := .ref h1) C 0 rfl rfl in_X10 0 (by decide) fl_X10_7 rfl rfl dX10_count_70 ?_
    refine V_bipush (v := 37) C dX10_count_73 (by decide) ?_
    refine V_iald C 1 rfl (show ix 37 37 113 from ix_nI (k := 37) (by omega) (by omega)) dX10_count_75 ?_
    refine V_ev (show (z 37 : Int32) = nI c from hz) ?_
    refine V_callVi (q0 := 0) (na := 1) (As := [.int (nI c)]) (rest := []) (wr := []) C (c_X10_tariffAt g h0 h1 h2 h3 h4 h5 h6 h7 pm ty om sp wr z c (show c < 86400 from by first | assumption | omega | exact ix_nI (by omega) (by omega) | decide)) ⟨⟨ini_X10, co_X10_tariffAt, ⟨by decide, by decide, by decide +kernel⟩, by decide⟩, ml_X10_52, im_X10_tariffAt, se_X10_tariffAt⟩ [0, 1] [] rfl rfl rfl rfl (by decide) rfl rfl rfl rfl (Nat.le_of_ble_eq_true rfl) (by omega) (by omega) dX10_count_76 (fun r_1 w_ hw_2 => ?_)
    obtain ⟨rfl, rfl⟩ := hw_2
    refine V_to (ws2 := [(h0, .inr (10, [.ref h1, .ref h2, .ref h3, .ref h4, .int pm, .ref h5, .ref h6, .int ty, .ref h7, .int om, .int sp, .int wr])), (h1, .inl (gI g, 113, .inl z))]) ?_ rfl
    refine hret _ _ _ _ dX10_count_79 ?_
    exact Or.inr (Or.inr (Or.inl (⟨rfl, rfl, rfl⟩)))
  by_cases e_3 : ww = 3
  · subst e_3
    refine V_tabIn (tgt := 80) (off := 79) C dX10_count_1 (by decide) (by decide) (by decide) (by decide) ?_
    refine V_aload_n C 0 dX10_count_80 rfl rfl ?_
    refine V_get (v := .ref h1) C 0 rfl rfl in_X10 0 (by decide) fl_X10_7 rfl rfl dX10_count_81 ?_
    refine V_bipush (v := 36) C dX10_count_84 (by decide) ?_
    refine V_iald C 1 rfl (show ix 36 36 113 from ix_nI (k := 36) (by omega) (by omega)) dX10_count_86 ?_
    refine hret _ _ _ _ dX10_count_87 ?_
    exact Or.inr (Or.inr (Or.inr (Or.inl (⟨rfl, rfl, rfl⟩))))
  by_cases e_4 : ww = 4
  · subst e_4
    refine V_tabIn (tgt := 88) (off := 87) C dX10_count_1 (by decide) (by decide) (by decide) (by decide) ?_
    refine V_aload_n C 0 dX10_count_88 rfl rfl ?_
    refine V_get (v := .ref h1) C 0 rfl rfl in_X10 0 (by decide) fl_X10_7 rfl rfl dX10_count_89 ?_
    refine V_bipush (v := 50) C dX10_count_92 (by decide) ?_
    refine V_iald C 1 rfl (show ix 50 50 113 from ix_nI (k := 50) (by omega) (by omega)) dX10_count_94 ?_
    refine hret _ _ _ _ dX10_count_95 ?_
    exact Or.inr (Or.inr (Or.inr (Or.inr (Or.inl (⟨rfl, rfl, rfl⟩)))))
  by_cases e_5 : ww = 5
  · subst e_5
    refine V_tabIn (tgt := 96) (off := 95) C dX10_count_1 (by decide) (by decide) (by decide) (by decide) ?_
    refine V_aload_n C 0 dX10_count_96 rfl rfl ?_
    refine V_get (v := .ref h1) C 0 rfl rfl in_X10 0 (by decide) fl_X10_7 rfl rfl dX10_count_97 ?_
    refine V_bipush (v := 51) C dX10_count_100 (by decide) ?_
    refine V_iald C 1 rfl (show ix 51 51 113 from ix_nI (k := 51) (by omega) (by omega)) dX10_count_102 ?_
    refine hret _ _ _ _ dX10_count_103 ?_
    exact Or.inr (Or.inr (Or.inr (Or.inr (Or.inr (Or.inl (⟨rfl, rfl, rfl⟩))))))
  by_cases e_6 : ww = 6
  · subst e_6
    refine V_tabIn (tgt := 104) (off := 103) C dX10_count_1 (by decide) (by decide) (by decide) (by decide) ?_
    refine V_aload_n C 0 dX10_count_104 rfl rfl ?_
    refine V_get (v := .ref h1) C 0 rfl rfl in_X10 0 (by decide) fl_X10_7 rfl rfl dX10_count_105 ?_
    refine V_bipush (v := 52) C dX10_count_108 (by decide) ?_
    refine V_iald C 1 rfl (show ix 52 52 113 from ix_nI (k := 52) (by omega) (by omega)) dX10_count_110 ?_
    refine hret _ _ _ _ dX10_count_111 ?_
    exact Or.inr (Or.inr (Or.inr (Or.inr (Or.inr (Or.inr (Or.inl (⟨rfl, rfl, rfl⟩)))))))
  by_cases e_7 : ww = 7
  · subst e_7
    refine V_tabIn (tgt := 112) (off := 111) C dX10_count_1 (by decide) (by decide) (by decide) (by decide) ?_
    refine V_aload_n C 0 dX10_count_112 rfl rfl ?_
    refine V_get (v := .int ty) C 0 rfl rfl in_X10 7 (by decide) fl_X10_104 rfl rfl dX10_count_113 ?_
    refine hret _ _ _ _ dX10_count_116 ?_
    exact Or.inr (Or.inr (Or.inr (Or.inr (Or.inr (Or.inr (Or.inr (Or.inl (⟨rfl, rfl, rfl⟩))))))))
  by_cases e_8 : ww = 8
  · subst e_8
    refine V_tabIn (tgt := 117) (off := 116) C dX10_count_1 (by decide) (by decide) (by decide) (by decide) ?_
    refine V_aload_n C 0 dX10_count_117 rfl rfl ?_
    refine V_get (v := .int pm) C 0 rfl rfl in_X10 4 (by decide) fl_X10_41 rfl rfl dX10_count_118 ?_
    refine hret _ _ _ _ dX10_count_121 ?_
    exact Or.inr (Or.inr (Or.inr (Or.inr (Or.inr (Or.inr (Or.inr (Or.inr (Or.inl (⟨rfl, rfl, rfl⟩)))))))))
  refine V_tabOut (tgt := 122) C dX10_count_1 (tab_out (lo := 0) (hi := 8) (fun i h1 h2 => ?_)) (by decide) ?_
  · intro q
    rcases (show i = 0 ∨ i = 1 ∨ i = 2 ∨ i = 3 ∨ i = 4 ∨ i = 5 ∨ i = 6 ∨ i = 7 ∨ i = 8 by omega) with rfl | rfl | rfl | rfl | rfl | rfl | rfl | rfl | rfl
    · exact e_0 (Int32.toInt_inj.mp (q.trans (by decide)))
    · exact e_1 (Int32.toInt_inj.mp (q.trans (by decide)))
    · exact e_2 (Int32.toInt_inj.mp (q.trans (by decide)))
    · exact e_3 (Int32.toInt_inj.mp (q.trans (by decide)))
    · exact e_4 (Int32.toInt_inj.mp (q.trans (by decide)))
    · exact e_5 (Int32.toInt_inj.mp (q.trans (by decide)))
    · exact e_6 (Int32.toInt_inj.mp (q.trans (by decide)))
    · exact e_7 (Int32.toInt_inj.mp (q.trans (by decide)))
    · exact e_8 (Int32.toInt_inj.mp (q.trans (by decide)))
  · refine V_bipush (v := (-2)) C dX10_count_122 (by decide) ?_
    refine hret _ _ _ _ dX10_count_124 ?_
    exact Or.inr (Or.inr (Or.inr (Or.inr (Or.inr (Or.inr (Or.inr (Or.inr (Or.inr (⟨no8 e_0 e_1 e_2 e_3 e_4 e_5 e_6 e_7 e_8, rfl, rfl⟩)))))))))
set_option maxRecDepth 100000 in
set_option maxHeartbeats 4000000 in
theorem c_X10_would (g : Gd) (h0 : Nat) (h1 : Nat) (h2 : Nat) (h3 : Nat) (h4 : Nat) (h5 : Nat) (h6 : Nat) (h7 : Nat) (pm : Int32) (ty : Int32) (om : Int32) (sp : Int32) (wr : Int32) (z : Nat → Int32) (y : Nat → Int32) (p : Int32) (q : Int32) (hd : (z 38 = 1 → DV z)) : Ki g yX10_would cX10_would 6 (some .int) 4 0 0 [.ref h0, .int p, .int q] [(h0, .inr (10, [.ref h1, .ref h2, .ref h3, .ref h4, .int pm, .ref h5, .ref h6, .int ty, .ref h7, .int om, .int sp, .int wr])), (h1, .inl (gI g, 113, .inl z)), (h5, .inl (gI g, 113, .inl y))] (fun (r : Int32) (w : va_W) => (¬ okD p q ∧ r = (-2) ∧ w = [(h0, .inr (10, [.ref h1, .ref h2, .ref h3, .ref h4, .int pm, .ref h5, .ref h6, .int ty, .ref h7, .int om, .int sp, .int wr])), (h1, .inl (gI g, 113, .inl z)), (h5, .inl (gI g, 113, .inl y))]) ∨ (okD p q ∧ ¬ z 38 = 1 ∧ r = (-5) ∧ w = [(h0, .inr (10, [.ref h1, .ref h2, .ref h3, .ref h4, .int pm, .ref h5, .ref h6, .int ty, .ref h7, .int om, .int sp, .int wr])), (h1, .inl (gI g, 113, .inl z)), (h5, .inl (gI g, 113, .inl y))]) ∨ (∃ (P : Nat) (S : Nat), P ≤ 9999 ∧ 1 ≤ S ∧ S ≤ 9999 ∧ p = nI P ∧ q = nI S ∧ z 38 = 1 ∧ r = drvF z P S 39 - z 39 ∧ w = [(h0, .inr (10, [.ref h1, .ref h2, .ref h3, .ref h4, .int pm, .ref h5, .ref h6, .int ty, .ref h7, .int om, .int sp, .int wr])), (h1, .inl (gI g, 113, .inl z)), (h5, .inl (gI g, 113, .inl z))])) := by
  refine Ki.of (by decide) (Nat.le_of_ble_eq_true rfl) (fun X C hI hret => ?_)
  show V g X 0 0 [(h0, .inr (10, [.ref h1, .ref h2, .ref h3, .ref h4, .int pm, .ref h5, .ref h6, .int ty, .ref h7, .int om, .int sp, .int wr])), (h1, .inl (gI g, 113, .inl z)), (h5, .inl (gI g, 113, .inl y))] 0 [(0, .ref h0), (1, .int p), (2, .int q)] []
  refine V_aload_n C 0 dX10_would_0 rfl rfl ?_
  refine V_iload_n C 1 dX10_would_1 rfl rfl ?_
  refine V_iload_n C 2 dX10_would_2 rfl rfl ?_
  refine V_callVi (q0 := 0) (na := 2) (As := [.int p, .int q]) (rest := []) (wr := [(h5, .inl (gI g, 113, .inl y))]) C (c_X10_whyNotDrive g h0 h1 h2 h3 h4 h5 h6 h7 pm ty om sp wr z p q ) ⟨⟨ini_X10, co_X10_whyNotDrive, ⟨by decide, by decide, by decide +kernel⟩, by decide⟩, ml_X10_76, im_X10_whyNotDrive, se_X10_whyNotDrive⟩ [0, 1] [2] rfl rfl rfl rfl (by decide) rfl rfl rfl rfl (Nat.le_of_ble_eq_true rfl) (by omega) (by omega) dX10_would_3 (fun r_1 w_ hw_2 => ?_)
  rcases hw_2 with ⟨hf2_0, rfl, rfl⟩ | ⟨hf2_0, hf2_1, rfl, rfl⟩ | ⟨hf2_0, hf2_1, rfl, rfl⟩
  · refine V_to (ws2 := [(h5, .inl (gI g, 113, .inl y)), (h0, .inr (10, [.ref h1, .ref h2, .ref h3, .ref h4, .int pm, .ref h5, .ref h6, .int ty, .ref h7, .int om, .int sp, .int wr])), (h1, .inl (gI g, 113, .inl z))]) ?_ rfl
    refine V_istore_n (L2 := [(3, .int (-2)), (0, .ref h0), (1, .int p), (2, .int q)]) C dX10_would_6 rfl (by decide) rfl ?_
    refine V_iload_n C 0 dX10_would_7 rfl rfl ?_
    refine V_if_ge (tgt := 13) C dX10_would_8 (by decide) (fun h => absurd h (by decide)) (fun _ => ?_)
    refine V_iload_n C 0 dX10_would_11 rfl rfl ?_
    refine V_perm (ws2 := [(h0, .inr (10, [.ref h1, .ref h2, .ref h3, .ref h4, .int pm, .ref h5, .ref h6, .int ty, .ref h7, .int om, .int sp, .int wr])), (h1, .inl (gI g, 113, .inl z)), (h5, .inl (gI g, 113, .inl y))]) [1, 2, 0] rfl rfl ?_
    refine hret _ _ _ _ dX10_would_12 ?_
    exact Or.inl ⟨hf2_0, rfl, rfl⟩
  · refine V_to (ws2 := [(h5, .inl (gI g, 113, .inl y)), (h0, .inr (10, [.ref h1, .ref h2, .ref h3, .ref h4, .int pm, .ref h5, .ref h6, .int ty, .ref h7, .int om, .int sp, .int wr])), (h1, .inl (gI g, 113, .inl z))]) ?_ rfl
    refine V_istore_n (L2 := [(3, .int (-5)), (0, .ref h0), (1, .int p), (2, .int q)]) C dX10_would_6 rfl (by decide) rfl ?_
    refine V_iload_n C 0 dX10_would_7 rfl rfl ?_
    refine V_if_ge (tgt := 13) C dX10_would_8 (by decide) (fun h => absurd h (by decide)) (fun _ => ?_)
    refine V_iload_n C 0 dX10_would_11 rfl rfl ?_
    refine V_perm (ws2 := [(h0, .inr (10, [.ref h1, .ref h2, .ref h3, .ref h4, .int pm, .ref h5, .ref h6, .int ty, .ref h7, .int om, .int sp, .int wr])), (h1, .inl (gI g, 113, .inl z)), (h5, .inl (gI g, 113, .inl y))]) [1, 2, 0] rfl rfl ?_
    refine hret _ _ _ _ dX10_would_12 ?_
    exact Or.inr (Or.inl ⟨hf2_0, hf2_1, rfl, rfl⟩)
  · refine V_to (ws2 := [(h5, .inl (gI g, 113, .inl y)), (h0, .inr (10, [.ref h1, .ref h2, .ref h3, .ref h4, .int pm, .ref h5, .ref h6, .int ty, .ref h7, .int om, .int sp, .int wr])), (h1, .inl (gI g, 113, .inl z))]) ?_ rfl
    refine V_istore_n (L2 := [(3, .int 0), (0, .ref h0), (1, .int p), (2, .int q)]) C dX10_would_6 rfl (by decide) rfl ?_
    refine V_iload_n C 0 dX10_would_7 rfl rfl ?_
    refine V_if_ge (tgt := 13) C dX10_would_8 (by decide) (fun _ => ?_) (fun h => absurd (by decide) h)
    obtain ⟨P, -, hP, rfl⟩ := rg_nI 0 9999 rfl rfl (by omega) (by omega) hf2_0.1 hf2_0.2.1
    obtain ⟨S, hS1, hS2, rfl⟩ := rg_nI 1 9999 rfl rfl (by omega) (by omega) hf2_0.2.2.1 hf2_0.2.2.2
    refine V_aload_n C 1 dX10_would_13 rfl rfl ?_
    refine V_callVv (q0 := 1) (na := 0) (As := []) (rest := []) (wr := []) C (c_X10_putAside g h0 h1 h2 h3 h4 h5 h6 h7 pm ty om sp wr z y ) ⟨⟨ini_X10, co_X10_putAside, ⟨by decide, by decide, by decide +kernel⟩, by decide⟩, ml_X10_107, im_X10_putAside, se_X10_putAside⟩ [1, 2, 0] [] rfl rfl rfl rfl (by decide) rfl rfl rfl rfl (Nat.le_of_ble_eq_true rfl) (by omega) (by omega) dX10_would_14 (fun w_ hw_4 => ?_)
    obtain rfl := hw_4
    refine V_to (ws2 := [(h0, .inr (10, [.ref h1, .ref h2, .ref h3, .ref h4, .int pm, .ref h5, .ref h6, .int ty, .ref h7, .int om, .int sp, .int wr])), (h1, .inl (gI g, 113, .inl z)), (h5, .inl (gI g, 113, .inl z))]) ?_ rfl
    refine V_aload_n C 1 dX10_would_17 rfl rfl ?_
    refine V_get (v := .ref h1) C 0 rfl rfl in_X10 0 (by decide) fl_X10_7 rfl rfl dX10_would_18 ?_
    refine V_bipush (v := 39) C dX10_would_21 (by decide) ?_
    refine V_iald C 1 rfl (show ix 39 39 113 from ix_nI (k := 39) (by omega) (by omega)) dX10_would_23 ?_
    refine V_istore (L2 := [(4, .int (z 39)), (3, .int 0), (0, .ref h0), (1, .int (nI P)), (2, .int (nI S))]) C dX10_would_24 (by decide) rfl ?_
    refine V_aload_n C 2 dX10_would_26 rfl rfl ?_
    refine V_iload_n C 3 dX10_would_27 rfl rfl ?_
    refine V_iload_n C 4 dX10_would_28 rfl rfl ?_
    refine V_callVi (q0 := 0) (na := 2) (As := [.int (nI P), .int (nI S)]) (rest := []) (wr := [(h5, .inl (gI g, 113, .inl z))]) C (c_X10_driveIt g h0 h1 h2 h3 h4 h5 h6 h7 pm ty om sp wr z P S (show P ≤ 9999 from by first | assumption | omega | exact ix_nI (by omega) (by omega) | decide) (show 1 ≤ S from by first | assumption | omega | exact ix_nI (by omega) (by omega) | decide) (show S ≤ 9999 from by first | assumption | omega | exact ix_nI (by omega) (by omega) | decide) (hd hf2_1)) ⟨⟨ini_X10, co_X10_driveIt, ⟨by decide, by decide, by decide +kernel⟩, by decide⟩, ml_X10_79, im_X10_driveIt, se_X10_driveIt⟩ [0, 1] [2] rfl rfl rfl rfl (by decide) rfl rfl rfl rfl (Nat.le_of_ble_eq_true rfl) (by omega) (by omega) dX10_would_29 (fun r_5 w_ hw_6 => ?_)
    obtain ⟨rfl, rfl⟩ := hw_6
    refine V_to (ws2 := [(h5, .inl (gI g, 113, .inl z)), (h0, .inr (10, [.ref h1, .ref h2, .ref h3, .ref h4, .int pm, .ref h5, .ref h6, .int ty, .ref h7, .int om, .int sp, .int wr])), (h1, .inl (gI g, 113, .inl (drvF z P S)))]) ?_ rfl
    refine V_pop C dX10_would_32 rfl ?_
    refine V_aload_n C 2 dX10_would_33 rfl rfl ?_
    refine V_get (v := .ref h1) C 1 rfl rfl in_X10 0 (by decide) fl_X10_7 rfl rfl dX10_would_34 ?_
    refine V_bipush (v := 39) C dX10_would_37 (by decide) ?_
    refine V_iald C 2 rfl (show ix 39 39 113 from ix_nI (k := 39) (by omega) (by omega)) dX10_would_39 ?_
    refine V_iload C 0 dX10_would_40 rfl ?_
    refine V_isub C dX10_would_42 ?_
    refine V_istore (L2 := [(5, .int (((drvF z P S) 39) - (z 39))), (4, .int (z 39)), (3, .int 0), (0, .ref h0), (1, .int (nI P)), (2, .int (nI S))]) C dX10_would_43 (by decide) rfl ?_
    refine V_aload_n C 3 dX10_would_45 rfl rfl ?_
    refine V_callVv (q0 := 1) (na := 0) (As := []) (rest := []) (wr := []) C (c_X10_bringBack g h0 h1 h2 h3 h4 h5 h6 h7 pm ty om sp wr (drvF z P S) z ) ⟨⟨ini_X10, co_X10_bringBack, ⟨by decide, by decide, by decide +kernel⟩, by decide⟩, ml_X10_110, im_X10_bringBack, se_X10_bringBack⟩ [1, 2, 0] [] rfl rfl rfl rfl (by decide) rfl rfl rfl rfl (Nat.le_of_ble_eq_true rfl) (by omega) (by omega) dX10_would_46 (fun w_ hw_8 => ?_)
    obtain rfl := hw_8
    refine V_to (ws2 := [(h0, .inr (10, [.ref h1, .ref h2, .ref h3, .ref h4, .int pm, .ref h5, .ref h6, .int ty, .ref h7, .int om, .int sp, .int wr])), (h1, .inl (gI g, 113, .inl z)), (h5, .inl (gI g, 113, .inl z))]) ?_ rfl
    refine V_iload C 0 dX10_would_49 rfl ?_
    refine hret _ _ _ _ dX10_would_51 ?_
    exact Or.inr (Or.inr ⟨P, S, hP, hS1, hS2, rfl, rfl, hf2_1, rfl, rfl⟩)
set_option maxRecDepth 100000 in
set_option maxHeartbeats 4000000 in
theorem c_X10_price (g : Gd) (h0 : Nat) (h1 : Nat) (h2 : Nat) (h3 : Nat) (h4 : Nat) (h5 : Nat) (h6 : Nat) (h7 : Nat) (pm : Int32) (ty : Int32) (om : Int32) (sp : Int32) (wr : Int32) (z : Nat → Int32) (y : Nat → Int32) (c : Nat) (p : Int32) (q : Int32) (hc : c < 86400) (hz : z 37 = nI c) (hb : BV z) : Ki g yX10_price cX10_price 4 (some .int) 5 0 0 [.ref h0, .int p, .int q] [(h0, .inr (10, [.ref h1, .ref h2, .ref h3, .ref h4, .int pm, .ref h5, .ref h6, .int ty, .ref h7, .int om, .int sp, .int wr])), (h1, .inl (gI g, 113, .inl z)), (h5, .inl (gI g, 113, .inl y))] (fun (r : Int32) (w : va_W) => (¬ okD p q ∧ r = (-2) ∧ w = [(h0, .inr (10, [.ref h1, .ref h2, .ref h3, .ref h4, .int pm, .ref h5, .ref h6, .int ty, .ref h7, .int om, .int sp, .int wr])), (h1, .inl (gI g, 113, .inl z)), (h5, .inl (gI g, 113, .inl y))]) ∨ (∃ (P : Nat) (S : Nat), P ≤ 9999 ∧ 1 ≤ S ∧ S ≤ 9999 ∧ p = nI P ∧ q = nI S ∧ r = costZ z c P S 39 ∧ w = [(h0, .inr (10, [.ref h1, .ref h2, .ref h3, .ref h4, .int pm, .ref h5, .ref h6, .int ty, .ref h7, .int om, .int sp, .int wr])), (h1, .inl (gI g, 113, .inl z)), (h5, .inl (gI g, 113, .inl z))])) := by
  refine Ki.of (by decide) (Nat.le_of_ble_eq_true rfl) (fun X C hI hret => ?_)
  show V g X 0 0 [(h0, .inr (10, [.ref h1, .ref h2, .ref h3, .ref h4, .int pm, .ref h5, .ref h6, .int ty, .ref h7, .int om, .int sp, .int wr])), (h1, .inl (gI g, 113, .inl z)), (h5, .inl (gI g, 113, .inl y))] 0 [(0, .ref h0), (1, .int p), (2, .int q)] []
  refine V_iload_n C 1 dX10_price_0 rfl rfl ?_
  refine V_iload_n C 2 dX10_price_1 rfl rfl ?_
  refine V_callSi (na := 2) (As := [.int p, .int q]) (rest := []) (wr := [(h0, .inr (10, [.ref h1, .ref h2, .ref h3, .ref h4, .int pm, .ref h5, .ref h6, .int ty, .ref h7, .int om, .int sp, .int wr])), (h1, .inl (gI g, 113, .inl z)), (h5, .inl (gI g, 113, .inl y))]) C (c_X10_isDrive g p q ) ⟨⟨ini_X10, co_X10_isDrive, ⟨by decide, by decide, by decide +kernel⟩, by decide⟩, ml_X10_72, sm_X10_isDrive⟩ [] [0, 1, 2] rfl rfl rfl rfl (by decide) rfl rfl (Nat.le_of_ble_eq_true rfl) (by omega) (by omega) dX10_price_2 (fun r_1 w_ hw_2 => ?_)
  rcases hw_2 with ⟨hf2_0, rfl, rfl⟩ | ⟨hf2_0, rfl, rfl⟩
  · refine V_to (ws2 := [(h0, .inr (10, [.ref h1, .ref h2, .ref h3, .ref h4, .int pm, .ref h5, .ref h6, .int ty, .ref h7, .int om, .int sp, .int wr])), (h1, .inl (gI g, 113, .inl z)), (h5, .inl (gI g, 113, .inl y))]) ?_ rfl
    refine V_if_ne (tgt := 11) C dX10_price_5 (by decide) (fun _ => ?_) (fun h => absurd h (by decide))
    obtain ⟨P, -, hP, rfl⟩ := rg_nI 0 9999 rfl rfl (by omega) (by omega) hf2_0.1 hf2_0.2.1
    obtain ⟨S, hS1, hS2, rfl⟩ := rg_nI 1 9999 rfl rfl (by omega) (by omega) hf2_0.2.2.1 hf2_0.2.2.2
    refine V_aload_n C 0 dX10_price_11 rfl rfl ?_
    refine V_callVv (q0 := 0) (na := 0) (As := []) (rest := []) (wr := []) C (c_X10_putAside g h0 h1 h2 h3 h4 h5 h6 h7 pm ty om sp wr z y ) ⟨⟨ini_X10, co_X10_putAside, ⟨by decide, by decide, by decide +kernel⟩, by decide⟩, ml_X10_107, im_X10_putAside, se_X10_putAside⟩ [0, 1, 2] [] rfl rfl rfl rfl (by decide) rfl rfl rfl rfl (Nat.le_of_ble_eq_true rfl) (by omega) (by omega) dX10_price_12 (fun w_ hw_4 => ?_)
    obtain rfl := hw_4
    refine V_to (ws2 := [(h0, .inr (10, [.ref h1, .ref h2, .ref h3, .ref h4, .int pm, .ref h5, .ref h6, .int ty, .ref h7, .int om, .int sp, .int wr])), (h1, .inl (gI g, 113, .inl z)), (h5, .inl (gI g, 113, .inl z))]) ?_ rfl
    refine V_aload_n C 0 dX10_price_15 rfl rfl ?_
    refine V_aload_n C 0 dX10_price_16 rfl rfl ?_
    refine V_get (v := .ref h1) C 0 rfl rfl in_X10 0 (by decide) fl_X10_7 rfl rfl dX10_price_17 ?_
    refine V_bipush (v := 37) C dX10_price_20 (by decide) ?_
    refine V_iald C 1 rfl (show ix 37 37 113 from ix_nI (k := 37) (by omega) (by omega)) dX10_price_22 ?_
    refine V_ev (show (z 37 : Int32) = nI c from hz) ?_
    refine V_iload_n C 1 dX10_price_23 rfl rfl ?_
    refine V_iload_n C 2 dX10_price_24 rfl rfl ?_
    refine V_callVi (q0 := 0) (na := 3) (As := [.int (nI c), .int (nI P), .int (nI S)]) (rest := []) (wr := [(h5, .inl (gI g, 113, .inl z))]) C (c_X10_costAt g h0 h1 h2 h3 h4 h5 h6 h7 pm ty om sp wr z c P S (show c < 86400 from by first | assumption | omega | exact ix_nI (by omega) (by omega) | decide) (show P ≤ 9999 from by first | assumption | omega | exact ix_nI (by omega) (by omega) | decide) (show 1 ≤ S from by first | assumption | omega | exact ix_nI (by omega) (by omega) | decide) (show S ≤ 9999 from by first | assumption | omega | exact ix_nI (by omega) (by omega) | decide) (show BV z from by first | assumption | omega | exact ix_nI (by omega) (by omega) | decide)) ⟨⟨ini_X10, co_X10_costAt, ⟨by decide, by decide, by decide +kernel⟩, by decide⟩, ml_X10_113, im_X10_costAt, se_X10_costAt⟩ [0, 1] [2] rfl rfl rfl rfl (by decide) rfl rfl rfl rfl (Nat.le_of_ble_eq_true rfl) (by omega) (by omega) dX10_price_25 (fun r_5 w_ hw_6 => ?_)
    obtain ⟨rfl, rfl⟩ := hw_6
    refine V_to (ws2 := [(h5, .inl (gI g, 113, .inl z)), (h0, .inr (10, [.ref h1, .ref h2, .ref h3, .ref h4, .int pm, .ref h5, .ref h6, .int ty, .ref h7, .int om, .int sp, .int wr])), (h1, .inl (gI g, 113, .inl (costZ z c P S)))]) ?_ rfl
    refine V_istore_n (L2 := [(3, .int (costZ z c P S 39)), (0, .ref h0), (1, .int (nI P)), (2, .int (nI S))]) C dX10_price_28 rfl (by decide) rfl ?_
    refine V_aload_n C 1 dX10_price_29 rfl rfl ?_
    refine V_callVv (q0 := 1) (na := 0) (As := []) (rest := []) (wr := []) C (c_X10_bringBack g h0 h1 h2 h3 h4 h5 h6 h7 pm ty om sp wr (costZ z c P S) z ) ⟨⟨ini_X10, co_X10_bringBack, ⟨by decide, by decide, by decide +kernel⟩, by decide⟩, ml_X10_110, im_X10_bringBack, se_X10_bringBack⟩ [1, 2, 0] [] rfl rfl rfl rfl (by decide) rfl rfl rfl rfl (Nat.le_of_ble_eq_true rfl) (by omega) (by omega) dX10_price_30 (fun w_ hw_8 => ?_)
    obtain rfl := hw_8
    refine V_to (ws2 := [(h0, .inr (10, [.ref h1, .ref h2, .ref h3, .ref h4, .int pm, .ref h5, .ref h6, .int ty, .ref h7, .int om, .int sp, .int wr])), (h1, .inl (gI g, 113, .inl z)), (h5, .inl (gI g, 113, .inl z))]) ?_ rfl
    refine V_iload_n C 0 dX10_price_33 rfl rfl ?_
    refine hret _ _ _ _ dX10_price_34 ?_
    exact Or.inr ⟨P, S, hP, hS1, hS2, rfl, rfl, rfl, rfl⟩
  · refine V_to (ws2 := [(h0, .inr (10, [.ref h1, .ref h2, .ref h3, .ref h4, .int pm, .ref h5, .ref h6, .int ty, .ref h7, .int om, .int sp, .int wr])), (h1, .inl (gI g, 113, .inl z)), (h5, .inl (gI g, 113, .inl y))]) ?_ rfl
    refine V_if_ne (tgt := 11) C dX10_price_5 (by decide) (fun h => absurd rfl h) (fun _ => ?_)
    refine V_bipush (v := (-2)) C dX10_price_8 (by decide) ?_
    refine hret _ _ _ _ dX10_price_10 ?_
    exact Or.inl ⟨hf2_0, rfl, rfl⟩
set_option maxRecDepth 100000 in
set_option maxHeartbeats 4000000 in
theorem c_X10_farthest (g : Gd) (h0 : Nat) (h1 : Nat) (h2 : Nat) (h3 : Nat) (h4 : Nat) (h5 : Nat) (h6 : Nat) (h7 : Nat) (pm : Int32) (ty : Int32) (om : Int32) (sp : Int32) (wr : Int32) (z : Nat → Int32) (y : Nat → Int32) (c : Nat) (q : Int32) (co : Int32) (hc : c < 86400) (hz : z 37 = nI c) (hb : BV z) : Ki g yX10_farthest cX10_farthest 7 (some .int) 5 0 0 [.ref h0, .int q, .int co] [(h0, .inr (10, [.ref h1, .ref h2, .ref h3, .ref h4, .int pm, .ref h5, .ref h6, .int ty, .ref h7, .int om, .int sp, .int wr])), (h1, .inl (gI g, 113, .inl z)), (h5, .inl (gI g, 113, .inl y))] (fun (r : Int32) (w : va_W) => (¬ okF q co ∧ r = (-2) ∧ w = [(h0, .inr (10, [.ref h1, .ref h2, .ref h3, .ref h4, .int pm, .ref h5, .ref h6, .int ty, .ref h7, .int om, .int sp, .int wr])), (h1, .inl (gI g, 113, .inl z)), (h5, .inl (gI g, 113, .inl y))]) ∨ (∃ (S : Nat), 1 ≤ S ∧ S ≤ 999 ∧ q = nI S ∧ ¬ co < 0 ∧ r = farR (fun p => costZ z c p S 39) co ∧ w = [(h0, .inr (10, [.ref h1, .ref h2, .ref h3, .ref h4, .int pm, .ref h5, .ref h6, .int ty, .ref h7, .int om, .int sp, .int wr])), (h1, .inl (gI g, 113, .inl z)), (h5, .inl (gI g, 113, .inl z))])) := by
  refine Ki.of (by decide) (Nat.le_of_ble_eq_true rfl) (fun X C hI hret => ?_)
  show V g X 0 0 [(h0, .inr (10, [.ref h1, .ref h2, .ref h3, .ref h4, .int pm, .ref h5, .ref h6, .int ty, .ref h7, .int om, .int sp, .int wr])), (h1, .inl (gI g, 113, .inl z)), (h5, .inl (gI g, 113, .inl y))] 0 [(0, .ref h0), (1, .int q), (2, .int co)] []
  refine V_iload_n C 1 dX10_farthest_0 rfl rfl ?_
  refine V_iconst (v := 1) C dX10_farthest_1 (by decide) ?_
  refine V_sipush (v := 999) C dX10_farthest_2 (by decide) ?_
  refine V_callSi (na := 3) (As := [.int q, .int 1, .int 999]) (rest := []) (wr := [(h0, .inr (10, [.ref h1, .ref h2, .ref h3, .ref h4, .int pm, .ref h5, .ref h6, .int ty, .ref h7, .int om, .int sp, .int wr])), (h1, .inl (gI g, 113, .inl z)), (h5, .inl (gI g, 113, .inl y))]) C (c_X10_in g q 1 999 ) ⟨⟨ini_X10, co_X10_in, ⟨by decide, by decide, by decide +kernel⟩, by decide⟩, ml_X10_33, sm_X10_in⟩ [] [0, 1, 2] rfl rfl rfl rfl (by decide) rfl rfl (Nat.le_of_ble_eq_true rfl) (by omega) (by omega) dX10_farthest_5 (fun r_1 w_ hw_2 => ?_)
  rcases hw_2 with ⟨hf2_0, hf2_1, rfl, rfl⟩ | ⟨hf2_0, rfl, rfl⟩
  · refine V_to (ws2 := [(h0, .inr (10, [.ref h1, .ref h2, .ref h3, .ref h4, .int pm, .ref h5, .ref h6, .int ty, .ref h7, .int om, .int sp, .int wr])), (h1, .inl (gI g, 113, .inl z)), (h5, .inl (gI g, 113, .inl y))]) ?_ rfl
    refine V_if_eq (tgt := 15) C dX10_farthest_8 (by decide) (fun h => absurd h (by decide)) (fun _ => ?_)
    refine V_iload_n C 2 dX10_farthest_11 rfl rfl ?_
    refine V_if_ge (tgt := 18) C dX10_farthest_12 (by decide) (fun c_12 => ?_) (fun c_12 => ?_)
    · obtain ⟨S, hS1, hS2, rfl⟩ := rg_nI 1 999 rfl rfl (by omega) (by omega) hf2_0 hf2_1
      refine V_aload_n C 0 dX10_farthest_18 rfl rfl ?_
      refine V_callVv (q0 := 0) (na := 0) (As := []) (rest := []) (wr := []) C (c_X10_putAside g h0 h1 h2 h3 h4 h5 h6 h7 pm ty om sp wr z y ) ⟨⟨ini_X10, co_X10_putAside, ⟨by decide, by decide, by decide +kernel⟩, by decide⟩, ml_X10_107, im_X10_putAside, se_X10_putAside⟩ [0, 1, 2] [] rfl rfl rfl rfl (by decide) rfl rfl rfl rfl (Nat.le_of_ble_eq_true rfl) (by omega) (by omega) dX10_farthest_19 (fun w_ hw_4 => ?_)
      obtain rfl := hw_4
      refine V_to (ws2 := [(h0, .inr (10, [.ref h1, .ref h2, .ref h3, .ref h4, .int pm, .ref h5, .ref h6, .int ty, .ref h7, .int om, .int sp, .int wr])), (h1, .inl (gI g, 113, .inl z)), (h5, .inl (gI g, 113, .inl z))]) ?_ rfl
      refine V_aload_n C 0 dX10_farthest_22 rfl rfl ?_
      refine V_get (v := .ref h1) C 0 rfl rfl in_X10 0 (by decide) fl_X10_7 rfl rfl dX10_farthest_23 ?_
      refine V_bipush (v := 37) C dX10_farthest_26 (by decide) ?_
      refine V_iald C 1 rfl (show ix 37 37 113 from ix_nI (k := 37) (by omega) (by omega)) dX10_farthest_28 ?_
      refine V_ev (show (z 37 : Int32) = nI c from hz) ?_
      refine V_istore_n (L2 := [(3, .int (nI c)), (0, .ref h0), (1, .int (nI S)), (2, .int co)]) C dX10_farthest_29 rfl (by decide) rfl ?_
      refine V_bipush (v := (-6)) C dX10_farthest_30 (by decide) ?_
      refine V_istore (L2 := [(4, .int (-6)), (3, .int (nI c)), (0, .ref h0), (1, .int (nI S)), (2, .int co)]) C dX10_farthest_32 (by decide) rfl ?_
      refine V_aload_n C 2 dX10_farthest_34 rfl rfl ?_
      refine V_iload_n C 1 dX10_farthest_35 rfl rfl ?_
      refine V_iconst (v := 0) C dX10_farthest_36 (by decide) ?_
      refine V_iload_n C 3 dX10_farthest_37 rfl rfl ?_
      refine V_callVi (q0 := 0) (na := 3) (As := [.int (nI c), .int 0, .int (nI S)]) (rest := []) (wr := [(h5, .inl (gI g, 113, .inl z))]) C (c_X10_costAt g h0 h1 h2 h3 h4 h5 h6 h7 pm ty om sp wr z c 0 S (show c < 86400 from by first | assumption | omega | exact ix_nI (by omega) (by omega) | decide) (show 0 ≤ 9999 from by first | assumption | omega | exact ix_nI (by omega) (by omega) | decide) (show 1 ≤ S from by first | assumption | omega | exact ix_nI (by omega) (by omega) | decide) (show S ≤ 9999 from by first | assumption | omega | exact ix_nI (by omega) (by omega) | decide) (show BV z from by first | assumption | omega | exact ix_nI (by omega) (by omega) | decide)) ⟨⟨ini_X10, co_X10_costAt, ⟨by decide, by decide, by decide +kernel⟩, by decide⟩, ml_X10_113, im_X10_costAt, se_X10_costAt⟩ [0, 1] [2] rfl rfl rfl rfl (by decide) rfl rfl rfl rfl (Nat.le_of_ble_eq_true rfl) (by omega) (by omega) dX10_farthest_38 (fun r_5 w_ hw_6 => ?_)
      obtain ⟨rfl, rfl⟩ := hw_6
      refine V_to (ws2 := [(h5, .inl (gI g, 113, .inl z)), (h0, .inr (10, [.ref h1, .ref h2, .ref h3, .ref h4, .int pm, .ref h5, .ref h6, .int ty, .ref h7, .int om, .int sp, .int wr])), (h1, .inl (gI g, 113, .inl (costZ z c 0 S)))]) ?_ rfl
      refine V_iload_n C 4 dX10_farthest_41 rfl rfl ?_
      refine V_icmp_gt (tgt := 49) C dX10_farthest_42 (by decide) (fun c_42 => ?_) (fun c_42 => ?_)
      · refine V_iconst (v := 0) C dX10_farthest_49 (by decide) ?_
        refine V_istore (L2 := [(5, .int 0), (4, .int (-6)), (3, .int (nI c)), (0, .ref h0), (1, .int (nI S)), (2, .int co)]) C dX10_farthest_50 (by decide) rfl ?_
        refine V_sipush (v := 999) C dX10_farthest_52 (by decide) ?_
        refine V_istore (L2 := [(6, .int 999), (5, .int 0), (4, .int (-6)), (3, .int (nI c)), (0, .ref h0), (1, .int (nI S)), (2, .int co)]) C dX10_farthest_55 (by decide) rfl ?_
        refine V_iload C 0 dX10_farthest_57 rfl ?_
        refine V_if_lt (tgt := 101) C dX10_farthest_59 (by decide) (fun h => absurd h (by decide)) (fun _ => ?_)
        refine V_iload C 2 dX10_farthest_62 rfl ?_
        refine V_bipush (v := (-6)) C dX10_farthest_64 (by decide) ?_
        refine V_icmp_ne (tgt := 101) C dX10_farthest_66 (by decide) (fun h => absurd rfl h) (fun _ => ?_)
        refine V_iload C 1 dX10_farthest_69 rfl ?_
        refine V_if_eq (tgt := 101) C dX10_farthest_71 (by decide) (fun _ => ?_) (fun h => absurd (by decide) h)
        refine V_aload_n C 4 dX10_farthest_101 rfl rfl ?_
        refine V_callVv (q0 := 1) (na := 0) (As := []) (rest := []) (wr := []) C (c_X10_bringBack g h0 h1 h2 h3 h4 h5 h6 h7 pm ty om sp wr (costZ z c 0 S) z ) ⟨⟨ini_X10, co_X10_bringBack, ⟨by decide, by decide, by decide +kernel⟩, by decide⟩, ml_X10_110, im_X10_bringBack, se_X10_bringBack⟩ [1, 2, 0] [] rfl rfl rfl rfl (by decide) rfl rfl rfl rfl (Nat.le_of_ble_eq_true rfl) (by omega) (by omega) dX10_farthest_102 (fun w_ hw_8 => ?_)
        obtain rfl := hw_8
        refine V_to (ws2 := [(h0, .inr (10, [.ref h1, .ref h2, .ref h3, .ref h4, .int pm, .ref h5, .ref h6, .int ty, .ref h7, .int om, .int sp, .int wr])), (h1, .inl (gI g, 113, .inl z)), (h5, .inl (gI g, 113, .inl z))]) ?_ rfl
        refine V_iload C 2 dX10_farthest_105 rfl ?_
        refine hret _ _ _ _ dX10_farthest_107 ?_
        exact Or.inr ⟨S, hS1, hS2, rfl, Int32.not_lt.mpr c_12, by rw [farR, if_pos c_42], rfl⟩
      · refine V_iconst (v := 1) C dX10_farthest_45 (by decide) ?_
        refine V_goto (tgt := 50) C dX10_farthest_46 (by decide) ?_
        refine V_istore (L2 := [(5, .int 1), (4, .int (-6)), (3, .int (nI c)), (0, .ref h0), (1, .int (nI S)), (2, .int co)]) C dX10_farthest_50 (by decide) rfl ?_
        refine V_sipush (v := 999) C dX10_farthest_52 (by decide) ?_
        refine V_istore (L2 := [(6, .int 999), (5, .int 1), (4, .int (-6)), (3, .int (nI c)), (0, .ref h0), (1, .int (nI S)), (2, .int co)]) C dX10_farthest_55 (by decide) rfl ?_
        have loop_57 : ∀ (fu_57 : Nat) (j : Nat) (zz : Nat → Int32), (j ≤ 999) → (BV zz) → (∀ k, k < 36 → z k = zz k) → (farM (fun p => costZ z c p S 39) co 999 = farM (fun p => costZ z c p S 39) co j) → j < fu_57 → V g X 0 0 [(h5, .inl (gI g, 113, .inl z)), (h0, .inr (10, [.ref h1, .ref h2, .ref h3, .ref h4, .int pm, .ref h5, .ref h6, .int ty, .ref h7, .int om, .int sp, .int wr])), (h1, .inl (gI g, 113, .inl zz))] 57 [(0, .ref h0), (1, .int (nI S)), (2, .int co), (3, .int (nI c)), (4, .int (-6)), (5, .int 1), (6, .int (nI j))] [] := by
          intro fu_57
          induction fu_57 with
          | zero => intro j zz hj hbz hlo hfa hm; exact absurd hm (by omega)
          | succ fu_57 ih_57 =>
            intro j zz hj hbz hlo hfa hm
            refine V_iload C 6 dX10_farthest_57 rfl ?_
            refine V_if_lt (tgt := 101) C dX10_farthest_59 (by decide) (fun h => absurd h (nI_pos (by omega))) (fun _ => ?_)
            refine V_iload C 4 dX10_farthest_62 rfl ?_
            refine V_bipush (v := (-6)) C dX10_farthest_64 (by decide) ?_
            refine V_icmp_ne (tgt := 101) C dX10_farthest_66 (by decide) (fun h => absurd rfl h) (fun _ => ?_)
            refine V_iload C 5 dX10_farthest_69 rfl ?_
            refine V_if_eq (tgt := 101) C dX10_farthest_71 (by decide) (fun h => absurd h (by decide)) (fun _ => ?_)
            refine V_aload_n C 0 dX10_farthest_74 rfl rfl ?_
            refine V_iload_n C 3 dX10_farthest_75 rfl rfl ?_
            refine V_iload C 6 dX10_farthest_76 rfl ?_
            refine V_iload_n C 1 dX10_farthest_78 rfl rfl ?_
            refine V_callVi (q0 := 1) (na := 3) (As := [.int (nI c), .int (nI j), .int (nI S)]) (rest := []) (wr := [(h5, .inl (gI g, 113, .inl z))]) C (c_X10_costAt g h0 h1 h2 h3 h4 h5 h6 h7 pm ty om sp wr zz c j S (show c < 86400 from by first | assumption | omega | exact ix_nI (by omega) (by omega) | decide) (show j ≤ 9999 from by first | assumption | omega | exact ix_nI (by omega) (by omega) | decide) (show 1 ≤ S from by first | assumption | omega | exact ix_nI (by omega) (by omega) | decide) (show S ≤ 9999 from by first | assumption | omega | exact ix_nI (by omega) (by omega) | decide) (show BV zz from by first | assumption | omega | exact ix_nI (by omega) (by omega) | decide)) ⟨⟨ini_X10, co_X10_costAt, ⟨by decide, by decide, by decide +kernel⟩, by decide⟩, ml_X10_113, im_X10_costAt, se_X10_costAt⟩ [1, 2] [0] rfl rfl rfl rfl (by decide) rfl rfl rfl rfl (Nat.le_of_ble_eq_true rfl) (by omega) (by omega) dX10_farthest_79 (fun r_9 w_ hw_10 => ?_)
            obtain ⟨rfl, rfl⟩ := hw_10
            refine V_to (ws2 := [(h5, .inl (gI g, 113, .inl z)), (h0, .inr (10, [.ref h1, .ref h2, .ref h3, .ref h4, .int pm, .ref h5, .ref h6, .int ty, .ref h7, .int om, .int sp, .int wr])), (h1, .inl (gI g, 113, .inl (costZ zz c j S)))]) ?_ rfl
            have hcost : costZ zz c j S 39 = costZ z c j S 39 := (cost_congr hb hc hlo).symm
            refine V_iload_n C 2 dX10_farthest_82 rfl rfl ?_
            refine V_icmp_gt (tgt := 91) C dX10_farthest_83 (by decide) (fun c_83 => ?_) (fun c_83 => ?_)
            · refine V_bipush (v := (-6)) C dX10_farthest_91 (by decide) ?_
              refine V_istore (L2 := [(4, .int (-6)), (0, .ref h0), (1, .int (nI S)), (2, .int co), (3, .int (nI c)), (5, .int 1), (6, .int (nI j))]) C dX10_farthest_93 (by decide) rfl ?_
              by_cases hj1 : 1 ≤ j
              · refine V_iinc (v := nI (j - 1)) (L2 := [(6, .int (nI (j - 1))), (4, .int (-6)), (0, .ref h0), (1, .int (nI S)), (2, .int co), (3, .int (nI c)), (5, .int 1)]) C 6 dX10_farthest_95 rfl (nI_m1 hj1) (by decide) rfl ?_
                refine V_goto (tgt := 57) C dX10_farthest_98 (by decide) ?_
                refine V_locs (L2 := [(0, .ref h0), (1, .int (nI S)), (2, .int co), (3, .int (nI c)), (4, .int (-6)), (5, .int 1), (6, .int (nI (j - 1)))]) [2, 3, 4, 5, 1, 6, 0] rfl ?_
                exact ih_57 (j - 1) (costZ zz c j S) (show (j - 1) ≤ 999 from by first | assumption | omega | rfl) (costZ_BV hbz hc) (fun k hk => by rw [costZ_low hbz hc hk]; exact hlo k hk) (by rw [hfa]; exact farM_up hcost c_83 hj1) (by omega)
              · have hj0 : j = 0 := by omega
                subst hj0
                refine V_iinc (v := (-1)) (L2 := [(6, .int (-1)), (4, .int (-6)), (0, .ref h0), (1, .int (nI S)), (2, .int co), (3, .int (nI c)), (5, .int 1)]) C 6 dX10_farthest_95 rfl (by decide) (by decide) rfl ?_
                refine V_goto (tgt := 57) C dX10_farthest_98 (by decide) ?_
                have hres : farM (fun p => costZ z c p S 39) co 999 = -6 := by rw [hfa]; exact farM_0 hcost c_83
                refine V_iload C 0 dX10_farthest_57 rfl ?_
                refine V_if_lt (tgt := 101) C dX10_farthest_59 (by decide) (fun _ => ?_) (fun h => absurd (by decide) h)
                refine V_aload_n C 2 dX10_farthest_101 rfl rfl ?_
                refine V_callVv (q0 := 1) (na := 0) (As := []) (rest := []) (wr := []) C (c_X10_bringBack g h0 h1 h2 h3 h4 h5 h6 h7 pm ty om sp wr (costZ zz c 0 S) z ) ⟨⟨ini_X10, co_X10_bringBack, ⟨by decide, by decide, by decide +kernel⟩, by decide⟩, ml_X10_110, im_X10_bringBack, se_X10_bringBack⟩ [1, 2, 0] [] rfl rfl rfl rfl (by decide) rfl rfl rfl rfl (Nat.le_of_ble_eq_true rfl) (by omega) (by omega) dX10_farthest_102 (fun w_ hw_12 => ?_)
                obtain rfl := hw_12
                refine V_to (ws2 := [(h0, .inr (10, [.ref h1, .ref h2, .ref h3, .ref h4, .int pm, .ref h5, .ref h6, .int ty, .ref h7, .int om, .int sp, .int wr])), (h1, .inl (gI g, 113, .inl z)), (h5, .inl (gI g, 113, .inl z))]) ?_ rfl
                refine V_iload C 1 dX10_farthest_105 rfl ?_
                refine hret _ _ _ _ dX10_farthest_107 ?_
                exact Or.inr ⟨S, hS1, hS2, rfl, Int32.not_lt.mpr c_12, by rw [farR, if_neg c_42, hres], rfl⟩
            · refine V_iload C 6 dX10_farthest_86 rfl ?_
              refine V_goto (tgt := 93) C dX10_farthest_88 (by decide) ?_
              refine V_istore (L2 := [(4, .int (nI j)), (0, .ref h0), (1, .int (nI S)), (2, .int co), (3, .int (nI c)), (5, .int 1), (6, .int (nI j))]) C dX10_farthest_93 (by decide) rfl ?_
              have hres : farM (fun p => costZ z c p S 39) co 999 = nI j := by rw [hfa]; exact farM_found hcost c_83
              refine V_iinc (v := nI j + Int32.ofInt (-1)) (L2 := [(6, .int (nI j + Int32.ofInt (-1))), (4, .int (nI j)), (0, .ref h0), (1, .int (nI S)), (2, .int co), (3, .int (nI c)), (5, .int 1)]) C 6 dX10_farthest_95 rfl rfl (by decide) rfl ?_
              refine V_goto (tgt := 57) C dX10_farthest_98 (by decide) ?_
              refine V_iload C 0 dX10_farthest_57 rfl ?_
              refine V_if_lt (tgt := 101) C dX10_farthest_59 (by decide) (fun c_59 => ?_) (fun c_59 => ?_)
              · refine V_aload_n C 2 dX10_farthest_101 rfl rfl ?_
                refine V_callVv (q0 := 1) (na := 0) (As := []) (rest := []) (wr := []) C (c_X10_bringBack g h0 h1 h2 h3 h4 h5 h6 h7 pm ty om sp wr (costZ zz c j S) z ) ⟨⟨ini_X10, co_X10_bringBack, ⟨by decide, by decide, by decide +kernel⟩, by decide⟩, ml_X10_110, im_X10_bringBack, se_X10_bringBack⟩ [1, 2, 0] [] rfl rfl rfl rfl (by decide) rfl rfl rfl rfl (Nat.le_of_ble_eq_true rfl) (by omega) (by omega) dX10_farthest_102 (fun w_ hw_14 => ?_)
                obtain rfl := hw_14
                refine V_to (ws2 := [(h0, .inr (10, [.ref h1, .ref h2, .ref h3, .ref h4, .int pm, .ref h5, .ref h6, .int ty, .ref h7, .int om, .int sp, .int wr])), (h1, .inl (gI g, 113, .inl z)), (h5, .inl (gI g, 113, .inl z))]) ?_ rfl
                refine V_iload C 1 dX10_farthest_105 rfl ?_
                refine hret _ _ _ _ dX10_farthest_107 ?_
                exact Or.inr ⟨S, hS1, hS2, rfl, Int32.not_lt.mpr c_12, by rw [farR, if_neg c_42, hres], rfl⟩
              · refine V_iload C 1 dX10_farthest_62 rfl ?_
                refine V_bipush (v := (-6)) C dX10_farthest_64 (by decide) ?_
                refine V_icmp_ne (tgt := 101) C dX10_farthest_66 (by decide) (fun _ => ?_) (fun h => absurd h (nI_ne6 (by omega)))
                refine V_aload_n C 2 dX10_farthest_101 rfl rfl ?_
                refine V_callVv (q0 := 1) (na := 0) (As := []) (rest := []) (wr := []) C (c_X10_bringBack g h0 h1 h2 h3 h4 h5 h6 h7 pm ty om sp wr (costZ zz c j S) z ) ⟨⟨ini_X10, co_X10_bringBack, ⟨by decide, by decide, by decide +kernel⟩, by decide⟩, ml_X10_110, im_X10_bringBack, se_X10_bringBack⟩ [1, 2, 0] [] rfl rfl rfl rfl (by decide) rfl rfl rfl rfl (Nat.le_of_ble_eq_true rfl) (by omega) (by omega) dX10_farthest_102 (fun w_ hw_16 => ?_)
                obtain rfl := hw_16
                refine V_to (ws2 := [(h0, .inr (10, [.ref h1, .ref h2, .ref h3, .ref h4, .int pm, .ref h5, .ref h6, .int ty, .ref h7, .int om, .int sp, .int wr])), (h1, .inl (gI g, 113, .inl z)), (h5, .inl (gI g, 113, .inl z))]) ?_ rfl
                refine V_iload C 1 dX10_farthest_105 rfl ?_
                refine hret _ _ _ _ dX10_farthest_107 ?_
                exact Or.inr ⟨S, hS1, hS2, rfl, Int32.not_lt.mpr c_12, by rw [farR, if_neg c_42, hres], rfl⟩
        refine V_locs (L2 := [(0, .ref h0), (1, .int (nI S)), (2, .int co), (3, .int (nI c)), (4, .int (-6)), (5, .int 1), (6, .int 999)]) [4, 5, 6, 3, 2, 1, 0] rfl ?_
        exact loop_57 (999 + 1) 999 (costZ z c 0 S) (show 999 ≤ 999 from by first | assumption | omega | rfl) (costZ_BV hb hc) (fun k hk => (costZ_low hb hc hk).symm) rfl (by omega)
    · refine V_bipush (v := (-2)) C dX10_farthest_15 (by decide) ?_
      refine hret _ _ _ _ dX10_farthest_17 ?_
      exact Or.inl ⟨fun h => c_12 (Int32.not_lt.mp h.2.2), rfl, rfl⟩
  · refine V_to (ws2 := [(h0, .inr (10, [.ref h1, .ref h2, .ref h3, .ref h4, .int pm, .ref h5, .ref h6, .int ty, .ref h7, .int om, .int sp, .int wr])), (h1, .inl (gI g, 113, .inl z)), (h5, .inl (gI g, 113, .inl y))]) ?_ rfl
    refine V_if_eq (tgt := 15) C dX10_farthest_8 (by decide) (fun _ => ?_) (fun h => absurd (by decide) h)
    refine V_bipush (v := (-2)) C dX10_farthest_15 (by decide) ?_
    refine hret _ _ _ _ dX10_farthest_17 ?_
    exact Or.inl ⟨fun h => (hf2_0).elim h.1 h.2.1, rfl, rfl⟩
set_option maxRecDepth 100000 in
set_option maxHeartbeats 4000000 in
theorem c_X10_cheapest (g : Gd) (h0 : Nat) (h1 : Nat) (h2 : Nat) (h3 : Nat) (h4 : Nat) (h5 : Nat) (h6 : Nat) (h7 : Nat) (pm : Int32) (ty : Int32) (om : Int32) (sp : Int32) (wr : Int32) (z : Nat → Int32) (y : Nat → Int32) (p : Int32) (q : Int32) (ww : Int32) (hb : BV z) : Ki g yX10_cheapest cX10_cheapest 9 (some .int) 5 0 0 [.ref h0, .int p, .int q, .int ww] [(h0, .inr (10, [.ref h1, .ref h2, .ref h3, .ref h4, .int pm, .ref h5, .ref h6, .int ty, .ref h7, .int om, .int sp, .int wr])), (h1, .inl (gI g, 113, .inl z)), (h5, .inl (gI g, 113, .inl y))] (fun (r : Int32) (w : va_W) => (¬ okD p q ∧ r = (-2) ∧ w = [(h0, .inr (10, [.ref h1, .ref h2, .ref h3, .ref h4, .int pm, .ref h5, .ref h6, .int ty, .ref h7, .int om, .int sp, .int wr])), (h1, .inl (gI g, 113, .inl z)), (h5, .inl (gI g, 113, .inl y))]) ∨ (okD p q ∧ ¬ ok1 ww ∧ r = (-2) ∧ w = [(h0, .inr (10, [.ref h1, .ref h2, .ref h3, .ref h4, .int pm, .ref h5, .ref h6, .int ty, .ref h7, .int om, .int sp, .int wr])), (h1, .inl (gI g, 113, .inl z)), (h5, .inl (gI g, 113, .inl y))]) ∨ (∃ (P : Nat) (S : Nat), P ≤ 9999 ∧ 1 ≤ S ∧ S ≤ 9999 ∧ p = nI P ∧ q = nI S ∧ ww = 0 ∧ r = (chp (fun h => costZ z (3600 * h) P S 39) 24).1 ∧ w = [(h0, .inr (10, [.ref h1, .ref h2, .ref h3, .ref h4, .int pm, .ref h5, .ref h6, .int ty, .ref h7, .int om, .int sp, .int wr])), (h1, .inl (gI g, 113, .inl z)), (h5, .inl (gI g, 113, .inl z))]) ∨ (∃ (P : Nat) (S : Nat), P ≤ 9999 ∧ 1 ≤ S ∧ S ≤ 9999 ∧ p = nI P ∧ q = nI S ∧ ww = 1 ∧ r = (chp (fun h => costZ z (3600 * h) P S 39) 24).2 ∧ w = [(h0, .inr (10, [.ref h1, .ref h2, .ref h3, .ref h4, .int pm, .ref h5, .ref h6, .int ty, .ref h7, .int om, .int sp, .int wr])), (h1, .inl (gI g, 113, .inl z)), (h5, .inl (gI g, 113, .inl z))])) := by
  refine Ki.of (by decide) (Nat.le_of_ble_eq_true rfl) (fun X C hI hret => ?_)
  show V g X 0 0 [(h0, .inr (10, [.ref h1, .ref h2, .ref h3, .ref h4, .int pm, .ref h5, .ref h6, .int ty, .ref h7, .int om, .int sp, .int wr])), (h1, .inl (gI g, 113, .inl z)), (h5, .inl (gI g, 113, .inl y))] 0 [(0, .ref h0), (1, .int p), (2, .int q), (3, .int ww)] []
  refine V_iload_n C 1 dX10_cheapest_0 rfl rfl ?_
  refine V_iload_n C 2 dX10_cheapest_1 rfl rfl ?_
  refine V_callSi (na := 2) (As := [.int p, .int q]) (rest := []) (wr := [(h0, .inr (10, [.ref h1, .ref h2, .ref h3, .ref h4, .int pm, .ref h5, .ref h6, .int ty, .ref h7, .int om, .int sp, .int wr])), (h1, .inl (gI g, 113, .inl z)), (h5, .inl (gI g, 113, .inl y))]) C (c_X10_isDrive g p q ) ⟨⟨ini_X10, co_X10_isDrive, ⟨by decide, by decide, by decide +kernel⟩, by decide⟩, ml_X10_72, sm_X10_isDrive⟩ [] [0, 1, 2] rfl rfl rfl rfl (by decide) rfl rfl (Nat.le_of_ble_eq_true rfl) (by omega) (by omega) dX10_cheapest_2 (fun r_1 w_ hw_2 => ?_)
  rcases hw_2 with ⟨hf2_0, rfl, rfl⟩ | ⟨hf2_0, rfl, rfl⟩
  · refine V_to (ws2 := [(h0, .inr (10, [.ref h1, .ref h2, .ref h3, .ref h4, .int pm, .ref h5, .ref h6, .int ty, .ref h7, .int om, .int sp, .int wr])), (h1, .inl (gI g, 113, .inl z)), (h5, .inl (gI g, 113, .inl y))]) ?_ rfl
    refine V_if_eq (tgt := 17) C dX10_cheapest_5 (by decide) (fun h => absurd h (by decide)) (fun _ => ?_)
    refine V_iload_n C 3 dX10_cheapest_8 rfl rfl ?_
    refine V_iconst (v := 0) C dX10_cheapest_9 (by decide) ?_
    refine V_iconst (v := 1) C dX10_cheapest_10 (by decide) ?_
    refine V_callSi (na := 3) (As := [.int ww, .int 0, .int 1]) (rest := []) (wr := [(h0, .inr (10, [.ref h1, .ref h2, .ref h3, .ref h4, .int pm, .ref h5, .ref h6, .int ty, .ref h7, .int om, .int sp, .int wr])), (h1, .inl (gI g, 113, .inl z)), (h5, .inl (gI g, 113, .inl y))]) C (c_X10_in g ww 0 1 ) ⟨⟨ini_X10, co_X10_in, ⟨by decide, by decide, by decide +kernel⟩, by decide⟩, ml_X10_33, sm_X10_in⟩ [] [0, 1, 2] rfl rfl rfl rfl (by decide) rfl rfl (Nat.le_of_ble_eq_true rfl) (by omega) (by omega) dX10_cheapest_11 (fun r_3 w_ hw_4 => ?_)
    rcases hw_4 with ⟨hf4_0, hf4_1, rfl, rfl⟩ | ⟨hf4_0, rfl, rfl⟩
    · refine V_to (ws2 := [(h0, .inr (10, [.ref h1, .ref h2, .ref h3, .ref h4, .int pm, .ref h5, .ref h6, .int ty, .ref h7, .int om, .int sp, .int wr])), (h1, .inl (gI g, 113, .inl z)), (h5, .inl (gI g, 113, .inl y))]) ?_ rfl
      refine V_if_ne (tgt := 20) C dX10_cheapest_14 (by decide) (fun _ => ?_) (fun h => absurd h (by decide))
      obtain ⟨P, -, hP, rfl⟩ := rg_nI 0 9999 rfl rfl (by omega) (by omega) hf2_0.1 hf2_0.2.1
      obtain ⟨S, hS1, hS2, rfl⟩ := rg_nI 1 9999 rfl rfl (by omega) (by omega) hf2_0.2.2.1 hf2_0.2.2.2
      refine V_aload_n C 0 dX10_cheapest_20 rfl rfl ?_
      refine V_callVv (q0 := 0) (na := 0) (As := []) (rest := []) (wr := []) C (c_X10_putAside g h0 h1 h2 h3 h4 h5 h6 h7 pm ty om sp wr z y ) ⟨⟨ini_X10, co_X10_putAside, ⟨by decide, by decide, by decide +kernel⟩, by decide⟩, ml_X10_107, im_X10_putAside, se_X10_putAside⟩ [0, 1, 2] [] rfl rfl rfl rfl (by decide) rfl rfl rfl rfl (Nat.le_of_ble_eq_true rfl) (by omega) (by omega) dX10_cheapest_21 (fun w_ hw_6 => ?_)
      obtain rfl := hw_6
      refine V_to (ws2 := [(h0, .inr (10, [.ref h1, .ref h2, .ref h3, .ref h4, .int pm, .ref h5, .ref h6, .int ty, .ref h7, .int om, .int sp, .int wr])), (h1, .inl (gI g, 113, .inl z)), (h5, .inl (gI g, 113, .inl z))]) ?_ rfl
      refine V_iconst (v := 0) C dX10_cheapest_24 (by decide) ?_
      refine V_istore (L2 := [(4, .int 0), (0, .ref h0), (1, .int (nI P)), (2, .int (nI S)), (3, .int ww)]) C dX10_cheapest_25 (by decide) rfl ?_
      refine V_bipush (v := (-6)) C dX10_cheapest_27 (by decide) ?_
      refine V_istore (L2 := [(5, .int (-6)), (4, .int 0), (0, .ref h0), (1, .int (nI P)), (2, .int (nI S)), (3, .int ww)]) C dX10_cheapest_29 (by decide) rfl ?_
      refine V_iconst (v := 0) C dX10_cheapest_31 (by decide) ?_
      refine V_istore (L2 := [(6, .int 0), (5, .int (-6)), (4, .int 0), (0, .ref h0), (1, .int (nI P)), (2, .int (nI S)), (3, .int ww)]) C dX10_cheapest_32 (by decide) rfl ?_
      have loop_34 : ∀ (fu_34 : Nat) (j : Nat) (be : Int32) (le : Int32) (zz : Nat → Int32), (j ≤ 24) → (BV zz) → (∀ k, k < 36 → z k = zz k) → (be = (chp (fun h => costZ z (3600 * h) P S 39) j).1) → (le = (chp (fun h => costZ z (3600 * h) P S 39) j).2) → 24 - j < fu_34 → V g X 0 0 [(h0, .inr (10, [.ref h1, .ref h2, .ref h3, .ref h4, .int pm, .ref h5, .ref h6, .int ty, .ref h7, .int om, .int sp, .int wr])), (h1, .inl (gI g, 113, .inl zz)), (h5, .inl (gI g, 113, .inl z))] 34 [(0, .ref h0), (1, .int (nI P)), (2, .int (nI S)), (3, .int ww), (4, .int be), (5, .int le), (6, .int (nI j))] [] := by
        intro fu_34
        induction fu_34 with
        | zero => intro j be le zz hj hbz hlo hbe hle hm; exact absurd hm (by omega)
        | succ fu_34 ih_34 =>
          intro j be le zz hj hbz hlo hbe hle hm
          refine V_iload C 6 dX10_cheapest_34 rfl ?_
          refine V_bipush (v := 24) C dX10_cheapest_36 (by decide) ?_
          refine V_icmp_ge (tgt := 108) C dX10_cheapest_38 (by decide) (fun c_38 => ?_) (fun c_38 => ?_)
          · have hj2 : j = 24 := by have := lp_ge 24 rfl (by omega) (by omega) c_38; omega
            refine V_aload_n C 0 dX10_cheapest_108 rfl rfl ?_
            refine V_callVv (q0 := 0) (na := 0) (As := []) (rest := []) (wr := []) C (c_X10_bringBack g h0 h1 h2 h3 h4 h5 h6 h7 pm ty om sp wr zz z ) ⟨⟨ini_X10, co_X10_bringBack, ⟨by decide, by decide, by decide +kernel⟩, by decide⟩, ml_X10_110, im_X10_bringBack, se_X10_bringBack⟩ [0, 1, 2] [] rfl rfl rfl rfl (by decide) rfl rfl rfl rfl (Nat.le_of_ble_eq_true rfl) (by omega) (by omega) dX10_cheapest_109 (fun w_ hw_8 => ?_)
            obtain rfl := hw_8
            refine V_to (ws2 := [(h0, .inr (10, [.ref h1, .ref h2, .ref h3, .ref h4, .int pm, .ref h5, .ref h6, .int ty, .ref h7, .int om, .int sp, .int wr])), (h1, .inl (gI g, 113, .inl z)), (h5, .inl (gI g, 113, .inl z))]) ?_ rfl
            refine V_iload_n C 3 dX10_cheapest_112 rfl rfl ?_
            refine V_if_ne (tgt := 121) C dX10_cheapest_113 (by decide) (fun c_113 => ?_) (fun c_113 => ?_)
            · refine V_iload C 5 dX10_cheapest_121 rfl ?_
              refine hret _ _ _ _ dX10_cheapest_123 ?_
              exact Or.inr (Or.inr (Or.inr ⟨P, S, hP, hS1, hS2, rfl, rfl, ok1_1 ⟨hf4_0, hf4_1⟩ c_113, by rw [← hj2]; exact hle, rfl⟩))
            · refine V_iload C 4 dX10_cheapest_116 rfl ?_
              refine V_goto (tgt := 123) C dX10_cheapest_118 (by decide) ?_
              refine hret _ _ _ _ dX10_cheapest_123 ?_
              exact Or.inr (Or.inr (Or.inl ⟨P, S, hP, hS1, hS2, rfl, rfl, c_113, by rw [← hj2]; exact hbe, rfl⟩))
          · have hj2 : j < 24 := lp_lt 24 rfl (by omega) (by omega) c_38
            refine V_aload_n C 0 dX10_cheapest_41 rfl rfl ?_
            refine V_sipush (v := 3600) C dX10_cheapest_42 (by decide) ?_
            refine V_iload C 6 dX10_cheapest_45 rfl ?_
            refine V_imul C dX10_cheapest_47 ?_
            refine V_ev (show (3600 * (nI j) : Int32) = nI (3600 * j) from pk_mul 3600 j) ?_
            refine V_iload_n C 1 dX10_cheapest_48 rfl rfl ?_
            refine V_iload_n C 2 dX10_cheapest_49 rfl rfl ?_
            refine V_callVi (q0 := 0) (na := 3) (As := [.int (nI (3600 * j)), .int (nI P), .int (nI S)]) (rest := []) (wr := [(h5, .inl (gI g, 113, .inl z))]) C (c_X10_costAt g h0 h1 h2 h3 h4 h5 h6 h7 pm ty om sp wr zz (3600 * j) P S (show (3600 * j) < 86400 from by first | assumption | omega | exact ix_nI (by omega) (by omega) | decide) (show P ≤ 9999 from by first | assumption | omega | exact ix_nI (by omega) (by omega) | decide) (show 1 ≤ S from by first | assumption | omega | exact ix_nI (by omega) (by omega) | decide) (show S ≤ 9999 from by first | assumption | omega | exact ix_nI (by omega) (by omega) | decide) (show BV zz from by first | assumption | omega | exact ix_nI (by omega) (by omega) | decide)) ⟨⟨ini_X10, co_X10_costAt, ⟨by decide, by decide, by decide +kernel⟩, by decide⟩, ml_X10_113, im_X10_costAt, se_X10_costAt⟩ [0, 1] [2] rfl rfl rfl rfl (by decide) rfl rfl rfl rfl (Nat.le_of_ble_eq_true rfl) (by omega) (by omega) dX10_cheapest_50 (fun r_9 w_ hw_10 => ?_)
            obtain ⟨rfl, rfl⟩ := hw_10
            refine V_to (ws2 := [(h5, .inl (gI g, 113, .inl z)), (h0, .inr (10, [.ref h1, .ref h2, .ref h3, .ref h4, .int pm, .ref h5, .ref h6, .int ty, .ref h7, .int om, .int sp, .int wr])), (h1, .inl (gI g, 113, .inl (costZ zz (3600 * j) P S)))]) ?_ rfl
            refine V_istore (L2 := [(7, .int (costZ zz (3600 * j) P S 39)), (0, .ref h0), (1, .int (nI P)), (2, .int (nI S)), (3, .int ww), (4, .int be), (5, .int le), (6, .int (nI j))]) C dX10_cheapest_53 (by decide) rfl ?_
            have hcost : costZ zz (3600 * j) P S 39 = costZ z (3600 * j) P S 39 := (cost_congr hb (by omega) hlo).symm
            refine V_iload C 7 dX10_cheapest_55 rfl ?_
            refine V_if_eq (tgt := 67) C dX10_cheapest_57 (by decide) (fun c_57 => ?_) (fun c_57 => ?_)
            · have hj0 : j = 0 := (nI_eq (b := 0) (by omega) (by omega)).mp c_57
              refine V_iconst (v := 1) C dX10_cheapest_67 (by decide) ?_
              refine V_goto (tgt := 72) C dX10_cheapest_68 (by decide) ?_
              refine V_istore (L2 := [(8, .int 1), (7, .int (costZ zz (3600 * j) P S 39)), (0, .ref h0), (1, .int (nI P)), (2, .int (nI S)), (3, .int ww), (4, .int be), (5, .int le), (6, .int (nI j))]) C dX10_cheapest_72 (by decide) rfl ?_
              refine V_iload C 0 dX10_cheapest_74 rfl ?_
              refine V_if_eq (tgt := 84) C dX10_cheapest_76 (by decide) (fun h => absurd h (by decide)) (fun _ => ?_)
              refine V_iload C 8 dX10_cheapest_79 rfl ?_
              refine V_goto (tgt := 86) C dX10_cheapest_81 (by decide) ?_
              refine V_istore (L2 := [(4, .int (nI j)), (8, .int 1), (7, .int (costZ zz (3600 * j) P S 39)), (0, .ref h0), (1, .int (nI P)), (2, .int (nI S)), (3, .int ww), (5, .int le), (6, .int (nI j))]) C dX10_cheapest_86 (by decide) rfl ?_
              refine V_iload C 1 dX10_cheapest_88 rfl ?_
              refine V_if_eq (tgt := 98) C dX10_cheapest_90 (by decide) (fun h => absurd h (by decide)) (fun _ => ?_)
              refine V_iload C 2 dX10_cheapest_93 rfl ?_
              refine V_goto (tgt := 100) C dX10_cheapest_95 (by decide) ?_
              refine V_istore (L2 := [(5, .int (costZ zz (3600 * j) P S 39)), (4, .int (nI j)), (8, .int 1), (7, .int (costZ zz (3600 * j) P S 39)), (0, .ref h0), (1, .int (nI P)), (2, .int (nI S)), (3, .int ww), (6, .int (nI j))]) C dX10_cheapest_100 (by decide) rfl ?_
              refine V_iinc (v := nI (j + 1)) (L2 := [(6, .int (nI (j + 1))), (5, .int (costZ zz (3600 * j) P S 39)), (4, .int (nI j)), (8, .int 1), (7, .int (costZ zz (3600 * j) P S 39)), (0, .ref h0), (1, .int (nI P)), (2, .int (nI S)), (3, .int ww)]) C 8 dX10_cheapest_102 rfl (nI_add j 1) (by decide) rfl ?_
              refine V_goto (tgt := 34) C dX10_cheapest_105 (by decide) ?_
              refine V_perm (ws2 := [(h0, .inr (10, [.ref h1, .ref h2, .ref h3, .ref h4, .int pm, .ref h5, .ref h6, .int ty, .ref h7, .int om, .int sp, .int wr])), (h1, .inl (gI g, 113, .inl (costZ zz (3600 * j) P S))), (h5, .inl (gI g, 113, .inl z))]) [1, 2, 0] rfl rfl ?_
              refine V_locs (L2 := [(0, .ref h0), (1, .int (nI P)), (2, .int (nI S)), (3, .int ww), (4, .int (nI j)), (5, .int (costZ zz (3600 * j) P S 39)), (6, .int (nI (j + 1)))]) [5, 6, 7, 8, 2, 1, 0] rfl ?_
              exact ih_34 (j + 1) (nI j) (costZ zz (3600 * j) P S 39) (costZ zz (3600 * j) P S) (show (j + 1) ≤ 24 from by first | assumption | omega | rfl) (costZ_BV hbz (by omega)) (fun k hk => by rw [costZ_low hbz (by omega) hk]; exact hlo k hk) (by rw [chp, if_pos (Or.inl hj0)]) (by rw [chp, if_pos (Or.inl hj0)]; exact hcost) (by omega)
            · have hj0 : ¬ j = 0 := fun q => c_57 (by rw [q]; rfl)
              refine V_iload C 0 dX10_cheapest_60 rfl ?_
              refine V_iload C 6 dX10_cheapest_62 rfl ?_
              refine V_icmp_ge (tgt := 71) C dX10_cheapest_64 (by decide) (fun c_64 => ?_) (fun c_64 => ?_)
              · refine V_iconst (v := 0) C dX10_cheapest_71 (by decide) ?_
                refine V_istore (L2 := [(8, .int 0), (7, .int (costZ zz (3600 * j) P S 39)), (0, .ref h0), (1, .int (nI P)), (2, .int (nI S)), (3, .int ww), (4, .int be), (5, .int le), (6, .int (nI j))]) C dX10_cheapest_72 (by decide) rfl ?_
                refine V_iload C 0 dX10_cheapest_74 rfl ?_
                refine V_if_eq (tgt := 84) C dX10_cheapest_76 (by decide) (fun _ => ?_) (fun h => absurd (by decide) h)
                refine V_iload C 6 dX10_cheapest_84 rfl ?_
                refine V_istore (L2 := [(4, .int be), (8, .int 0), (7, .int (costZ zz (3600 * j) P S 39)), (0, .ref h0), (1, .int (nI P)), (2, .int (nI S)), (3, .int ww), (5, .int le), (6, .int (nI j))]) C dX10_cheapest_86 (by decide) rfl ?_
                refine V_iload C 1 dX10_cheapest_88 rfl ?_
                refine V_if_eq (tgt := 98) C dX10_cheapest_90 (by decide) (fun _ => ?_) (fun h => absurd (by decide) h)
                refine V_iload C 7 dX10_cheapest_98 rfl ?_
                refine V_istore (L2 := [(5, .int le), (4, .int be), (8, .int 0), (7, .int (costZ zz (3600 * j) P S 39)), (0, .ref h0), (1, .int (nI P)), (2, .int (nI S)), (3, .int ww), (6, .int (nI j))]) C dX10_cheapest_100 (by decide) rfl ?_
                refine V_iinc (v := nI (j + 1)) (L2 := [(6, .int (nI (j + 1))), (5, .int le), (4, .int be), (8, .int 0), (7, .int (costZ zz (3600 * j) P S 39)), (0, .ref h0), (1, .int (nI P)), (2, .int (nI S)), (3, .int ww)]) C 8 dX10_cheapest_102 rfl (nI_add j 1) (by decide) rfl ?_
                refine V_goto (tgt := 34) C dX10_cheapest_105 (by decide) ?_
                refine V_perm (ws2 := [(h0, .inr (10, [.ref h1, .ref h2, .ref h3, .ref h4, .int pm, .ref h5, .ref h6, .int ty, .ref h7, .int om, .int sp, .int wr])), (h1, .inl (gI g, 113, .inl (costZ zz (3600 * j) P S))), (h5, .inl (gI g, 113, .inl z))]) [1, 2, 0] rfl rfl ?_
                refine V_locs (L2 := [(0, .ref h0), (1, .int (nI P)), (2, .int (nI S)), (3, .int ww), (4, .int be), (5, .int le), (6, .int (nI (j + 1)))]) [5, 6, 7, 8, 2, 1, 0] rfl ?_
                exact ih_34 (j + 1) be le (costZ zz (3600 * j) P S) (show (j + 1) ≤ 24 from by first | assumption | omega | rfl) (costZ_BV hbz (by omega)) (fun k hk => by rw [costZ_low hbz (by omega) hk]; exact hlo k hk) (by rw [chp, if_neg (fun h => h.elim hj0 (fun h => by rw [← hcost, ← hle] at h; exact absurd h (Int32.not_lt.mpr c_64)))]; exact hbe) (by rw [chp, if_neg (fun h => h.elim hj0 (fun h => by rw [← hcost, ← hle] at h; exact absurd h (Int32.not_lt.mpr c_64)))]; exact hle) (by omega)
              · have hlt := Int32.not_le.mp c_64
                refine V_iconst (v := 1) C dX10_cheapest_67 (by decide) ?_
                refine V_goto (tgt := 72) C dX10_cheapest_68 (by decide) ?_
                refine V_istore (L2 := [(8, .int 1), (7, .int (costZ zz (3600 * j) P S 39)), (0, .ref h0), (1, .int (nI P)), (2, .int (nI S)), (3, .int ww), (4, .int be), (5, .int le), (6, .int (nI j))]) C dX10_cheapest_72 (by decide) rfl ?_
                refine V_iload C 0 dX10_cheapest_74 rfl ?_
                refine V_if_eq (tgt := 84) C dX10_cheapest_76 (by decide) (fun h => absurd h (by decide)) (fun _ => ?_)
                refine V_iload C 8 dX10_cheapest_79 rfl ?_
                refine V_goto (tgt := 86) C dX10_cheapest_81 (by decide) ?_
                refine V_istore (L2 := [(4, .int (nI j)), (8, .int 1), (7, .int (costZ zz (3600 * j) P S 39)), (0, .ref h0), (1, .int (nI P)), (2, .int (nI S)), (3, .int ww), (5, .int le), (6, .int (nI j))]) C dX10_cheapest_86 (by decide) rfl ?_
                refine V_iload C 1 dX10_cheapest_88 rfl ?_
                refine V_if_eq (tgt := 98) C dX10_cheapest_90 (by decide) (fun h => absurd h (by decide)) (fun _ => ?_)
                refine V_iload C 2 dX10_cheapest_93 rfl ?_
                refine V_goto (tgt := 100) C dX10_cheapest_95 (by decide) ?_
                refine V_istore (L2 := [(5, .int (costZ zz (3600 * j) P S 39)), (4, .int (nI j)), (8, .int 1), (7, .int (costZ zz (3600 * j) P S 39)), (0, .ref h0), (1, .int (nI P)), (2, .int (nI S)), (3, .int ww), (6, .int (nI j))]) C dX10_cheapest_100 (by decide) rfl ?_
                refine V_iinc (v := nI (j + 1)) (L2 := [(6, .int (nI (j + 1))), (5, .int (costZ zz (3600 * j) P S 39)), (4, .int (nI j)), (8, .int 1), (7, .int (costZ zz (3600 * j) P S 39)), (0, .ref h0), (1, .int (nI P)), (2, .int (nI S)), (3, .int ww)]) C 8 dX10_cheapest_102 rfl (nI_add j 1) (by decide) rfl ?_
                refine V_goto (tgt := 34) C dX10_cheapest_105 (by decide) ?_
                refine V_perm (ws2 := [(h0, .inr (10, [.ref h1, .ref h2, .ref h3, .ref h4, .int pm, .ref h5, .ref h6, .int ty, .ref h7, .int om, .int sp, .int wr])), (h1, .inl (gI g, 113, .inl (costZ zz (3600 * j) P S))), (h5, .inl (gI g, 113, .inl z))]) [1, 2, 0] rfl rfl ?_
                refine V_locs (L2 := [(0, .ref h0), (1, .int (nI P)), (2, .int (nI S)), (3, .int ww), (4, .int (nI j)), (5, .int (costZ zz (3600 * j) P S 39)), (6, .int (nI (j + 1)))]) [5, 6, 7, 8, 2, 1, 0] rfl ?_
                exact ih_34 (j + 1) (nI j) (costZ zz (3600 * j) P S 39) (costZ zz (3600 * j) P S) (show (j + 1) ≤ 24 from by first | assumption | omega | rfl) (costZ_BV hbz (by omega)) (fun k hk => by rw [costZ_low hbz (by omega) hk]; exact hlo k hk) (by rw [chp, if_pos (Or.inr (by rw [← hcost, ← hle]; exact hlt))]) (by rw [chp, if_pos (Or.inr (by rw [← hcost, ← hle]; exact hlt))]; exact hcost) (by omega)
      refine V_locs (L2 := [(0, .ref h0), (1, .int (nI P)), (2, .int (nI S)), (3, .int ww), (4, .int 0), (5, .int (-6)), (6, .int 0)]) [3, 4, 5, 6, 2, 1, 0] rfl ?_
      exact loop_34 (24 - 0 + 1) 0 0 (-6) z (show 0 ≤ 24 from by first | assumption | omega | rfl) hb (fun _ _ => rfl) (show 0 = (chp (fun h => costZ z (3600 * h) P S 39) 0).1 from by first | assumption | omega | rfl) (show (-6) = (chp (fun h => costZ z (3600 * h) P S 39) 0).2 from by first | assumption | omega | rfl) (by omega)
    · refine V_to (ws2 := [(h0, .inr (10, [.ref h1, .ref h2, .ref h3, .ref h4, .int pm, .ref h5, .ref h6, .int ty, .ref h7, .int om, .int sp, .int wr])), (h1, .inl (gI g, 113, .inl z)), (h5, .inl (gI g, 113, .inl y))]) ?_ rfl
      refine V_if_ne (tgt := 20) C dX10_cheapest_14 (by decide) (fun h => absurd rfl h) (fun _ => ?_)
      refine V_bipush (v := (-2)) C dX10_cheapest_17 (by decide) ?_
      refine hret _ _ _ _ dX10_cheapest_19 ?_
      exact Or.inr (Or.inl ⟨hf2_0, fun h => (hf4_0).elim h.1 h.2, rfl, rfl⟩)
  · refine V_to (ws2 := [(h0, .inr (10, [.ref h1, .ref h2, .ref h3, .ref h4, .int pm, .ref h5, .ref h6, .int ty, .ref h7, .int om, .int sp, .int wr])), (h1, .inl (gI g, 113, .inl z)), (h5, .inl (gI g, 113, .inl y))]) ?_ rfl
    refine V_if_eq (tgt := 17) C dX10_cheapest_5 (by decide) (fun _ => ?_) (fun h => absurd (by decide) h)
    refine V_bipush (v := (-2)) C dX10_cheapest_17 (by decide) ?_
    refine hret _ _ _ _ dX10_cheapest_19 ?_
    exact Or.inl ⟨hf2_0, rfl, rfl⟩
set_option maxRecDepth 100000 in
set_option maxHeartbeats 4000000 in
theorem c_X10_wipe (g : Gd) (h0 : Nat) (h1 : Nat) (h2 : Nat) (h3 : Nat) (h4 : Nat) (h5 : Nat) (h6 : Nat) (h7 : Nat) (pm : Int32) (ty : Int32) (om : Int32) (sp : Int32) (wr : Int32)  : Ki g yX10_wipe cX10_wipe 2 (some .int) 0 0 0 [.ref h0] [(h0, .inr (10, [.ref h1, .ref h2, .ref h3, .ref h4, .int pm, .ref h5, .ref h6, .int ty, .ref h7, .int om, .int sp, .int wr]))] (fun (r : Int32) (w : va_W) => r = ty ∧ w = [(h0, .inr (10, [.ref h1, .ref h2, .ref h3, .ref h4, .int pm, .ref h5, .ref h6, .int 0, .ref h7, .int om, .int sp, .int wr]))]) := by
  refine Ki.of (by decide) (Nat.le_of_ble_eq_true rfl) (fun X C hI hret => ?_)
  show V g X 0 0 [(h0, .inr (10, [.ref h1, .ref h2, .ref h3, .ref h4, .int pm, .ref h5, .ref h6, .int ty, .ref h7, .int om, .int sp, .int wr]))] 0 [(0, .ref h0)] []
  refine V_aload_n C 0 dX10_wipe_0 rfl rfl ?_
  refine V_get (v := .int ty) C 0 rfl rfl in_X10 7 (by decide) fl_X10_104 rfl rfl dX10_wipe_1 ?_
  refine V_istore_n (L2 := [(1, .int ty), (0, .ref h0)]) C dX10_wipe_4 rfl (by decide) rfl ?_
  refine V_aload_n C 1 dX10_wipe_5 rfl rfl ?_
  refine V_iconst (v := 0) C dX10_wipe_6 (by decide) ?_
  refine V_put (ty := .int) (ws2 := [(h0, .inr (10, [.ref h1, .ref h2, .ref h3, .ref h4, .int pm, .ref h5, .ref h6, .int 0, .ref h7, .int om, .int sp, .int wr]))]) C 0 rfl rfl in_X10 tyX10 tyX10_ok nmX10 7 (by decide) fl_X10_104 rfl rfl (by decide +kernel) rfl rfl (Nat.le_of_ble_eq_true rfl) dX10_wipe_7 rfl ?_
  refine V_iload_n C 0 dX10_wipe_10 rfl rfl ?_
  refine hret _ _ _ _ dX10_wipe_11 ?_
  exact ⟨rfl, rfl⟩
