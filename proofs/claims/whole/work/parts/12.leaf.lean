
def hcnt (f : Nat → Int32) (t : Int32) : Nat → Int32
  | 0 => 0
  | n + 1 => if f n = t then hcnt f t n + 1 else hcnt f t n
theorem min_nI (a b : Nat) (ha : a < 2 ^ 31) (hb : b < 2 ^ 31) : (if nI b < nI a then nI b else nI a) = nI (min a b) := by
  by_cases h : b < a
  · rw [if_pos ((nI_ltI hb ha).mpr h), Nat.min_eq_right (by omega)]
  · rw [if_neg (fun q => h ((nI_ltI hb ha).mp q)), Nat.min_eq_left (by omega)]
theorem nI_sub1 (n : Nat) : nI (n + 1) - 1 = nI n := nI_pred n

set_option maxRecDepth 100000 in
set_option maxHeartbeats 4000000 in
theorem c_X8_about (g : Gd) (h0 : Nat) (h1 : Nat) (h2 : Nat) (N0 : Nat → Int32) (t : Nat) (w0 : Nat) (ht : t < 3) (hw : w0 < 4) : Ki g yX8_about cX8_about 3 (some .int) 1 0 0 [.ref h0, .int (nI t), .int (nI w0)] [(h0, .inr (8, [.ref h1, .ref h2])), (h1, .inl (gI g, 12, .inl N0))] (fun (r : Int32) (w : va_W) => r = N0 (t * 4 + w0) ∧ w = [(h0, .inr (8, [.ref h1, .ref h2])), (h1, .inl (gI g, 12, .inl N0))]) := by
  refine Ki.of (by decide) (Nat.le_of_ble_eq_true rfl) (fun X C hI hret => ?_)
  show V g X 0 0 [(h0, .inr (8, [.ref h1, .ref h2])), (h1, .inl (gI g, 12, .inl N0))] 0 [(0, .ref h0), (1, .int (nI t)), (2, .int (nI w0))] []
  refine V_aload_n C 0 dX8_about_0 rfl rfl ?_
  refine V_get (v := .ref h1) C 0 rfl rfl in_X8 0 (by decide) fl_X8_9 rfl rfl dX8_about_1 ?_
  refine V_iload_n C 1 dX8_about_4 rfl rfl ?_
  refine V_iconst (v := 4) C dX8_about_5 (by decide) ?_
  refine V_imul C dX8_about_6 ?_
  refine V_ev (show ((nI t) * 4 : Int32) = nI (t * 4) from pk_mul t 4) ?_
  refine V_iload_n C 2 dX8_about_7 rfl rfl ?_
  refine V_iadd C dX8_about_8 ?_
  refine V_ev (show ((nI (t * 4)) + (nI w0) : Int32) = nI ((t * 4) + w0) from nI_add (t * 4) w0) ?_
  refine V_callNi (na := 2) (As := [.ref h1, .int (nI ((t * 4) + w0))]) (rest := []) (wr := [(h0, .inr (8, [.ref h1, .ref h2]))]) C (c_X9_at g h1 12 N0 (nI ((t * 4) + w0)) ((t * 4) + w0) (show ix (nI ((t * 4) + w0)) ((t * 4) + w0) 12 from by first | assumption | omega | exact ix_nI (by omega) (by omega) | decide) (show 12 < 2 ^ 31 from by first | assumption | omega | exact ix_nI (by omega) (by omega) | decide)) ⟨⟨ini_X9, co_X9_at, ⟨by decide, by decide, by decide +kernel⟩, by decide⟩, ⟨_, ml_X8_22⟩, sm_X9_at⟩ [1] [0] rfl rfl rfl rfl (by decide) rfl rfl (Nat.le_of_ble_eq_true rfl) (by omega) (by omega) dX8_about_9 (fun r_1 w_ hw_2 => ?_)
  obtain ⟨rfl, rfl⟩ := hw_2
  refine V_to (ws2 := [(h0, .inr (8, [.ref h1, .ref h2])), (h1, .inl (gI g, 12, .inl N0))]) ?_ rfl
  refine hret _ _ _ _ dX8_about_12 ?_
  exact ⟨rfl, rfl⟩
set_option maxRecDepth 100000 in
set_option maxHeartbeats 4000000 in
theorem c_X8_change (g : Gd) (h0 : Nat) (h1 : Nat) (h2 : Nat) (N0 : Nat → Int32) (t : Nat) (w0 : Nat) (x : Int32) (ht : t < 3) (hw : w0 < 4) : Kv g yX8_change cX8_change 4 none 1 0 0 [.ref h0, .int (nI t), .int (nI w0), .int x] [(h0, .inr (8, [.ref h1, .ref h2])), (h1, .inl (gI g, 12, .inl N0))] (fun (w : va_W) => w = [(h0, .inr (8, [.ref h1, .ref h2])), (h1, .inl (gI g, 12, .inl (upd N0 (t * 4 + w0) x)))]) := by
  refine Kv.of (by decide) (Nat.le_of_ble_eq_true rfl) (fun X C hI hret => ?_)
  show V g X 0 0 [(h0, .inr (8, [.ref h1, .ref h2])), (h1, .inl (gI g, 12, .inl N0))] 0 [(0, .ref h0), (1, .int (nI t)), (2, .int (nI w0)), (3, .int x)] []
  refine V_aload_n C 0 dX8_change_0 rfl rfl ?_
  refine V_get (v := .ref h1) C 0 rfl rfl in_X8 0 (by decide) fl_X8_9 rfl rfl dX8_change_1 ?_
  refine V_iload_n C 1 dX8_change_4 rfl rfl ?_
  refine V_iconst (v := 4) C dX8_change_5 (by decide) ?_
  refine V_imul C dX8_change_6 ?_
  refine V_ev (show ((nI t) * 4 : Int32) = nI (t * 4) from pk_mul t 4) ?_
  refine V_iload_n C 2 dX8_change_7 rfl rfl ?_
  refine V_iadd C dX8_change_8 ?_
  refine V_ev (show ((nI (t * 4)) + (nI w0) : Int32) = nI ((t * 4) + w0) from nI_add (t * 4) w0) ?_
  refine V_iload_n C 3 dX8_change_9 rfl rfl ?_
  refine V_callNv (na := 3) (As := [.ref h1, .int (nI ((t * 4) + w0)), .int x]) (rest := []) (wr := [(h0, .inr (8, [.ref h1, .ref h2]))]) C (c_X9_setAt g h1 12 N0 (nI ((t * 4) + w0)) ((t * 4) + w0) x (show ix (nI ((t * 4) + w0)) ((t * 4) + w0) 12 from by first | assumption | omega | exact ix_nI (by omega) (by omega) | decide) (show 12 < 2 ^ 31 from by first | assumption | omega | exact ix_nI (by omega) (by omega) | decide)) ⟨⟨ini_X9, co_X9_setAt, ⟨by decide, by decide, by decide +kernel⟩, by decide⟩, ⟨_, ml_X8_26⟩, sm_X9_setAt⟩ [1] [0] rfl rfl rfl rfl (by decide) rfl rfl (Nat.le_of_ble_eq_true rfl) (by omega) (by omega) dX8_change_10 (fun w_ hw_2 => ?_)
  obtain rfl := hw_2
  refine V_to (ws2 := [(h0, .inr (8, [.ref h1, .ref h2])), (h1, .inl (gI g, 12, .inl (upd N0 ((t * 4) + w0) x)))]) ?_ rfl
  refine hret _ _ _ dX8_change_13 ?_
  exact rfl
set_option maxRecDepth 100000 in
set_option maxHeartbeats 4000000 in
theorem c_X8_ofHour (g : Gd) (h0 : Nat) (h1 : Nat) (h2 : Nat) (Hh : Nat → Int32) (t : Nat) (ht : t < 24) : Ki g yX8_ofHour cX8_ofHour 2 (some .int) 1 0 0 [.ref h0, .int (nI t)] [(h0, .inr (8, [.ref h1, .ref h2])), (h2, .inl (gI g, 24, .inl Hh))] (fun (r : Int32) (w : va_W) => r = Hh t ∧ w = [(h0, .inr (8, [.ref h1, .ref h2])), (h2, .inl (gI g, 24, .inl Hh))]) := by
  refine Ki.of (by decide) (Nat.le_of_ble_eq_true rfl) (fun X C hI hret => ?_)
  show V g X 0 0 [(h0, .inr (8, [.ref h1, .ref h2])), (h2, .inl (gI g, 24, .inl Hh))] 0 [(0, .ref h0), (1, .int (nI t))] []
  refine V_aload_n C 0 dX8_ofHour_0 rfl rfl ?_
  refine V_get (v := .ref h2) C 0 rfl rfl in_X8 1 (by decide) fl_X8_15 rfl rfl dX8_ofHour_1 ?_
  refine V_iload_n C 1 dX8_ofHour_4 rfl rfl ?_
  refine V_callNi (na := 2) (As := [.ref h2, .int (nI t)]) (rest := []) (wr := [(h0, .inr (8, [.ref h1, .ref h2]))]) C (c_X9_at g h2 24 Hh (nI t) t (show ix (nI t) t 24 from by first | assumption | omega | exact ix_nI (by omega) (by omega) | decide) (show 24 < 2 ^ 31 from by first | assumption | omega | exact ix_nI (by omega) (by omega) | decide)) ⟨⟨ini_X9, co_X9_at, ⟨by decide, by decide, by decide +kernel⟩, by decide⟩, ⟨_, ml_X8_22⟩, sm_X9_at⟩ [1] [0] rfl rfl rfl rfl (by decide) rfl rfl (Nat.le_of_ble_eq_true rfl) (by omega) (by omega) dX8_ofHour_5 (fun r_1 w_ hw_2 => ?_)
  obtain ⟨rfl, rfl⟩ := hw_2
  refine V_to (ws2 := [(h0, .inr (8, [.ref h1, .ref h2])), (h2, .inl (gI g, 24, .inl Hh))]) ?_ rfl
  refine hret _ _ _ _ dX8_ofHour_8 ?_
  exact ⟨rfl, rfl⟩
set_option maxRecDepth 100000 in
set_option maxHeartbeats 4000000 in
theorem c_X8_ofSecond (g : Gd) (h0 : Nat) (h1 : Nat) (h2 : Nat) (Hh : Nat → Int32) (t : Nat) (ht : t < 86400) : Ki g yX8_ofSecond cX8_ofSecond 2 (some .int) 1 0 0 [.ref h0, .int (nI t)] [(h0, .inr (8, [.ref h1, .ref h2])), (h2, .inl (gI g, 24, .inl Hh))] (fun (r : Int32) (w : va_W) => r = Hh (t / 3600) ∧ w = [(h0, .inr (8, [.ref h1, .ref h2])), (h2, .inl (gI g, 24, .inl Hh))]) := by
  refine Ki.of (by decide) (Nat.le_of_ble_eq_true rfl) (fun X C hI hret => ?_)
  show V g X 0 0 [(h0, .inr (8, [.ref h1, .ref h2])), (h2, .inl (gI g, 24, .inl Hh))] 0 [(0, .ref h0), (1, .int (nI t))] []
  refine V_aload_n C 0 dX8_ofSecond_0 rfl rfl ?_
  refine V_get (v := .ref h2) C 0 rfl rfl in_X8 1 (by decide) fl_X8_15 rfl rfl dX8_ofSecond_1 ?_
  refine V_iload_n C 1 dX8_ofSecond_4 rfl rfl ?_
  refine V_sipush (v := 3600) C dX8_ofSecond_5 (by decide) ?_
  refine V_idiv C dX8_ofSecond_8 (by decide) ?_
  refine V_ev (show ((nI t) / 3600 : Int32) = nI (t / 3600) from pk_div (d := 3600) (by omega) (by omega) (by omega)) ?_
  refine V_callNi (na := 2) (As := [.ref h2, .int (nI (t / 3600))]) (rest := []) (wr := [(h0, .inr (8, [.ref h1, .ref h2]))]) C (c_X9_at g h2 24 Hh (nI (t / 3600)) (t / 3600) (show ix (nI (t / 3600)) (t / 3600) 24 from by first | assumption | omega | exact ix_nI (by omega) (by omega) | decide) (show 24 < 2 ^ 31 from by first | assumption | omega | exact ix_nI (by omega) (by omega) | decide)) ⟨⟨ini_X9, co_X9_at, ⟨by decide, by decide, by decide +kernel⟩, by decide⟩, ⟨_, ml_X8_22⟩, sm_X9_at⟩ [1] [0] rfl rfl rfl rfl (by decide) rfl rfl (Nat.le_of_ble_eq_true rfl) (by omega) (by omega) dX8_ofSecond_9 (fun r_1 w_ hw_2 => ?_)
  obtain ⟨rfl, rfl⟩ := hw_2
  refine V_to (ws2 := [(h0, .inr (8, [.ref h1, .ref h2])), (h2, .inl (gI g, 24, .inl Hh))]) ?_ rfl
  refine hret _ _ _ _ dX8_ofSecond_12 ?_
  exact ⟨rfl, rfl⟩
set_option maxRecDepth 100000 in
set_option maxHeartbeats 4000000 in
theorem c_X8_giveHour (g : Gd) (h0 : Nat) (h1 : Nat) (h2 : Nat) (Hh : Nat → Int32) (t : Nat) (x : Int32) (ht : t < 24) : Kv g yX8_giveHour cX8_giveHour 3 none 1 0 0 [.ref h0, .int (nI t), .int x] [(h0, .inr (8, [.ref h1, .ref h2])), (h2, .inl (gI g, 24, .inl Hh))] (fun (w : va_W) => w = [(h0, .inr (8, [.ref h1, .ref h2])), (h2, .inl (gI g, 24, .inl (upd Hh t x)))]) := by
  refine Kv.of (by decide) (Nat.le_of_ble_eq_true rfl) (fun X C hI hret => ?_)
  show V g X 0 0 [(h0, .inr (8, [.ref h1, .ref h2])), (h2, .inl (gI g, 24, .inl Hh))] 0 [(0, .ref h0), (1, .int (nI t)), (2, .int x)] []
  refine V_aload_n C 0 dX8_giveHour_0 rfl rfl ?_
  refine V_get (v := .ref h2) C 0 rfl rfl in_X8 1 (by decide) fl_X8_15 rfl rfl dX8_giveHour_1 ?_
  refine V_iload_n C 1 dX8_giveHour_4 rfl rfl ?_
  refine V_iload_n C 2 dX8_giveHour_5 rfl rfl ?_
  refine V_callNv (na := 3) (As := [.ref h2, .int (nI t), .int x]) (rest := []) (wr := [(h0, .inr (8, [.ref h1, .ref h2]))]) C (c_X9_setAt g h2 24 Hh (nI t) t x (show ix (nI t) t 24 from by first | assumption | omega | exact ix_nI (by omega) (by omega) | decide) (show 24 < 2 ^ 31 from by first | assumption | omega | exact ix_nI (by omega) (by omega) | decide)) ⟨⟨ini_X9, co_X9_setAt, ⟨by decide, by decide, by decide +kernel⟩, by decide⟩, ⟨_, ml_X8_26⟩, sm_X9_setAt⟩ [1] [0] rfl rfl rfl rfl (by decide) rfl rfl (Nat.le_of_ble_eq_true rfl) (by omega) (by omega) dX8_giveHour_6 (fun w_ hw_2 => ?_)
  obtain rfl := hw_2
  refine V_to (ws2 := [(h0, .inr (8, [.ref h1, .ref h2])), (h2, .inl (gI g, 24, .inl (upd Hh t x)))]) ?_ rfl
  refine hret _ _ _ dX8_giveHour_9 ?_
  exact rfl
set_option maxRecDepth 100000 in
set_option maxHeartbeats 4000000 in
theorem c_X8_hoursOf (g : Gd) (h0 : Nat) (h1 : Nat) (h2 : Nat) (Hh : Nat → Int32) (t : Int32)  : Ki g yX8_hoursOf cX8_hoursOf 4 (some .int) 2 0 0 [.ref h0, .int t] [(h0, .inr (8, [.ref h1, .ref h2])), (h2, .inl (gI g, 24, .inl Hh))] (fun (r : Int32) (w : va_W) => r = hcnt Hh t 24 ∧ w = [(h0, .inr (8, [.ref h1, .ref h2])), (h2, .inl (gI g, 24, .inl Hh))]) := by
  refine Ki.of (by decide) (Nat.le_of_ble_eq_true rfl) (fun X C hI hret => ?_)
  show V g X 0 0 [(h0, .inr (8, [.ref h1, .ref h2])), (h2, .inl (gI g, 24, .inl Hh))] 0 [(0, .ref h0), (1, .int t)] []
  refine V_iconst (v := 0) C dX8_hoursOf_0 (by decide) ?_
  refine V_istore_n (L2 := [(2, .int 0), (0, .ref h0), (1, .int t)]) C dX8_hoursOf_1 rfl (by decide) rfl ?_
  refine V_iconst (v := 0) C dX8_hoursOf_2 (by decide) ?_
  refine V_istore_n (L2 := [(3, .int 0), (2, .int 0), (0, .ref h0), (1, .int t)]) C dX8_hoursOf_3 rfl (by decide) rfl ?_
  have loop_4 : ∀ (fu_4 : Nat) (j : Nat) (cn : Int32), j ≤ 24 → cn = hcnt Hh t j → 24 - j < fu_4 → V g X 0 0 [(h0, .inr (8, [.ref h1, .ref h2])), (h2, .inl (gI g, 24, .inl Hh))] 4 [(0, .ref h0), (1, .int t), (2, .int cn), (3, .int (nI j))] [] := by
    intro fu_4
    induction fu_4 with
    | zero => intro j cn hj hc hm; exact absurd hm (by omega)
    | succ fu_4 ih_4 =>
      intro j cn hj hc hm
      refine V_iload_n C 3 dX8_hoursOf_4 rfl rfl ?_
      refine V_bipush (v := 24) C dX8_hoursOf_5 (by decide) ?_
      refine V_icmp_ge (tgt := 28) C dX8_hoursOf_7 (by decide) (fun c_7 => ?_) (fun c_7 => ?_)
      · refine V_iload_n C 2 dX8_hoursOf_28 rfl rfl ?_
        refine hret _ _ _ _ dX8_hoursOf_29 ?_
        have hj2 : j = 24 := by have := lp_ge 24 rfl (by omega) (by omega) c_7; omega
        subst hj2
        exact ⟨hc, rfl⟩
      · have hj2 : j < 24 := lp_lt 24 rfl (by omega) (by omega) c_7
        refine V_aload_n C 0 dX8_hoursOf_10 rfl rfl ?_
        refine V_iload_n C 3 dX8_hoursOf_11 rfl rfl ?_
        refine V_callVi (q0 := 0) (na := 1) (As := [.int (nI j)]) (rest := []) (wr := []) C (c_X8_ofHour g h0 h1 h2 Hh j (show j < 24 from by first | assumption | omega | exact ix_nI (by omega) (by omega) | decide)) ⟨⟨ini_X8, co_X8_ofHour, ⟨by decide, by decide, by decide +kernel⟩, by decide⟩, ml_X8_30, im_X8_ofHour, se_X8_ofHour⟩ [0, 1] [] rfl rfl rfl rfl (by decide) rfl rfl rfl rfl (Nat.le_of_ble_eq_true rfl) (by omega) (by omega) dX8_hoursOf_12 (fun r_1 w_ hw_2 => ?_)
        obtain ⟨rfl, rfl⟩ := hw_2
        refine V_to (ws2 := [(h0, .inr (8, [.ref h1, .ref h2])), (h2, .inl (gI g, 24, .inl Hh))]) ?_ rfl
        refine V_iload_n C 1 dX8_hoursOf_15 rfl rfl ?_
        refine V_icmp_ne (tgt := 22) C dX8_hoursOf_16 (by decide) (fun c_16 => ?_) (fun c_16 => ?_)
        · refine V_iinc (v := nI (j + 1)) (L2 := [(3, .int (nI (j + 1))), (0, .ref h0), (1, .int t), (2, .int cn)]) C 3 dX8_hoursOf_22 rfl (nI_add j 1) (by decide) rfl ?_
          refine V_goto (tgt := 4) C dX8_hoursOf_25 (by decide) ?_
          refine V_locs (L2 := [(0, .ref h0), (1, .int t), (2, .int cn), (3, .int (nI (j + 1)))]) [1, 2, 3, 0] rfl ?_
          exact ih_4 (j + 1) cn (show (j + 1) ≤ 24 from by first | assumption | omega | rfl) (by rw [hcnt, if_neg c_16, hc]) (by omega)
        · refine V_iinc (v := cn + 1) (L2 := [(2, .int (cn + 1)), (0, .ref h0), (1, .int t), (3, .int (nI j))]) C 2 dX8_hoursOf_19 rfl (rfl) (by decide) rfl ?_
          refine V_iinc (v := nI (j + 1)) (L2 := [(3, .int (nI (j + 1))), (2, .int (cn + 1)), (0, .ref h0), (1, .int t)]) C 3 dX8_hoursOf_22 rfl (nI_add j 1) (by decide) rfl ?_
          refine V_goto (tgt := 4) C dX8_hoursOf_25 (by decide) ?_
          refine V_locs (L2 := [(0, .ref h0), (1, .int t), (2, .int (cn + 1)), (3, .int (nI (j + 1)))]) [2, 3, 1, 0] rfl ?_
          exact ih_4 (j + 1) (cn + 1) (show (j + 1) ≤ 24 from by first | assumption | omega | rfl) (by rw [hcnt, if_pos c_16, hc]) (by omega)
  refine V_locs (L2 := [(0, .ref h0), (1, .int t), (2, .int 0), (3, .int 0)]) [2, 3, 1, 0] rfl ?_
  exact loop_4 (24 - 0 + 1) 0 0 (show 0 ≤ 24 from by first | assumption | omega | rfl) (show 0 = hcnt Hh t 0 from by first | assumption | omega | rfl) (by omega)
set_option maxRecDepth 100000 in
set_option maxHeartbeats 4000000 in
theorem c_X8_copyFrom (g : Gd) (h0 : Nat) (h1 : Nat) (h2 : Nat) (k0 : Nat) (k1 : Nat) (k2 : Nat) (N0 : Nat → Int32) (Hh : Nat → Int32) (N1 : Nat → Int32) (H1 : Nat → Int32)  : Kv g yX8_copyFrom cX8_copyFrom 2 none 2 0 0 [.ref h0, .ref k0] [(h0, .inr (8, [.ref h1, .ref h2])), (h1, .inl (gI g, 12, .inl N0)), (h2, .inl (gI g, 24, .inl Hh)), (k0, .inr (8, [.ref k1, .ref k2])), (k1, .inl (gI g, 12, .inl N1)), (k2, .inl (gI g, 24, .inl H1))] (fun (w : va_W) => w = [(h0, .inr (8, [.ref h1, .ref h2])), (h1, .inl (gI g, 12, .inl N1)), (h2, .inl (gI g, 24, .inl H1)), (k0, .inr (8, [.ref k1, .ref k2])), (k1, .inl (gI g, 12, .inl N1)), (k2, .inl (gI g, 24, .inl H1))]) := by
  refine Kv.of (by decide) (Nat.le_of_ble_eq_true rfl) (fun X C hI hret => ?_)
  show V g X 0 0 [(h0, .inr (8, [.ref h1, .ref h2])), (h1, .inl (gI g, 12, .inl N0)), (h2, .inl (gI g, 24, .inl Hh)), (k0, .inr (8, [.ref k1, .ref k2])), (k1, .inl (gI g, 12, .inl N1)), (k2, .inl (gI g, 24, .inl H1))] 0 [(0, .ref h0), (1, .ref k0)] []
  refine V_aload_n C 1 dX8_copyFrom_0 rfl rfl ?_
  refine V_get (v := .ref k1) C 3 rfl rfl in_X8 0 (by decide) fl_X8_9 rfl rfl dX8_copyFrom_1 ?_
  refine V_aload_n C 0 dX8_copyFrom_4 rfl rfl ?_
  refine V_get (v := .ref h1) C 0 rfl rfl in_X8 0 (by decide) fl_X8_9 rfl rfl dX8_copyFrom_5 ?_
  refine V_callNv (na := 2) (As := [.ref k1, .ref h1]) (rest := []) (wr := [(h0, .inr (8, [.ref h1, .ref h2])), (h2, .inl (gI g, 24, .inl Hh)), (k0, .inr (8, [.ref k1, .ref k2])), (k2, .inl (gI g, 24, .inl H1))]) C (c_X9_copyRow g k1 h1 12 N1 N0 (show 12 < 2 ^ 31 from by first | assumption | omega | exact ix_nI (by omega) (by omega) | decide)) ⟨⟨ini_X9, co_X9_copyRow, ⟨by decide, by decide, by decide +kernel⟩, by decide⟩, ⟨_, ml_X8_18⟩, sm_X9_copyRow⟩ [4, 1] [0, 2, 3, 5] rfl rfl rfl rfl (by decide) rfl rfl (Nat.le_of_ble_eq_true rfl) (by omega) (by omega) dX8_copyFrom_8 (fun w_ hw_2 => ?_)
  obtain rfl := hw_2
  refine V_to (ws2 := [(h0, .inr (8, [.ref h1, .ref h2])), (h2, .inl (gI g, 24, .inl Hh)), (k0, .inr (8, [.ref k1, .ref k2])), (k2, .inl (gI g, 24, .inl H1)), (k1, .inl (gI g, 12, .inl N1)), (h1, .inl (gI g, 12, .inl N1))]) ?_ rfl
  refine V_aload_n C 1 dX8_copyFrom_11 rfl rfl ?_
  refine V_get (v := .ref k2) C 2 rfl rfl in_X8 1 (by decide) fl_X8_15 rfl rfl dX8_copyFrom_12 ?_
  refine V_aload_n C 0 dX8_copyFrom_15 rfl rfl ?_
  refine V_get (v := .ref h2) C 0 rfl rfl in_X8 1 (by decide) fl_X8_15 rfl rfl dX8_copyFrom_16 ?_
  refine V_callNv (na := 2) (As := [.ref k2, .ref h2]) (rest := []) (wr := [(h0, .inr (8, [.ref h1, .ref h2])), (k0, .inr (8, [.ref k1, .ref k2])), (k1, .inl (gI g, 12, .inl N1)), (h1, .inl (gI g, 12, .inl N1))]) C (c_X9_copyRow g k2 h2 24 H1 Hh (show 24 < 2 ^ 31 from by first | assumption | omega | exact ix_nI (by omega) (by omega) | decide)) ⟨⟨ini_X9, co_X9_copyRow, ⟨by decide, by decide, by decide +kernel⟩, by decide⟩, ⟨_, ml_X8_18⟩, sm_X9_copyRow⟩ [3, 1] [0, 2, 4, 5] rfl rfl rfl rfl (by decide) rfl rfl (Nat.le_of_ble_eq_true rfl) (by omega) (by omega) dX8_copyFrom_19 (fun w_ hw_4 => ?_)
  obtain rfl := hw_4
  refine V_to (ws2 := [(h0, .inr (8, [.ref h1, .ref h2])), (k0, .inr (8, [.ref k1, .ref k2])), (k1, .inl (gI g, 12, .inl N1)), (h1, .inl (gI g, 12, .inl N1)), (k2, .inl (gI g, 24, .inl H1)), (h2, .inl (gI g, 24, .inl H1))]) ?_ rfl
  refine V_perm (ws2 := [(h0, .inr (8, [.ref h1, .ref h2])), (h1, .inl (gI g, 12, .inl N1)), (h2, .inl (gI g, 24, .inl H1)), (k0, .inr (8, [.ref k1, .ref k2])), (k1, .inl (gI g, 12, .inl N1)), (k2, .inl (gI g, 24, .inl H1))]) [0, 3, 5, 1, 2, 4] rfl rfl ?_
  refine hret _ _ _ dX8_copyFrom_22 ?_
  exact rfl
set_option maxRecDepth 100000 in
set_option maxHeartbeats 4000000 in
theorem c_X6_copyFrom (g : Gd) (h0 : Nat) (k0 : Nat) (u0 : Int32) (u1 : Int32) (u2 : Int32) (u3 : Int32) (u4 : Int32) (u5 : Int32) (u6 : Int32) (u7 : Int32) (u8 : Int32) (u9 : Int32) (u10 : Int32) (v0 : Int32) (v1 : Int32) (v2 : Int32) (v3 : Int32) (v4 : Int32) (v5 : Int32) (v6 : Int32) (v7 : Int32) (v8 : Int32) (v9 : Int32) (v10 : Int32)  : Kv g yX6_copyFrom cX6_copyFrom 2 none 0 0 0 [.ref h0, .ref k0] [(h0, .inr (6, [.int u0, .int u1, .int u2, .int u3, .int u4, .int u5, .int u6, .int u7, .int u8, .int u9, .int u10])), (k0, .inr (6, [.int v0, .int v1, .int v2, .int v3, .int v4, .int v5, .int v6, .int v7, .int v8, .int v9, .int v10]))] (fun (w : va_W) => w = [(h0, .inr (6, [.int v0, .int v1, .int v2, .int v3, .int v4, .int v5, .int v6, .int v7, .int v8, .int v9, .int v10])), (k0, .inr (6, [.int v0, .int v1, .int v2, .int v3, .int v4, .int v5, .int v6, .int v7, .int v8, .int v9, .int v10]))]) := by
  refine Kv.of (by decide) (Nat.le_of_ble_eq_true rfl) (fun X C hI hret => ?_)
  show V g X 0 0 [(h0, .inr (6, [.int u0, .int u1, .int u2, .int u3, .int u4, .int u5, .int u6, .int u7, .int u8, .int u9, .int u10])), (k0, .inr (6, [.int v0, .int v1, .int v2, .int v3, .int v4, .int v5, .int v6, .int v7, .int v8, .int v9, .int v10]))] 0 [(0, .ref h0), (1, .ref k0)] []
  refine V_aload_n C 0 dX6_copyFrom_0 rfl rfl ?_
  refine V_aload_n C 1 dX6_copyFrom_1 rfl rfl ?_
  refine V_get (v := .int v0) C 1 rfl rfl in_X6 0 (by decide) fl_X6_7 rfl rfl dX6_copyFrom_2 ?_
  refine V_put (ty := .int) (ws2 := [(h0, .inr (6, [.int v0, .int u1, .int u2, .int u3, .int u4, .int u5, .int u6, .int u7, .int u8, .int u9, .int u10])), (k0, .inr (6, [.int v0, .int v1, .int v2, .int v3, .int v4, .int v5, .int v6, .int v7, .int v8, .int v9, .int v10]))]) C 0 rfl rfl in_X6 tyX6 tyX6_ok nmX6 0 (by decide) fl_X6_7 rfl rfl (by decide +kernel) rfl rfl (Nat.le_of_ble_eq_true rfl) dX6_copyFrom_5 rfl ?_
  refine V_aload_n C 0 dX6_copyFrom_8 rfl rfl ?_
  refine V_aload_n C 1 dX6_copyFrom_9 rfl rfl ?_
  refine V_get (v := .int v1) C 1 rfl rfl in_X6 1 (by decide) fl_X6_13 rfl rfl dX6_copyFrom_10 ?_
  refine V_put (ty := .int) (ws2 := [(h0, .inr (6, [.int v0, .int v1, .int u2, .int u3, .int u4, .int u5, .int u6, .int u7, .int u8, .int u9, .int u10])), (k0, .inr (6, [.int v0, .int v1, .int v2, .int v3, .int v4, .int v5, .int v6, .int v7, .int v8, .int v9, .int v10]))]) C 0 rfl rfl in_X6 tyX6 tyX6_ok nmX6 1 (by decide) fl_X6_13 rfl rfl (by decide +kernel) rfl rfl (Nat.le_of_ble_eq_true rfl) dX6_copyFrom_13 rfl ?_
  refine V_aload_n C 0 dX6_copyFrom_16 rfl rfl ?_
  refine V_aload_n C 1 dX6_copyFrom_17 rfl rfl ?_
  refine V_get (v := .int v2) C 1 rfl rfl in_X6 2 (by decide) fl_X6_16 rfl rfl dX6_copyFrom_18 ?_
  refine V_put (ty := .int) (ws2 := [(h0, .inr (6, [.int v0, .int v1, .int v2, .int u3, .int u4, .int u5, .int u6, .int u7, .int u8, .int u9, .int u10])), (k0, .inr (6, [.int v0, .int v1, .int v2, .int v3, .int v4, .int v5, .int v6, .int v7, .int v8, .int v9, .int v10]))]) C 0 rfl rfl in_X6 tyX6 tyX6_ok nmX6 2 (by decide) fl_X6_16 rfl rfl (by decide +kernel) rfl rfl (Nat.le_of_ble_eq_true rfl) dX6_copyFrom_21 rfl ?_
  refine V_aload_n C 0 dX6_copyFrom_24 rfl rfl ?_
  refine V_aload_n C 1 dX6_copyFrom_25 rfl rfl ?_
  refine V_get (v := .int v3) C 1 rfl rfl in_X6 3 (by decide) fl_X6_19 rfl rfl dX6_copyFrom_26 ?_
  refine V_put (ty := .int) (ws2 := [(h0, .inr (6, [.int v0, .int v1, .int v2, .int v3, .int u4, .int u5, .int u6, .int u7, .int u8, .int u9, .int u10])), (k0, .inr (6, [.int v0, .int v1, .int v2, .int v3, .int v4, .int v5, .int v6, .int v7, .int v8, .int v9, .int v10]))]) C 0 rfl rfl in_X6 tyX6 tyX6_ok nmX6 3 (by decide) fl_X6_19 rfl rfl (by decide +kernel) rfl rfl (Nat.le_of_ble_eq_true rfl) dX6_copyFrom_29 rfl ?_
  refine V_aload_n C 0 dX6_copyFrom_32 rfl rfl ?_
  refine V_aload_n C 1 dX6_copyFrom_33 rfl rfl ?_
  refine V_get (v := .int v4) C 1 rfl rfl in_X6 4 (by decide) fl_X6_22 rfl rfl dX6_copyFrom_34 ?_
  refine V_put (ty := .int) (ws2 := [(h0, .inr (6, [.int v0, .int v1, .int v2, .int v3, .int v4, .int u5, .int u6, .int u7, .int u8, .int u9, .int u10])), (k0, .inr (6, [.int v0, .int v1, .int v2, .int v3, .int v4, .int v5, .int v6, .int v7, .int v8, .int v9, .int v10]))]) C 0 rfl rfl in_X6 tyX6 tyX6_ok nmX6 4 (by decide) fl_X6_22 rfl rfl (by decide +kernel) rfl rfl (Nat.le_of_ble_eq_true rfl) dX6_copyFrom_37 rfl ?_
  refine V_aload_n C 0 dX6_copyFrom_40 rfl rfl ?_
  refine V_aload_n C 1 dX6_copyFrom_41 rfl rfl ?_
  refine V_get (v := .int v5) C 1 rfl rfl in_X6 5 (by decide) fl_X6_25 rfl rfl dX6_copyFrom_42 ?_
  refine V_put (ty := .int) (ws2 := [(h0, .inr (6, [.int v0, .int v1, .int v2, .int v3, .int v4, .int v5, .int u6, .int u7, .int u8, .int u9, .int u10])), (k0, .inr (6, [.int v0, .int v1, .int v2, .int v3, .int v4, .int v5, .int v6, .int v7, .int v8, .int v9, .int v10]))]) C 0 rfl rfl in_X6 tyX6 tyX6_ok nmX6 5 (by decide) fl_X6_25 rfl rfl (by decide +kernel) rfl rfl (Nat.le_of_ble_eq_true rfl) dX6_copyFrom_45 rfl ?_
  refine V_aload_n C 0 dX6_copyFrom_48 rfl rfl ?_
  refine V_aload_n C 1 dX6_copyFrom_49 rfl rfl ?_
  refine V_get (v := .int v6) C 1 rfl rfl in_X6 6 (by decide) fl_X6_28 rfl rfl dX6_copyFrom_50 ?_
  refine V_put (ty := .int) (ws2 := [(h0, .inr (6, [.int v0, .int v1, .int v2, .int v3, .int v4, .int v5, .int v6, .int u7, .int u8, .int u9, .int u10])), (k0, .inr (6, [.int v0, .int v1, .int v2, .int v3, .int v4, .int v5, .int v6, .int v7, .int v8, .int v9, .int v10]))]) C 0 rfl rfl in_X6 tyX6 tyX6_ok nmX6 6 (by decide) fl_X6_28 rfl rfl (by decide +kernel) rfl rfl (Nat.le_of_ble_eq_true rfl) dX6_copyFrom_53 rfl ?_
  refine V_aload_n C 0 dX6_copyFrom_56 rfl rfl ?_
  refine V_aload_n C 1 dX6_copyFrom_57 rfl rfl ?_
  refine V_get (v := .int v7) C 1 rfl rfl in_X6 7 (by decide) fl_X6_31 rfl rfl dX6_copyFrom_58 ?_
  refine V_put (ty := .int) (ws2 := [(h0, .inr (6, [.int v0, .int v1, .int v2, .int v3, .int v4, .int v5, .int v6, .int v7, .int u8, .int u9, .int u10])), (k0, .inr (6, [.int v0, .int v1, .int v2, .int v3, .int v4, .int v5, .int v6, .int v7, .int v8, .int v9, .int v10]))]) C 0 rfl rfl in_X6 tyX6 tyX6_ok nmX6 7 (by decide) fl_X6_31 rfl rfl (by decide +kernel) rfl rfl (Nat.le_of_ble_eq_true rfl) dX6_copyFrom_61 rfl ?_
  refine V_aload_n C 0 dX6_copyFrom_64 rfl rfl ?_
  refine V_aload_n C 1 dX6_copyFrom_65 rfl rfl ?_
  refine V_get (v := .int v8) C 1 rfl rfl in_X6 8 (by decide) fl_X6_34 rfl rfl dX6_copyFrom_66 ?_
  refine V_put (ty := .int) (ws2 := [(h0, .inr (6, [.int v0, .int v1, .int v2, .int v3, .int v4, .int v5, .int v6, .int v7, .int v8, .int u9, .int u10])), (k0, .inr (6, [.int v0, .int v1, .int v2, .int v3, .int v4, .int v5, .int v6, .int v7, .int v8, .int v9, .int v10]))]) C 0 rfl rfl in_X6 tyX6 tyX6_ok nmX6 8 (by decide) fl_X6_34 rfl rfl (by decide +kernel) rfl rfl (Nat.le_of_ble_eq_true rfl) dX6_copyFrom_69 rfl ?_
  refine V_aload_n C 0 dX6_copyFrom_72 rfl rfl ?_
  refine V_aload_n C 1 dX6_copyFrom_73 rfl rfl ?_
  refine V_get (v := .int v9) C 1 rfl rfl in_X6 9 (by decide) fl_X6_37 rfl rfl dX6_copyFrom_74 ?_
  refine V_put (ty := .int) (ws2 := [(h0, .inr (6, [.int v0, .int v1, .int v2, .int v3, .int v4, .int v5, .int v6, .int v7, .int v8, .int v9, .int u10])), (k0, .inr (6, [.int v0, .int v1, .int v2, .int v3, .int v4, .int v5, .int v6, .int v7, .int v8, .int v9, .int v10]))]) C 0 rfl rfl in_X6 tyX6 tyX6_ok nmX6 9 (by decide) fl_X6_37 rfl rfl (by decide +kernel) rfl rfl (Nat.le_of_ble_eq_true rfl) dX6_copyFrom_77 rfl ?_
  refine V_aload_n C 0 dX6_copyFrom_80 rfl rfl ?_
  refine V_aload_n C 1 dX6_copyFrom_81 rfl rfl ?_
  refine V_get (v := .int v10) C 1 rfl rfl in_X6 10 (by decide) fl_X6_40 rfl rfl dX6_copyFrom_82 ?_
  refine V_put (ty := .int) (ws2 := [(h0, .inr (6, [.int v0, .int v1, .int v2, .int v3, .int v4, .int v5, .int v6, .int v7, .int v8, .int v9, .int v10])), (k0, .inr (6, [.int v0, .int v1, .int v2, .int v3, .int v4, .int v5, .int v6, .int v7, .int v8, .int v9, .int v10]))]) C 0 rfl rfl in_X6 tyX6 tyX6_ok nmX6 10 (by decide) fl_X6_40 rfl rfl (by decide +kernel) rfl rfl (Nat.le_of_ble_eq_true rfl) dX6_copyFrom_85 rfl ?_
  refine hret _ _ _ dX6_copyFrom_88 ?_
  exact rfl
set_option maxRecDepth 100000 in
set_option maxHeartbeats 4000000 in
theorem c_X6_startAt (g : Gd) (h0 : Nat) (u0 : Int32) (u1 : Int32) (u2 : Int32) (u3 : Int32) (u4 : Int32) (u5 : Int32) (u6 : Int32) (u7 : Int32) (u8 : Int32) (u9 : Int32) (u10 : Int32) (sec : Int32) (coins : Int32)  : Kv g yX6_startAt cX6_startAt 3 none 0 0 0 [.ref h0, .int sec, .int coins] [(h0, .inr (6, [.int u0, .int u1, .int u2, .int u3, .int u4, .int u5, .int u6, .int u7, .int u8, .int u9, .int u10]))] (fun (w : va_W) => w = [(h0, .inr (6, [.int sec, .int coins, .int 0, .int 0, .int 0, .int 0, .int 0, .int 0, .int 0, .int 0, .int 0]))]) := by
  refine Kv.of (by decide) (Nat.le_of_ble_eq_true rfl) (fun X C hI hret => ?_)
  show V g X 0 0 [(h0, .inr (6, [.int u0, .int u1, .int u2, .int u3, .int u4, .int u5, .int u6, .int u7, .int u8, .int u9, .int u10]))] 0 [(0, .ref h0), (1, .int sec), (2, .int coins)] []
  refine V_aload_n C 0 dX6_startAt_0 rfl rfl ?_
  refine V_iload_n C 1 dX6_startAt_1 rfl rfl ?_
  refine V_put (ty := .int) (ws2 := [(h0, .inr (6, [.int sec, .int u1, .int u2, .int u3, .int u4, .int u5, .int u6, .int u7, .int u8, .int u9, .int u10]))]) C 0 rfl rfl in_X6 tyX6 tyX6_ok nmX6 0 (by decide) fl_X6_7 rfl rfl (by decide +kernel) rfl rfl (Nat.le_of_ble_eq_true rfl) dX6_startAt_2 rfl ?_
  refine V_aload_n C 0 dX6_startAt_5 rfl rfl ?_
  refine V_iload_n C 2 dX6_startAt_6 rfl rfl ?_
  refine V_put (ty := .int) (ws2 := [(h0, .inr (6, [.int sec, .int coins, .int u2, .int u3, .int u4, .int u5, .int u6, .int u7, .int u8, .int u9, .int u10]))]) C 0 rfl rfl in_X6 tyX6 tyX6_ok nmX6 1 (by decide) fl_X6_13 rfl rfl (by decide +kernel) rfl rfl (Nat.le_of_ble_eq_true rfl) dX6_startAt_7 rfl ?_
  refine V_aload_n C 0 dX6_startAt_10 rfl rfl ?_
  refine V_iconst (v := 0) C dX6_startAt_11 (by decide) ?_
  refine V_put (ty := .int) (ws2 := [(h0, .inr (6, [.int sec, .int coins, .int 0, .int u3, .int u4, .int u5, .int u6, .int u7, .int u8, .int u9, .int u10]))]) C 0 rfl rfl in_X6 tyX6 tyX6_ok nmX6 2 (by decide) fl_X6_16 rfl rfl (by decide +kernel) rfl rfl (Nat.le_of_ble_eq_true rfl) dX6_startAt_12 rfl ?_
  refine V_aload_n C 0 dX6_startAt_15 rfl rfl ?_
  refine V_iconst (v := 0) C dX6_startAt_16 (by decide) ?_
  refine V_put (ty := .int) (ws2 := [(h0, .inr (6, [.int sec, .int coins, .int 0, .int 0, .int u4, .int u5, .int u6, .int u7, .int u8, .int u9, .int u10]))]) C 0 rfl rfl in_X6 tyX6 tyX6_ok nmX6 3 (by decide) fl_X6_19 rfl rfl (by decide +kernel) rfl rfl (Nat.le_of_ble_eq_true rfl) dX6_startAt_17 rfl ?_
  refine V_aload_n C 0 dX6_startAt_20 rfl rfl ?_
  refine V_iconst (v := 0) C dX6_startAt_21 (by decide) ?_
  refine V_put (ty := .int) (ws2 := [(h0, .inr (6, [.int sec, .int coins, .int 0, .int 0, .int 0, .int u5, .int u6, .int u7, .int u8, .int u9, .int u10]))]) C 0 rfl rfl in_X6 tyX6 tyX6_ok nmX6 4 (by decide) fl_X6_22 rfl rfl (by decide +kernel) rfl rfl (Nat.le_of_ble_eq_true rfl) dX6_startAt_22 rfl ?_
  refine V_aload_n C 0 dX6_startAt_25 rfl rfl ?_
  refine V_iconst (v := 0) C dX6_startAt_26 (by decide) ?_
  refine V_put (ty := .int) (ws2 := [(h0, .inr (6, [.int sec, .int coins, .int 0, .int 0, .int 0, .int 0, .int u6, .int u7, .int u8, .int u9, .int u10]))]) C 0 rfl rfl in_X6 tyX6 tyX6_ok nmX6 5 (by decide) fl_X6_25 rfl rfl (by decide +kernel) rfl rfl (Nat.le_of_ble_eq_true rfl) dX6_startAt_27 rfl ?_
  refine V_aload_n C 0 dX6_startAt_30 rfl rfl ?_
  refine V_iconst (v := 0) C dX6_startAt_31 (by decide) ?_
  refine V_put (ty := .int) (ws2 := [(h0, .inr (6, [.int sec, .int coins, .int 0, .int 0, .int 0, .int 0, .int 0, .int u7, .int u8, .int u9, .int u10]))]) C 0 rfl rfl in_X6 tyX6 tyX6_ok nmX6 6 (by decide) fl_X6_28 rfl rfl (by decide +kernel) rfl rfl (Nat.le_of_ble_eq_true rfl) dX6_startAt_32 rfl ?_
  refine V_aload_n C 0 dX6_startAt_35 rfl rfl ?_
  refine V_iconst (v := 0) C dX6_startAt_36 (by decide) ?_
  refine V_put (ty := .int) (ws2 := [(h0, .inr (6, [.int sec, .int coins, .int 0, .int 0, .int 0, .int 0, .int 0, .int 0, .int u8, .int u9, .int u10]))]) C 0 rfl rfl in_X6 tyX6 tyX6_ok nmX6 7 (by decide) fl_X6_31 rfl rfl (by decide +kernel) rfl rfl (Nat.le_of_ble_eq_true rfl) dX6_startAt_37 rfl ?_
  refine V_aload_n C 0 dX6_startAt_40 rfl rfl ?_
  refine V_iconst (v := 0) C dX6_startAt_41 (by decide) ?_
  refine V_put (ty := .int) (ws2 := [(h0, .inr (6, [.int sec, .int coins, .int 0, .int 0, .int 0, .int 0, .int 0, .int 0, .int 0, .int u9, .int u10]))]) C 0 rfl rfl in_X6 tyX6 tyX6_ok nmX6 8 (by decide) fl_X6_34 rfl rfl (by decide +kernel) rfl rfl (Nat.le_of_ble_eq_true rfl) dX6_startAt_42 rfl ?_
  refine V_aload_n C 0 dX6_startAt_45 rfl rfl ?_
  refine V_iconst (v := 0) C dX6_startAt_46 (by decide) ?_
  refine V_put (ty := .int) (ws2 := [(h0, .inr (6, [.int sec, .int coins, .int 0, .int 0, .int 0, .int 0, .int 0, .int 0, .int 0, .int 0, .int u10]))]) C 0 rfl rfl in_X6 tyX6 tyX6_ok nmX6 9 (by decide) fl_X6_37 rfl rfl (by decide +kernel) rfl rfl (Nat.le_of_ble_eq_true rfl) dX6_startAt_47 rfl ?_
  refine V_aload_n C 0 dX6_startAt_50 rfl rfl ?_
  refine V_iconst (v := 0) C dX6_startAt_51 (by decide) ?_
  refine V_put (ty := .int) (ws2 := [(h0, .inr (6, [.int sec, .int coins, .int 0, .int 0, .int 0, .int 0, .int 0, .int 0, .int 0, .int 0, .int 0]))]) C 0 rfl rfl in_X6 tyX6 tyX6_ok nmX6 10 (by decide) fl_X6_40 rfl rfl (by decide +kernel) rfl rfl (Nat.le_of_ble_eq_true rfl) dX6_startAt_52 rfl ?_
  refine hret _ _ _ dX6_startAt_55 ?_
  exact rfl
set_option maxRecDepth 100000 in
set_option maxHeartbeats 4000000 in
theorem c_X2_copyFrom (g : Gd) (h0 : Nat) (h1 : Nat) (k0 : Nat) (k1 : Nat) (L0 : Nat → Int32) (L1 : Nat → Int32) (n0 : Int32) (s0 : Int32) (n1 : Int32) (s1 : Int32)  : Kv g yX2_copyFrom cX2_copyFrom 2 none 2 0 0 [.ref h0, .ref k0] [(h0, .inr (2, [.ref h1, .int n0, .int s0])), (h1, .inl (gI g, 60, .inl L0)), (k0, .inr (2, [.ref k1, .int n1, .int s1])), (k1, .inl (gI g, 60, .inl L1))] (fun (w : va_W) => w = [(h0, .inr (2, [.ref h1, .int n1, .int s1])), (h1, .inl (gI g, 60, .inl L1)), (k0, .inr (2, [.ref k1, .int n1, .int s1])), (k1, .inl (gI g, 60, .inl L1))]) := by
  refine Kv.of (by decide) (Nat.le_of_ble_eq_true rfl) (fun X C hI hret => ?_)
  show V g X 0 0 [(h0, .inr (2, [.ref h1, .int n0, .int s0])), (h1, .inl (gI g, 60, .inl L0)), (k0, .inr (2, [.ref k1, .int n1, .int s1])), (k1, .inl (gI g, 60, .inl L1))] 0 [(0, .ref h0), (1, .ref k0)] []
  refine V_aload_n C 1 dX2_copyFrom_0 rfl rfl ?_
  refine V_get (v := .ref k1) C 2 rfl rfl in_X2 0 (by decide) fl_X2_9 rfl rfl dX2_copyFrom_1 ?_
  refine V_aload_n C 0 dX2_copyFrom_4 rfl rfl ?_
  refine V_get (v := .ref h1) C 0 rfl rfl in_X2 0 (by decide) fl_X2_9 rfl rfl dX2_copyFrom_5 ?_
  refine V_callNv (na := 2) (As := [.ref k1, .ref h1]) (rest := []) (wr := [(h0, .inr (2, [.ref h1, .int n0, .int s0])), (k0, .inr (2, [.ref k1, .int n1, .int s1]))]) C (c_X9_copyRow g k1 h1 60 L1 L0 (show 60 < 2 ^ 31 from by first | assumption | omega | exact ix_nI (by omega) (by omega) | decide)) ⟨⟨ini_X9, co_X9_copyRow, ⟨by decide, by decide, by decide +kernel⟩, by decide⟩, ⟨_, ml_X2_13⟩, sm_X9_copyRow⟩ [3, 1] [0, 2] rfl rfl rfl rfl (by decide) rfl rfl (Nat.le_of_ble_eq_true rfl) (by omega) (by omega) dX2_copyFrom_8 (fun w_ hw_2 => ?_)
  obtain rfl := hw_2
  refine V_to (ws2 := [(h0, .inr (2, [.ref h1, .int n0, .int s0])), (k0, .inr (2, [.ref k1, .int n1, .int s1])), (k1, .inl (gI g, 60, .inl L1)), (h1, .inl (gI g, 60, .inl L1))]) ?_ rfl
  refine V_aload_n C 0 dX2_copyFrom_11 rfl rfl ?_
  refine V_aload_n C 1 dX2_copyFrom_12 rfl rfl ?_
  refine V_get (v := .int n1) C 1 rfl rfl in_X2 1 (by decide) fl_X2_19 rfl rfl dX2_copyFrom_13 ?_
  refine V_put (ty := .int) (ws2 := [(h0, .inr (2, [.ref h1, .int n1, .int s0])), (k0, .inr (2, [.ref k1, .int n1, .int s1])), (k1, .inl (gI g, 60, .inl L1)), (h1, .inl (gI g, 60, .inl L1))]) C 0 rfl rfl in_X2 tyX2 tyX2_ok nmX2 1 (by decide) fl_X2_19 rfl rfl (by decide +kernel) rfl rfl (Nat.le_of_ble_eq_true rfl) dX2_copyFrom_16 rfl ?_
  refine V_aload_n C 0 dX2_copyFrom_19 rfl rfl ?_
  refine V_aload_n C 1 dX2_copyFrom_20 rfl rfl ?_
  refine V_get (v := .int s1) C 1 rfl rfl in_X2 2 (by decide) fl_X2_23 rfl rfl dX2_copyFrom_21 ?_
  refine V_put (ty := .int) (ws2 := [(h0, .inr (2, [.ref h1, .int n1, .int s1])), (k0, .inr (2, [.ref k1, .int n1, .int s1])), (k1, .inl (gI g, 60, .inl L1)), (h1, .inl (gI g, 60, .inl L1))]) C 0 rfl rfl in_X2 tyX2 tyX2_ok nmX2 2 (by decide) fl_X2_23 rfl rfl (by decide +kernel) rfl rfl (Nat.le_of_ble_eq_true rfl) dX2_copyFrom_24 rfl ?_
  refine V_perm (ws2 := [(h0, .inr (2, [.ref h1, .int n1, .int s1])), (h1, .inl (gI g, 60, .inl L1)), (k0, .inr (2, [.ref k1, .int n1, .int s1])), (k1, .inl (gI g, 60, .inl L1))]) [0, 3, 1, 2] rfl rfl ?_
  refine hret _ _ _ dX2_copyFrom_27 ?_
  exact rfl
set_option maxRecDepth 100000 in
set_option maxHeartbeats 4000000 in
theorem c_X2_add (g : Gd) (h0 : Nat) (h1 : Nat) (k0 : Nat) (L0 : Nat → Int32) (j : Nat) (sz : Nat) (u0 : Int32) (u1 : Int32) (u2 : Int32) (u3 : Int32) (u4 : Int32) (u5 : Int32) (u6 : Int32) (u7 : Int32) (u8 : Int32) (u9 : Int32) (u10 : Int32) (hj : j < 12) (hs : sz ≤ 12) : Kv g yX2_add cX2_add 3 none 1 0 0 [.ref h0, .ref k0] [(h0, .inr (2, [.ref h1, .int (nI j), .int (nI sz)])), (h1, .inl (gI g, 60, .inl L0)), (k0, .inr (6, [.int u0, .int u1, .int u2, .int u3, .int u4, .int u5, .int u6, .int u7, .int u8, .int u9, .int u10]))] (fun (w : va_W) => w = [(h0, .inr (2, [.ref h1, .int (nI ((j + 1) % 12)), .int (nI (min (sz + 1) 12))])), (h1, .inl (gI g, 60, .inl (upd (upd (upd (upd (upd L0 (j * 5) (u1 + u2)) (j * 5 + 1) u4) (j * 5 + 2) (u5 + u6)) (j * 5 + 3) (u7 + u8)) (j * 5 + 4) u0))), (k0, .inr (6, [.int u0, .int u1, .int u2, .int u3, .int u4, .int u5, .int u6, .int u7, .int u8, .int u9, .int u10]))]) := by
  refine Kv.of (by decide) (Nat.le_of_ble_eq_true rfl) (fun X C hI hret => ?_)
  show V g X 0 0 [(h0, .inr (2, [.ref h1, .int (nI j), .int (nI sz)])), (h1, .inl (gI g, 60, .inl L0)), (k0, .inr (6, [.int u0, .int u1, .int u2, .int u3, .int u4, .int u5, .int u6, .int u7, .int u8, .int u9, .int u10]))] 0 [(0, .ref h0), (1, .ref k0)] []
  refine V_aload_n C 0 dX2_add_0 rfl rfl ?_
  refine V_get (v := .int (nI j)) C 0 rfl rfl in_X2 1 (by decide) fl_X2_19 rfl rfl dX2_add_1 ?_
  refine V_iconst (v := 5) C dX2_add_4 (by decide) ?_
  refine V_imul C dX2_add_5 ?_
  refine V_ev (show ((nI j) * 5 : Int32) = nI (j * 5) from pk_mul j 5) ?_
  refine V_istore_n (L2 := [(2, .int (nI (j * 5))), (0, .ref h0), (1, .ref k0)]) C dX2_add_6 rfl (by decide) rfl ?_
  refine V_aload_n C 1 dX2_add_7 rfl rfl ?_
  refine V_get (v := .ref h1) C 0 rfl rfl in_X2 0 (by decide) fl_X2_9 rfl rfl dX2_add_8 ?_
  refine V_iload_n C 0 dX2_add_11 rfl rfl ?_
  refine V_aload_n C 2 dX2_add_12 rfl rfl ?_
  refine V_get (v := .int u1) C 2 rfl rfl in_X6 1 (by decide) fl_X2_26 rfl rfl dX2_add_13 ?_
  refine V_aload_n C 2 dX2_add_16 rfl rfl ?_
  refine V_get (v := .int u2) C 2 rfl rfl in_X6 2 (by decide) fl_X2_31 rfl rfl dX2_add_17 ?_
  refine V_iadd C dX2_add_20 ?_
  refine V_callNv (na := 3) (As := [.ref h1, .int (nI (j * 5)), .int (u1 + u2)]) (rest := []) (wr := [(h0, .inr (2, [.ref h1, .int (nI j), .int (nI sz)])), (k0, .inr (6, [.int u0, .int u1, .int u2, .int u3, .int u4, .int u5, .int u6, .int u7, .int u8, .int u9, .int u10]))]) C (c_X9_setAt g h1 60 L0 (nI (j * 5)) (j * 5) (u1 + u2) (show ix (nI (j * 5)) (j * 5) 60 from by first | assumption | omega | exact ix_nI (by omega) (by omega) | decide) (show 60 < 2 ^ 31 from by first | assumption | omega | exact ix_nI (by omega) (by omega) | decide)) ⟨⟨ini_X9, co_X9_setAt, ⟨by decide, by decide, by decide +kernel⟩, by decide⟩, ⟨_, ml_X2_34⟩, sm_X9_setAt⟩ [1] [0, 2] rfl rfl rfl rfl (by decide) rfl rfl (Nat.le_of_ble_eq_true rfl) (by omega) (by omega) dX2_add_21 (fun w_ hw_2 => ?_)
  obtain rfl := hw_2
  refine V_to (ws2 := [(h0, .inr (2, [.ref h1, .int (nI j), .int (nI sz)])), (k0, .inr (6, [.int u0, .int u1, .int u2, .int u3, .int u4, .int u5, .int u6, .int u7, .int u8, .int u9, .int u10])), (h1, .inl (gI g, 60, .inl (upd L0 (j * 5) (u1 + u2))))]) ?_ rfl
  refine V_aload_n C 1 dX2_add_24 rfl rfl ?_
  refine V_get (v := .ref h1) C 0 rfl rfl in_X2 0 (by decide) fl_X2_9 rfl rfl dX2_add_25 ?_
  refine V_iload_n C 0 dX2_add_28 rfl rfl ?_
  refine V_iconst (v := 1) C dX2_add_29 (by decide) ?_
  refine V_iadd C dX2_add_30 ?_
  refine V_ev (show ((nI (j * 5)) + 1 : Int32) = nI ((j * 5) + 1) from nI_add (j * 5) 1) ?_
  refine V_aload_n C 2 dX2_add_31 rfl rfl ?_
  refine V_get (v := .int u4) C 1 rfl rfl in_X6 4 (by decide) fl_X2_38 rfl rfl dX2_add_32 ?_
  refine V_callNv (na := 3) (As := [.ref h1, .int (nI ((j * 5) + 1)), .int u4]) (rest := []) (wr := [(h0, .inr (2, [.ref h1, .int (nI j), .int (nI sz)])), (k0, .inr (6, [.int u0, .int u1, .int u2, .int u3, .int u4, .int u5, .int u6, .int u7, .int u8, .int u9, .int u10]))]) C (c_X9_setAt g h1 60 (upd L0 (j * 5) (u1 + u2)) (nI ((j * 5) + 1)) ((j * 5) + 1) u4 (show ix (nI ((j * 5) + 1)) ((j * 5) + 1) 60 from by first | assumption | omega | exact ix_nI (by omega) (by omega) | decide) (show 60 < 2 ^ 31 from by first | assumption | omega | exact ix_nI (by omega) (by omega) | decide)) ⟨⟨ini_X9, co_X9_setAt, ⟨by decide, by decide, by decide +kernel⟩, by decide⟩, ⟨_, ml_X2_34⟩, sm_X9_setAt⟩ [2] [0, 1] rfl rfl rfl rfl (by decide) rfl rfl (Nat.le_of_ble_eq_true rfl) (by omega) (by omega) dX2_add_35 (fun w_ hw_4 => ?_)
  obtain rfl := hw_4
  refine V_to (ws2 := [(h0, .inr (2, [.ref h1, .int (nI j), .int (nI sz)])), (k0, .inr (6, [.int u0, .int u1, .int u2, .int u3, .int u4, .int u5, .int u6, .int u7, .int u8, .int u9, .int u10])), (h1, .inl (gI g, 60, .inl (upd (upd L0 (j * 5) (u1 + u2)) ((j * 5) + 1) u4)))]) ?_ rfl
  refine V_aload_n C 1 dX2_add_38 rfl rfl ?_
  refine V_get (v := .ref h1) C 0 rfl rfl in_X2 0 (by decide) fl_X2_9 rfl rfl dX2_add_39 ?_
  refine V_iload_n C 0 dX2_add_42 rfl rfl ?_
  refine V_iconst (v := 2) C dX2_add_43 (by decide) ?_
  refine V_iadd C dX2_add_44 ?_
  refine V_ev (show ((nI (j * 5)) + 2 : Int32) = nI ((j * 5) + 2) from nI_add (j * 5) 2) ?_
  refine V_aload_n C 2 dX2_add_45 rfl rfl ?_
  refine V_get (v := .int u5) C 1 rfl rfl in_X6 5 (by decide) fl_X2_41 rfl rfl dX2_add_46 ?_
  refine V_aload_n C 2 dX2_add_49 rfl rfl ?_
  refine V_get (v := .int u6) C 1 rfl rfl in_X6 6 (by decide) fl_X2_44 rfl rfl dX2_add_50 ?_
  refine V_iadd C dX2_add_53 ?_
  refine V_callNv (na := 3) (As := [.ref h1, .int (nI ((j * 5) + 2)), .int (u5 + u6)]) (rest := []) (wr := [(h0, .inr (2, [.ref h1, .int (nI j), .int (nI sz)])), (k0, .inr (6, [.int u0, .int u1, .int u2, .int u3, .int u4, .int u5, .int u6, .int u7, .int u8, .int u9, .int u10]))]) C (c_X9_setAt g h1 60 (upd (upd L0 (j * 5) (u1 + u2)) ((j * 5) + 1) u4) (nI ((j * 5) + 2)) ((j * 5) + 2) (u5 + u6) (show ix (nI ((j * 5) + 2)) ((j * 5) + 2) 60 from by first | assumption | omega | exact ix_nI (by omega) (by omega) | decide) (show 60 < 2 ^ 31 from by first | assumption | omega | exact ix_nI (by omega) (by omega) | decide)) ⟨⟨ini_X9, co_X9_setAt, ⟨by decide, by decide, by decide +kernel⟩, by decide⟩, ⟨_, ml_X2_34⟩, sm_X9_setAt⟩ [2] [0, 1] rfl rfl rfl rfl (by decide) rfl rfl (Nat.le_of_ble_eq_true rfl) (by omega) (by omega) dX2_add_54 (fun w_ hw_6 => ?_)
  obtain rfl := hw_6
  refine V_to (ws2 := [(h0, .inr (2, [.ref h1, .int (nI j), .int (nI sz)])), (k0, .inr (6, [.int u0, .int u1, .int u2, .int u3, .int u4, .int u5, .int u6, .int u7, .int u8, .int u9, .int u10])), (h1, .inl (gI g, 60, .inl (upd (upd (upd L0 (j * 5) (u1 + u2)) ((j * 5) + 1) u4) ((j * 5) + 2) (u5 + u6))))]) ?_ rfl
  refine V_aload_n C 1 dX2_add_57 rfl rfl ?_
  refine V_get (v := .ref h1) C 0 rfl rfl in_X2 0 (by decide) fl_X2_9 rfl rfl dX2_add_58 ?_
  refine V_iload_n C 0 dX2_add_61 rfl rfl ?_
  refine V_iconst (v := 3) C dX2_add_62 (by decide) ?_
  refine V_iadd C dX2_add_63 ?_
  refine V_ev (show ((nI (j * 5)) + 3 : Int32) = nI ((j * 5) + 3) from nI_add (j * 5) 3) ?_
  refine V_aload_n C 2 dX2_add_64 rfl rfl ?_
  refine V_get (v := .int u7) C 1 rfl rfl in_X6 7 (by decide) fl_X2_47 rfl rfl dX2_add_65 ?_
  refine V_aload_n C 2 dX2_add_68 rfl rfl ?_
  refine V_get (v := .int u8) C 1 rfl rfl in_X6 8 (by decide) fl_X2_50 rfl rfl dX2_add_69 ?_
  refine V_iadd C dX2_add_72 ?_
  refine V_callNv (na := 3) (As := [.ref h1, .int (nI ((j * 5) + 3)), .int (u7 + u8)]) (rest := []) (wr := [(h0, .inr (2, [.ref h1, .int (nI j), .int (nI sz)])), (k0, .inr (6, [.int u0, .int u1, .int u2, .int u3, .int u4, .int u5, .int u6, .int u7, .int u8, .int u9, .int u10]))]) C (c_X9_setAt g h1 60 (upd (upd (upd L0 (j * 5) (u1 + u2)) ((j * 5) + 1) u4) ((j * 5) + 2) (u5 + u6)) (nI ((j * 5) + 3)) ((j * 5) + 3) (u7 + u8) (show ix (nI ((j * 5) + 3)) ((j * 5) + 3) 60 from by first | assumption | omega | exact ix_nI (by omega) (by omega) | decide) (show 60 < 2 ^ 31 from by first | assumption | omega | exact ix_nI (by omega) (by omega) | decide)) ⟨⟨ini_X9, co_X9_setAt, ⟨by decide, by decide, by decide +kernel⟩, by decide⟩, ⟨_, ml_X2_34⟩, sm_X9_setAt⟩ [2] [0, 1] rfl rfl rfl rfl (by decide) rfl rfl (Nat.le_of_ble_eq_true rfl) (by omega) (by omega) dX2_add_73 (fun w_ hw_8 => ?_)
  obtain rfl := hw_8
  refine V_to (ws2 := [(h0, .inr (2, [.ref h1, .int (nI j), .int (nI sz)])), (k0, .inr (6, [.int u0, .int u1, .int u2, .int u3, .int u4, .int u5, .int u6, .int u7, .int u8, .int u9, .int u10])), (h1, .inl (gI g, 60, .inl (upd (upd (upd (upd L0 (j * 5) (u1 + u2)) ((j * 5) + 1) u4) ((j * 5) + 2) (u5 + u6)) ((j * 5) + 3) (u7 + u8))))]) ?_ rfl
  refine V_aload_n C 1 dX2_add_76 rfl rfl ?_
  refine V_get (v := .ref h1) C 0 rfl rfl in_X2 0 (by decide) fl_X2_9 rfl rfl dX2_add_77 ?_
  refine V_iload_n C 0 dX2_add_80 rfl rfl ?_
  refine V_iconst (v := 4) C dX2_add_81 (by decide) ?_
  refine V_iadd C dX2_add_82 ?_
  refine V_ev (show ((nI (j * 5)) + 4 : Int32) = nI ((j * 5) + 4) from nI_add (j * 5) 4) ?_
  refine V_aload_n C 2 dX2_add_83 rfl rfl ?_
  refine V_get (v := .int u0) C 1 rfl rfl in_X6 0 (by decide) fl_X2_53 rfl rfl dX2_add_84 ?_
  refine V_callNv (na := 3) (As := [.ref h1, .int (nI ((j * 5) + 4)), .int u0]) (rest := []) (wr := [(h0, .inr (2, [.ref h1, .int (nI j), .int (nI sz)])), (k0, .inr (6, [.int u0, .int u1, .int u2, .int u3, .int u4, .int u5, .int u6, .int u7, .int u8, .int u9, .int u10]))]) C (c_X9_setAt g h1 60 (upd (upd (upd (upd L0 (j * 5) (u1 + u2)) ((j * 5) + 1) u4) ((j * 5) + 2) (u5 + u6)) ((j * 5) + 3) (u7 + u8)) (nI ((j * 5) + 4)) ((j * 5) + 4) u0 (show ix (nI ((j * 5) + 4)) ((j * 5) + 4) 60 from by first | assumption | omega | exact ix_nI (by omega) (by omega) | decide) (show 60 < 2 ^ 31 from by first | assumption | omega | exact ix_nI (by omega) (by omega) | decide)) ⟨⟨ini_X9, co_X9_setAt, ⟨by decide, by decide, by decide +kernel⟩, by decide⟩, ⟨_, ml_X2_34⟩, sm_X9_setAt⟩ [2] [0, 1] rfl rfl rfl rfl (by decide) rfl rfl (Nat.le_of_ble_eq_true rfl) (by omega) (by omega) dX2_add_87 (fun w_ hw_10 => ?_)
  obtain rfl := hw_10
  refine V_to (ws2 := [(h0, .inr (2, [.ref h1, .int (nI j), .int (nI sz)])), (k0, .inr (6, [.int u0, .int u1, .int u2, .int u3, .int u4, .int u5, .int u6, .int u7, .int u8, .int u9, .int u10])), (h1, .inl (gI g, 60, .inl (upd (upd (upd (upd (upd L0 (j * 5) (u1 + u2)) ((j * 5) + 1) u4) ((j * 5) + 2) (u5 + u6)) ((j * 5) + 3) (u7 + u8)) ((j * 5) + 4) u0)))]) ?_ rfl
  refine V_aload_n C 1 dX2_add_90 rfl rfl ?_
  refine V_aload_n C 1 dX2_add_91 rfl rfl ?_
  refine V_get (v := .int (nI j)) C 0 rfl rfl in_X2 1 (by decide) fl_X2_19 rfl rfl dX2_add_92 ?_
  refine V_iconst (v := 1) C dX2_add_95 (by decide) ?_
  refine V_iadd C dX2_add_96 ?_
  refine V_ev (show ((nI j) + 1 : Int32) = nI (j + 1) from nI_add j 1) ?_
  refine V_bipush (v := 12) C dX2_add_97 (by decide) ?_
  refine V_irem C dX2_add_99 (by decide) ?_
  refine V_ev (show ((nI (j + 1)) - (nI (j + 1)) / 12 * 12 : Int32) = nI ((j + 1) % 12) from pk_rem (d := 12) (by omega) (by omega) (by omega)) ?_
  refine V_put (ty := .int) (ws2 := [(h0, .inr (2, [.ref h1, .int (nI ((j + 1) % 12)), .int (nI sz)])), (k0, .inr (6, [.int u0, .int u1, .int u2, .int u3, .int u4, .int u5, .int u6, .int u7, .int u8, .int u9, .int u10])), (h1, .inl (gI g, 60, .inl (upd (upd (upd (upd (upd L0 (j * 5) (u1 + u2)) ((j * 5) + 1) u4) ((j * 5) + 2) (u5 + u6)) ((j * 5) + 3) (u7 + u8)) ((j * 5) + 4) u0)))]) C 0 rfl rfl in_X2 tyX2 tyX2_ok nmX2 1 (by decide) fl_X2_19 rfl rfl (by decide +kernel) rfl rfl (Nat.le_of_ble_eq_true rfl) dX2_add_100 rfl ?_
  refine V_aload_n C 1 dX2_add_103 rfl rfl ?_
  refine V_aload_n C 1 dX2_add_104 rfl rfl ?_
  refine V_get (v := .int (nI sz)) C 0 rfl rfl in_X2 2 (by decide) fl_X2_23 rfl rfl dX2_add_105 ?_
  refine V_iconst (v := 1) C dX2_add_108 (by decide) ?_
  refine V_iadd C dX2_add_109 ?_
  refine V_ev (show ((nI sz) + 1 : Int32) = nI (sz + 1) from nI_add sz 1) ?_
  refine V_bipush (v := 12) C dX2_add_110 (by decide) ?_
  refine V_min C ml_X2_56 sm_math_min ini_math co_math_min (Nat.le_of_ble_eq_true rfl) (by omega) (by omega) dX2_add_112 ?_
  refine V_ev (show (if 12 < (nI (sz + 1)) then 12 else (nI (sz + 1)) : Int32) = nI (min (sz + 1) 12) from min_nI (sz + 1) 12 (by omega) (by omega)) ?_
  refine V_put (ty := .int) (ws2 := [(h0, .inr (2, [.ref h1, .int (nI ((j + 1) % 12)), .int (nI (min (sz + 1) 12))])), (k0, .inr (6, [.int u0, .int u1, .int u2, .int u3, .int u4, .int u5, .int u6, .int u7, .int u8, .int u9, .int u10])), (h1, .inl (gI g, 60, .inl (upd (upd (upd (upd (upd L0 (j * 5) (u1 + u2)) ((j * 5) + 1) u4) ((j * 5) + 2) (u5 + u6)) ((j * 5) + 3) (u7 + u8)) ((j * 5) + 4) u0)))]) C 0 rfl rfl in_X2 tyX2 tyX2_ok nmX2 2 (by decide) fl_X2_23 rfl rfl (by decide +kernel) rfl rfl (Nat.le_of_ble_eq_true rfl) dX2_add_115 rfl ?_
  refine V_perm (ws2 := [(h0, .inr (2, [.ref h1, .int (nI ((j + 1) % 12)), .int (nI (min (sz + 1) 12))])), (h1, .inl (gI g, 60, .inl (upd (upd (upd (upd (upd L0 (j * 5) (u1 + u2)) ((j * 5) + 1) u4) ((j * 5) + 2) (u5 + u6)) ((j * 5) + 3) (u7 + u8)) ((j * 5) + 4) u0))), (k0, .inr (6, [.int u0, .int u1, .int u2, .int u3, .int u4, .int u5, .int u6, .int u7, .int u8, .int u9, .int u10]))]) [0, 2, 1] rfl rfl ?_
  refine hret _ _ _ dX2_add_118 ?_
  exact rfl
set_option maxRecDepth 100000 in
set_option maxHeartbeats 4000000 in
theorem c_X2_about (g : Gd) (h0 : Nat) (h1 : Nat) (L0 : Nat → Int32) (j : Nat) (sz : Int32) (ago : Nat) (q : Nat) (hj : j < 12) (ha : ago < 12) (hq : q < 5) : Ki g yX2_about cX2_about 4 (some .int) 1 0 0 [.ref h0, .int (nI ago), .int (nI q)] [(h0, .inr (2, [.ref h1, .int (nI j), .int sz])), (h1, .inl (gI g, 60, .inl L0))] (fun (r : Int32) (w : va_W) => r = L0 ((j + 11 - ago) % 12 * 5 + q) ∧ w = [(h0, .inr (2, [.ref h1, .int (nI j), .int sz])), (h1, .inl (gI g, 60, .inl L0))]) := by
  refine Ki.of (by decide) (Nat.le_of_ble_eq_true rfl) (fun X C hI hret => ?_)
  show V g X 0 0 [(h0, .inr (2, [.ref h1, .int (nI j), .int sz])), (h1, .inl (gI g, 60, .inl L0))] 0 [(0, .ref h0), (1, .int (nI ago)), (2, .int (nI q))] []
  refine V_aload_n C 0 dX2_about_0 rfl rfl ?_
  refine V_get (v := .int (nI j)) C 0 rfl rfl in_X2 1 (by decide) fl_X2_19 rfl rfl dX2_about_1 ?_
  refine V_bipush (v := 12) C dX2_about_4 (by decide) ?_
  refine V_iadd C dX2_about_6 ?_
  refine V_ev (show ((nI j) + 12 : Int32) = nI (j + 12) from nI_add j 12) ?_
  refine V_iconst (v := 1) C dX2_about_7 (by decide) ?_
  refine V_isub C dX2_about_8 ?_
  refine V_ev (show ((nI (j + 12)) - 1 : Int32) = nI (j + 11) from nI_sub1 (j + 11)) ?_
  refine V_iload_n C 1 dX2_about_9 rfl rfl ?_
  refine V_isub C dX2_about_10 ?_
  refine V_ev (show ((nI (j + 11)) - (nI ago) : Int32) = nI (j + 11 - ago) from pk_sub (by omega)) ?_
  refine V_bipush (v := 12) C dX2_about_11 (by decide) ?_
  refine V_irem C dX2_about_13 (by decide) ?_
  refine V_ev (show ((nI (j + 11 - ago)) - (nI (j + 11 - ago)) / 12 * 12 : Int32) = nI ((j + 11 - ago) % 12) from pk_rem (d := 12) (by omega) (by omega) (by omega)) ?_
  refine V_istore_n (L2 := [(3, .int (nI ((j + 11 - ago) % 12))), (0, .ref h0), (1, .int (nI ago)), (2, .int (nI q))]) C dX2_about_14 rfl (by decide) rfl ?_
  refine V_aload_n C 1 dX2_about_15 rfl rfl ?_
  refine V_get (v := .ref h1) C 0 rfl rfl in_X2 0 (by decide) fl_X2_9 rfl rfl dX2_about_16 ?_
  refine V_iload_n C 0 dX2_about_19 rfl rfl ?_
  refine V_iconst (v := 5) C dX2_about_20 (by decide) ?_
  refine V_imul C dX2_about_21 ?_
  refine V_ev (show ((nI ((j + 11 - ago) % 12)) * 5 : Int32) = nI (((j + 11 - ago) % 12) * 5) from pk_mul ((j + 11 - ago) % 12) 5) ?_
  refine V_iload_n C 3 dX2_about_22 rfl rfl ?_
  refine V_iadd C dX2_about_23 ?_
  refine V_ev (show ((nI (((j + 11 - ago) % 12) * 5)) + (nI q) : Int32) = nI ((((j + 11 - ago) % 12) * 5) + q) from nI_add (((j + 11 - ago) % 12) * 5) q) ?_
  refine V_callNi (na := 2) (As := [.ref h1, .int (nI ((((j + 11 - ago) % 12) * 5) + q))]) (rest := []) (wr := [(h0, .inr (2, [.ref h1, .int (nI j), .int sz]))]) C (c_X9_at g h1 60 L0 (nI ((((j + 11 - ago) % 12) * 5) + q)) ((((j + 11 - ago) % 12) * 5) + q) (show ix (nI ((((j + 11 - ago) % 12) * 5) + q)) ((((j + 11 - ago) % 12) * 5) + q) 60 from by first | assumption | omega | exact ix_nI (by omega) (by omega) | decide) (show 60 < 2 ^ 31 from by first | assumption | omega | exact ix_nI (by omega) (by omega) | decide)) ⟨⟨ini_X9, co_X9_at, ⟨by decide, by decide, by decide +kernel⟩, by decide⟩, ⟨_, ml_X2_62⟩, sm_X9_at⟩ [1] [0] rfl rfl rfl rfl (by decide) rfl rfl (Nat.le_of_ble_eq_true rfl) (by omega) (by omega) dX2_about_24 (fun r_1 w_ hw_2 => ?_)
  obtain ⟨rfl, rfl⟩ := hw_2
  refine V_to (ws2 := [(h0, .inr (2, [.ref h1, .int (nI j), .int sz])), (h1, .inl (gI g, 60, .inl L0))]) ?_ rfl
  refine hret _ _ _ _ dX2_about_27 ?_
  exact ⟨rfl, rfl⟩
