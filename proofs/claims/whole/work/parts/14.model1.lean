
def okT (v : Int32) : Prop := ¬ v < 0 ∧ ¬ 2 < v

set_option maxRecDepth 100000 in
set_option maxHeartbeats 4000000 in
theorem c_X10_in (g : Gd) (v : Int32) (lo : Int32) (hi : Int32)  : Ki g yX10_in cX10_in 3 (some .boolean) 0 0 0 [.int v, .int lo, .int hi] [] (fun (r : Int32) (w : va_W) => (¬ v < lo ∧ ¬ hi < v ∧ r = 1 ∧ w = []) ∨ ((v < lo ∨ hi < v) ∧ r = 0 ∧ w = [])) := by
  refine Kz.of (by decide) (Nat.le_of_ble_eq_true rfl) (fun X C hI hret => ?_)
  show V g X 0 0 [] 0 [(0, .int v), (1, .int lo), (2, .int hi)] []
  refine V_iload_n C 0 dX10_in_0 rfl rfl ?_
  refine V_iload_n C 1 dX10_in_1 rfl rfl ?_
  refine V_icmp_lt (tgt := 14) C dX10_in_2 (by decide) (fun c_2 => ?_) (fun c_2 => ?_)
  · refine V_iconst (v := 0) C dX10_in_14 (by decide) ?_
    refine hret _ _ _ _ dX10_in_15 (by first | rfl | (split <;> rfl) | decide) ?_
    exact Or.inr ⟨Or.inl c_2, rfl, rfl⟩
  · refine V_iload_n C 0 dX10_in_5 rfl rfl ?_
    refine V_iload_n C 2 dX10_in_6 rfl rfl ?_
    refine V_icmp_gt (tgt := 14) C dX10_in_7 (by decide) (fun c_7 => ?_) (fun c_7 => ?_)
    · refine V_iconst (v := 0) C dX10_in_14 (by decide) ?_
      refine hret _ _ _ _ dX10_in_15 (by first | rfl | (split <;> rfl) | decide) ?_
      exact Or.inr ⟨Or.inr c_7, rfl, rfl⟩
    · refine V_iconst (v := 1) C dX10_in_10 (by decide) ?_
      refine V_goto (tgt := 15) C dX10_in_11 (by decide) ?_
      refine hret _ _ _ _ dX10_in_15 (by first | rfl | (split <;> rfl) | decide) ?_
      exact Or.inl ⟨c_2, c_7, rfl, rfl⟩
set_option maxRecDepth 100000 in
set_option maxHeartbeats 4000000 in
theorem c_X10_isTariff (g : Gd) (v : Int32)  : Ki g yX10_isTariff cX10_isTariff 1 (some .boolean) 1 0 0 [.int v] [] (fun (r : Int32) (w : va_W) => (okT v ∧ r = 1 ∧ w = []) ∨ (¬ okT v ∧ r = 0 ∧ w = [])) := by
  refine Kz.of (by decide) (Nat.le_of_ble_eq_true rfl) (fun X C hI hret => ?_)
  show V g X 0 0 [] 0 [(0, .int v)] []
  refine V_iload_n C 0 dX10_isTariff_0 rfl rfl ?_
  refine V_iconst (v := 0) C dX10_isTariff_1 (by decide) ?_
  refine V_iconst (v := 2) C dX10_isTariff_2 (by decide) ?_
  refine V_callSi (na := 3) (As := [.int v, .int 0, .int 2]) (rest := []) (wr := []) C (c_X10_in g v 0 2 ) ⟨⟨ini_X10, co_X10_in, ⟨by decide, by decide, by decide +kernel⟩, by decide⟩, ml_X10_33, sm_X10_in⟩ [] [] rfl rfl rfl rfl (by decide) rfl rfl (Nat.le_of_ble_eq_true rfl) (by omega) (by omega) dX10_isTariff_3 (fun r_1 w_ hw_2 => ?_)
  rcases hw_2 with ⟨hf2_0, hf2_1, rfl, rfl⟩ | ⟨hf2_0, rfl, rfl⟩
  · refine V_to (ws2 := []) ?_ rfl
    refine hret _ _ _ _ dX10_isTariff_6 (by first | rfl | (split <;> rfl) | decide) ?_
    exact Or.inl ⟨⟨hf2_0, hf2_1⟩, rfl, rfl⟩
  · refine V_to (ws2 := []) ?_ rfl
    refine hret _ _ _ _ dX10_isTariff_6 (by first | rfl | (split <;> rfl) | decide) ?_
    exact Or.inr ⟨fun h => (hf2_0).elim h.1 h.2, rfl, rfl⟩
set_option maxRecDepth 100000 in
set_option maxHeartbeats 4000000 in
theorem c_X10_isDrive (g : Gd) (p : Int32) (q : Int32)  : Ki g yX10_isDrive cX10_isDrive 2 (some .boolean) 1 0 0 [.int p, .int q] [] (fun (r : Int32) (w : va_W) => (okD p q ∧ r = 1 ∧ w = []) ∨ (¬ okD p q ∧ r = 0 ∧ w = [])) := by
  refine Kz.of (by decide) (Nat.le_of_ble_eq_true rfl) (fun X C hI hret => ?_)
  show V g X 0 0 [] 0 [(0, .int p), (1, .int q)] []
  refine V_iload_n C 0 dX10_isDrive_0 rfl rfl ?_
  refine V_iconst (v := 0) C dX10_isDrive_1 (by decide) ?_
  refine V_sipush (v := 9999) C dX10_isDrive_2 (by decide) ?_
  refine V_callSi (na := 3) (As := [.int p, .int 0, .int 9999]) (rest := []) (wr := []) C (c_X10_in g p 0 9999 ) ⟨⟨ini_X10, co_X10_in, ⟨by decide, by decide, by decide +kernel⟩, by decide⟩, ml_X10_33, sm_X10_in⟩ [] [] rfl rfl rfl rfl (by decide) rfl rfl (Nat.le_of_ble_eq_true rfl) (by omega) (by omega) dX10_isDrive_5 (fun r_1 w_ hw_2 => ?_)
  rcases hw_2 with ⟨hf2_0, hf2_1, rfl, rfl⟩ | ⟨hf2_0, rfl, rfl⟩
  · refine V_to (ws2 := []) ?_ rfl
    refine V_if_eq (tgt := 26) C dX10_isDrive_8 (by decide) (fun h => absurd h (by decide)) (fun _ => ?_)
    refine V_iload_n C 1 dX10_isDrive_11 rfl rfl ?_
    refine V_iconst (v := 1) C dX10_isDrive_12 (by decide) ?_
    refine V_sipush (v := 9999) C dX10_isDrive_13 (by decide) ?_
    refine V_callSi (na := 3) (As := [.int q, .int 1, .int 9999]) (rest := []) (wr := []) C (c_X10_in g q 1 9999 ) ⟨⟨ini_X10, co_X10_in, ⟨by decide, by decide, by decide +kernel⟩, by decide⟩, ml_X10_33, sm_X10_in⟩ [] [] rfl rfl rfl rfl (by decide) rfl rfl (Nat.le_of_ble_eq_true rfl) (by omega) (by omega) dX10_isDrive_16 (fun r_3 w_ hw_4 => ?_)
    rcases hw_4 with ⟨hf4_0, hf4_1, rfl, rfl⟩ | ⟨hf4_0, rfl, rfl⟩
    · refine V_to (ws2 := []) ?_ rfl
      refine V_if_eq (tgt := 26) C dX10_isDrive_19 (by decide) (fun h => absurd h (by decide)) (fun _ => ?_)
      refine V_iconst (v := 1) C dX10_isDrive_22 (by decide) ?_
      refine V_goto (tgt := 27) C dX10_isDrive_23 (by decide) ?_
      refine hret _ _ _ _ dX10_isDrive_27 (by first | rfl | (split <;> rfl) | decide) ?_
      exact Or.inl ⟨⟨hf2_0, hf2_1, hf4_0, hf4_1⟩, rfl, rfl⟩
    · refine V_to (ws2 := []) ?_ rfl
      refine V_if_eq (tgt := 26) C dX10_isDrive_19 (by decide) (fun _ => ?_) (fun h => absurd (by decide) h)
      refine V_iconst (v := 0) C dX10_isDrive_26 (by decide) ?_
      refine hret _ _ _ _ dX10_isDrive_27 (by first | rfl | (split <;> rfl) | decide) ?_
      exact Or.inr ⟨fun h => (hf4_0).elim h.2.2.1 h.2.2.2, rfl, rfl⟩
  · refine V_to (ws2 := []) ?_ rfl
    refine V_if_eq (tgt := 26) C dX10_isDrive_8 (by decide) (fun _ => ?_) (fun h => absurd (by decide) h)
    refine V_iconst (v := 0) C dX10_isDrive_26 (by decide) ?_
    refine hret _ _ _ _ dX10_isDrive_27 (by first | rfl | (split <;> rfl) | decide) ?_
    exact Or.inr ⟨fun h => (hf2_0).elim h.1 h.2.1, rfl, rfl⟩
set_option maxRecDepth 100000 in
set_option maxHeartbeats 4000000 in
theorem c_X10_its (g : Gd) (h0 : Nat) (h1 : Nat) (h2 : Nat) (h3 : Nat) (h4 : Nat) (h5 : Nat) (h6 : Nat) (h7 : Nat) (pm : Int32) (ty : Int32) (om : Int32) (sp : Int32) (wr : Int32) (z : Nat → Int32) (t : Nat) (w0 : Nat) (ht : t < 3) (hw : w0 < 4) : Ki g yX10_its cX10_its 3 (some .int) 0 0 0 [.ref h0, .int (nI t), .int (nI w0)] [(h0, .inr (10, [.ref h1, .ref h2, .ref h3, .ref h4, .int pm, .ref h5, .ref h6, .int ty, .ref h7, .int om, .int sp, .int wr])), (h1, .inl (gI g, 113, .inl z))] (fun (r : Int32) (w : va_W) => r = z (4 * t + w0) ∧ w = [(h0, .inr (10, [.ref h1, .ref h2, .ref h3, .ref h4, .int pm, .ref h5, .ref h6, .int ty, .ref h7, .int om, .int sp, .int wr])), (h1, .inl (gI g, 113, .inl z))]) := by
  refine Ki.of (by decide) (Nat.le_of_ble_eq_true rfl) (fun X C hI hret => ?_)
  show V g X 0 0 [(h0, .inr (10, [.ref h1, .ref h2, .ref h3, .ref h4, .int pm, .ref h5, .ref h6, .int ty, .ref h7, .int om, .int sp, .int wr])), (h1, .inl (gI g, 113, .inl z))] 0 [(0, .ref h0), (1, .int (nI t)), (2, .int (nI w0))] []
  refine V_aload_n C 0 dX10_its_0 rfl rfl ?_
  refine V_get (v := .ref h1) C 0 rfl rfl in_X10 0 (by decide) fl_X10_7 rfl rfl dX10_its_1 ?_
  refine V_iconst (v := 0) C dX10_its_4 (by decide) ?_
  refine V_iconst (v := 4) C dX10_its_5 (by decide) ?_
  refine V_iload_n C 1 dX10_its_6 rfl rfl ?_
  refine V_imul C dX10_its_7 ?_
  refine V_ev (show (4 * (nI t) : Int32) = nI (4 * t) from pk_mul 4 t) ?_
  refine V_iadd C dX10_its_8 ?_
  refine V_ev (show (0 + (nI (4 * t)) : Int32) = nI (4 * t) from Int32.zero_add _) ?_
  refine V_iload_n C 2 dX10_its_9 rfl rfl ?_
  refine V_iadd C dX10_its_10 ?_
  refine V_ev (show ((nI (4 * t)) + (nI w0) : Int32) = nI ((4 * t) + w0) from nI_add (4 * t) w0) ?_
  refine V_iald C 1 rfl (ix_nI (show (4 * t) + w0 < 113 by omega) (by omega)) dX10_its_11 ?_
  refine hret _ _ _ _ dX10_its_12 ?_
  exact ⟨rfl, rfl⟩
set_option maxRecDepth 100000 in
set_option maxHeartbeats 4000000 in
theorem c_X10_tariffAt (g : Gd) (h0 : Nat) (h1 : Nat) (h2 : Nat) (h3 : Nat) (h4 : Nat) (h5 : Nat) (h6 : Nat) (h7 : Nat) (pm : Int32) (ty : Int32) (om : Int32) (sp : Int32) (wr : Int32) (z : Nat → Int32) (c : Nat) (hc : c < 86400) : Ki g yX10_tariffAt cX10_tariffAt 2 (some .int) 0 0 0 [.ref h0, .int (nI c)] [(h0, .inr (10, [.ref h1, .ref h2, .ref h3, .ref h4, .int pm, .ref h5, .ref h6, .int ty, .ref h7, .int om, .int sp, .int wr])), (h1, .inl (gI g, 113, .inl z))] (fun (r : Int32) (w : va_W) => r = z (12 + c / 3600) ∧ w = [(h0, .inr (10, [.ref h1, .ref h2, .ref h3, .ref h4, .int pm, .ref h5, .ref h6, .int ty, .ref h7, .int om, .int sp, .int wr])), (h1, .inl (gI g, 113, .inl z))]) := by
  refine Ki.of (by decide) (Nat.le_of_ble_eq_true rfl) (fun X C hI hret => ?_)
  show V g X 0 0 [(h0, .inr (10, [.ref h1, .ref h2, .ref h3, .ref h4, .int pm, .ref h5, .ref h6, .int ty, .ref h7, .int om, .int sp, .int wr])), (h1, .inl (gI g, 113, .inl z))] 0 [(0, .ref h0), (1, .int (nI c))] []
  refine V_aload_n C 0 dX10_tariffAt_0 rfl rfl ?_
  refine V_get (v := .ref h1) C 0 rfl rfl in_X10 0 (by decide) fl_X10_7 rfl rfl dX10_tariffAt_1 ?_
  refine V_bipush (v := 12) C dX10_tariffAt_4 (by decide) ?_
  refine V_iload_n C 1 dX10_tariffAt_6 rfl rfl ?_
  refine V_sipush (v := 3600) C dX10_tariffAt_7 (by decide) ?_
  refine V_idiv C dX10_tariffAt_10 (by decide) ?_
  refine V_ev (show ((nI c) / 3600 : Int32) = nI (c / 3600) from pk_div (d := 3600) (by omega) (by omega) (by omega)) ?_
  refine V_iadd C dX10_tariffAt_11 ?_
  refine V_ev (show (12 + (nI (c / 3600)) : Int32) = nI (12 + (c / 3600)) from nI_add 12 (c / 3600)) ?_
  refine V_iald C 1 rfl (ix_nI (show 12 + (c / 3600) < 113 by omega) (by omega)) dX10_tariffAt_12 ?_
  refine hret _ _ _ _ dX10_tariffAt_13 ?_
  exact ⟨rfl, rfl⟩
set_option maxRecDepth 100000 in
set_option maxHeartbeats 4000000 in
theorem c_X10_productOf (g : Gd) (h0 : Nat) (h1 : Nat) (h2 : Nat) (h3 : Nat) (h4 : Nat) (h5 : Nat) (h6 : Nat) (h7 : Nat) (pm : Int32) (ty : Int32) (om : Int32) (sp : Int32) (wr : Int32) (z : Nat → Int32) (t : Nat) (ht : t < 3) : Ki g yX10_productOf cX10_productOf 2 (some .int) 1 0 0 [.ref h0, .int (nI t)] [(h0, .inr (10, [.ref h1, .ref h2, .ref h3, .ref h4, .int pm, .ref h5, .ref h6, .int ty, .ref h7, .int om, .int sp, .int wr])), (h1, .inl (gI g, 113, .inl z))] (fun (r : Int32) (w : va_W) => r = z (4 * t + 2) * z (4 * t + 3) ∧ w = [(h0, .inr (10, [.ref h1, .ref h2, .ref h3, .ref h4, .int pm, .ref h5, .ref h6, .int ty, .ref h7, .int om, .int sp, .int wr])), (h1, .inl (gI g, 113, .inl z))]) := by
  refine Ki.of (by decide) (Nat.le_of_ble_eq_true rfl) (fun X C hI hret => ?_)
  show V g X 0 0 [(h0, .inr (10, [.ref h1, .ref h2, .ref h3, .ref h4, .int pm, .ref h5, .ref h6, .int ty, .ref h7, .int om, .int sp, .int wr])), (h1, .inl (gI g, 113, .inl z))] 0 [(0, .ref h0), (1, .int (nI t))] []
  refine V_aload_n C 0 dX10_productOf_0 rfl rfl ?_
  refine V_iload_n C 1 dX10_productOf_1 rfl rfl ?_
  refine V_iconst (v := 2) C dX10_productOf_2 (by decide) ?_
  refine V_callVi (q0 := 0) (na := 2) (As := [.int (nI t), .int 2]) (rest := []) (wr := []) C (c_X10_its g h0 h1 h2 h3 h4 h5 h6 h7 pm ty om sp wr z t 2 (show t < 3 from by first | assumption | omega | exact ix_nI (by omega) (by omega) | decide) (show 2 < 4 from by first | assumption | omega | exact ix_nI (by omega) (by omega) | decide)) ⟨⟨ini_X10, co_X10_its, ⟨by decide, by decide, by decide +kernel⟩, by decide⟩, ml_X10_37, im_X10_its, se_X10_its⟩ [0, 1] [] rfl rfl rfl rfl (by decide) rfl rfl rfl rfl (Nat.le_of_ble_eq_true rfl) (by omega) (by omega) dX10_productOf_3 (fun r_1 w_ hw_2 => ?_)
  obtain ⟨rfl, rfl⟩ := hw_2
  refine V_to (ws2 := [(h0, .inr (10, [.ref h1, .ref h2, .ref h3, .ref h4, .int pm, .ref h5, .ref h6, .int ty, .ref h7, .int om, .int sp, .int wr])), (h1, .inl (gI g, 113, .inl z))]) ?_ rfl
  refine V_aload_n C 0 dX10_productOf_6 rfl rfl ?_
  refine V_iload_n C 1 dX10_productOf_7 rfl rfl ?_
  refine V_iconst (v := 3) C dX10_productOf_8 (by decide) ?_
  refine V_callVi (q0 := 0) (na := 2) (As := [.int (nI t), .int 3]) (rest := [.int (z (4 * t + 2))]) (wr := []) C (c_X10_its g h0 h1 h2 h3 h4 h5 h6 h7 pm ty om sp wr z t 3 (show t < 3 from by first | assumption | omega | exact ix_nI (by omega) (by omega) | decide) (show 3 < 4 from by first | assumption | omega | exact ix_nI (by omega) (by omega) | decide)) ⟨⟨ini_X10, co_X10_its, ⟨by decide, by decide, by decide +kernel⟩, by decide⟩, ml_X10_37, im_X10_its, se_X10_its⟩ [0, 1] [] rfl rfl rfl rfl (by decide) rfl rfl rfl rfl (Nat.le_of_ble_eq_true rfl) (by omega) (by omega) dX10_productOf_9 (fun r_3 w_ hw_4 => ?_)
  obtain ⟨rfl, rfl⟩ := hw_4
  refine V_to (ws2 := [(h0, .inr (10, [.ref h1, .ref h2, .ref h3, .ref h4, .int pm, .ref h5, .ref h6, .int ty, .ref h7, .int om, .int sp, .int wr])), (h1, .inl (gI g, 113, .inl z))]) ?_ rfl
  refine V_imul C dX10_productOf_12 ?_
  refine hret _ _ _ _ dX10_productOf_13 ?_
  exact ⟨rfl, rfl⟩
set_option maxRecDepth 100000 in
set_option maxHeartbeats 4000000 in
theorem c_X10_putAside (g : Gd) (h0 : Nat) (h1 : Nat) (h2 : Nat) (h3 : Nat) (h4 : Nat) (h5 : Nat) (h6 : Nat) (h7 : Nat) (pm : Int32) (ty : Int32) (om : Int32) (sp : Int32) (wr : Int32) (z : Nat → Int32) (y : Nat → Int32)  : Kv g yX10_putAside cX10_putAside 2 none 0 0 0 [.ref h0] [(h0, .inr (10, [.ref h1, .ref h2, .ref h3, .ref h4, .int pm, .ref h5, .ref h6, .int ty, .ref h7, .int om, .int sp, .int wr])), (h1, .inl (gI g, 113, .inl z)), (h5, .inl (gI g, 113, .inl y))] (fun (w : va_W) => w = [(h0, .inr (10, [.ref h1, .ref h2, .ref h3, .ref h4, .int pm, .ref h5, .ref h6, .int ty, .ref h7, .int om, .int sp, .int wr])), (h1, .inl (gI g, 113, .inl z)), (h5, .inl (gI g, 113, .inl z))]) := by
  refine Kv.of (by decide) (Nat.le_of_ble_eq_true rfl) (fun X C hI hret => ?_)
  show V g X 0 0 [(h0, .inr (10, [.ref h1, .ref h2, .ref h3, .ref h4, .int pm, .ref h5, .ref h6, .int ty, .ref h7, .int om, .int sp, .int wr])), (h1, .inl (gI g, 113, .inl z)), (h5, .inl (gI g, 113, .inl y))] 0 [(0, .ref h0)] []
  refine V_iconst (v := 0) C dX10_putAside_0 (by decide) ?_
  refine V_istore_n (L2 := [(1, .int 0), (0, .ref h0)]) C dX10_putAside_1 rfl (by decide) rfl ?_
  refine V_to (ws2 := [(h0, .inr (10, [.ref h1, .ref h2, .ref h3, .ref h4, .int pm, .ref h5, .ref h6, .int ty, .ref h7, .int om, .int sp, .int wr])), (h1, .inl (gI g, 113, .inl z)), (h5, .inl (gI g, 113, .inl (cpI z y 0 0)))]) ?_ (by rw [cpI_0])
  have loop_2 : ∀ (fu_2 : Nat) (j : Nat), j ≤ 113 → 113 - j < fu_2 → V g X 0 0 [(h0, .inr (10, [.ref h1, .ref h2, .ref h3, .ref h4, .int pm, .ref h5, .ref h6, .int ty, .ref h7, .int om, .int sp, .int wr])), (h1, .inl (gI g, 113, .inl z)), (h5, .inl (gI g, 113, .inl (cpI z y 0 j)))] 2 [(0, .ref h0), (1, .int (nI j))] [] := by
    intro fu_2
    induction fu_2 with
    | zero => intro j hj hm; exact absurd hm (by omega)
    | succ fu_2 ih_2 =>
      intro j hj hm
      refine V_iload_n C 1 dX10_putAside_2 rfl rfl ?_
      refine V_bipush (v := 113) C dX10_putAside_3 (by decide) ?_
      refine V_icmp_ge (tgt := 26) C dX10_putAside_5 (by decide) (fun c_5 => ?_) (fun c_5 => ?_)
      · have hj2 : j = 113 := by have := lp_ge 113 rfl (by omega) (by omega) c_5; omega
        subst hj2
        refine V_ext (f2 := z) (ws2 := [(h0, .inr (10, [.ref h1, .ref h2, .ref h3, .ref h4, .int pm, .ref h5, .ref h6, .int ty, .ref h7, .int om, .int sp, .int wr])), (h1, .inl (gI g, 113, .inl z)), (h5, .inl (gI g, 113, .inl z))]) 2 rfl (fun k hk => by rw [cpI_e k hk, Nat.zero_add]) rfl ?_
        refine hret _ _ _ dX10_putAside_26 ?_
        exact rfl
      · have hj2 : j < 113 := lp_lt 113 rfl (by omega) (by omega) c_5
        refine V_aload_n C 0 dX10_putAside_8 rfl rfl ?_
        refine V_get (v := .ref h5) C 0 rfl rfl in_X10 5 (by decide) fl_X10_23 rfl rfl dX10_putAside_9 ?_
        refine V_iload_n C 1 dX10_putAside_12 rfl rfl ?_
        refine V_aload_n C 0 dX10_putAside_13 rfl rfl ?_
        refine V_get (v := .ref h1) C 0 rfl rfl in_X10 0 (by decide) fl_X10_7 rfl rfl dX10_putAside_14 ?_
        refine V_iload_n C 1 dX10_putAside_17 rfl rfl ?_
        refine V_iald C 1 rfl (ix_nI (show j < 113 by omega) (by omega)) dX10_putAside_18 ?_
        refine V_iast (ws2 := [(h0, .inr (10, [.ref h1, .ref h2, .ref h3, .ref h4, .int pm, .ref h5, .ref h6, .int ty, .ref h7, .int om, .int sp, .int wr])), (h1, .inl (gI g, 113, .inl z)), (h5, .inl (gI g, 113, .inl (upd (cpI z y 0 j) j (z j))))]) C 2 rfl (ix_nI (show j < 113 by omega) (by omega)) dX10_putAside_19 rfl ?_
        refine V_to (ws2 := [(h0, .inr (10, [.ref h1, .ref h2, .ref h3, .ref h4, .int pm, .ref h5, .ref h6, .int ty, .ref h7, .int om, .int sp, .int wr])), (h1, .inl (gI g, 113, .inl z)), (h5, .inl (gI g, 113, .inl (cpI z y 0 (j + 1))))]) ?_ (by rw [← cpI_s, Nat.zero_add])
        refine V_iinc (v := nI (j + 1)) (L2 := [(1, .int (nI (j + 1))), (0, .ref h0)]) C 1 dX10_putAside_20 rfl (nI_add j 1) (by decide) rfl ?_
        refine V_goto (tgt := 2) C dX10_putAside_23 (by decide) ?_
        refine V_locs (L2 := [(0, .ref h0), (1, .int (nI (j + 1)))]) [1, 0] rfl ?_
        exact ih_2 (j + 1) (show (j + 1) ≤ 113 from by first | assumption | omega | rfl) (by omega)
  refine V_locs (L2 := [(0, .ref h0), (1, .int 0)]) [1, 0] rfl ?_
  exact loop_2 (113 - 0 + 1) 0 (show 0 ≤ 113 from by first | assumption | omega | rfl) (by omega)
set_option maxRecDepth 100000 in
set_option maxHeartbeats 4000000 in
theorem c_X10_bringBack (g : Gd) (h0 : Nat) (h1 : Nat) (h2 : Nat) (h3 : Nat) (h4 : Nat) (h5 : Nat) (h6 : Nat) (h7 : Nat) (pm : Int32) (ty : Int32) (om : Int32) (sp : Int32) (wr : Int32) (z : Nat → Int32) (y : Nat → Int32)  : Kv g yX10_bringBack cX10_bringBack 2 none 0 0 0 [.ref h0] [(h0, .inr (10, [.ref h1, .ref h2, .ref h3, .ref h4, .int pm, .ref h5, .ref h6, .int ty, .ref h7, .int om, .int sp, .int wr])), (h1, .inl (gI g, 113, .inl z)), (h5, .inl (gI g, 113, .inl y))] (fun (w : va_W) => w = [(h0, .inr (10, [.ref h1, .ref h2, .ref h3, .ref h4, .int pm, .ref h5, .ref h6, .int ty, .ref h7, .int om, .int sp, .int wr])), (h1, .inl (gI g, 113, .inl y)), (h5, .inl (gI g, 113, .inl y))]) := by
  refine Kv.of (by decide) (Nat.le_of_ble_eq_true rfl) (fun X C hI hret => ?_)
  show V g X 0 0 [(h0, .inr (10, [.ref h1, .ref h2, .ref h3, .ref h4, .int pm, .ref h5, .ref h6, .int ty, .ref h7, .int om, .int sp, .int wr])), (h1, .inl (gI g, 113, .inl z)), (h5, .inl (gI g, 113, .inl y))] 0 [(0, .ref h0)] []
  refine V_iconst (v := 0) C dX10_bringBack_0 (by decide) ?_
  refine V_istore_n (L2 := [(1, .int 0), (0, .ref h0)]) C dX10_bringBack_1 rfl (by decide) rfl ?_
  refine V_to (ws2 := [(h0, .inr (10, [.ref h1, .ref h2, .ref h3, .ref h4, .int pm, .ref h5, .ref h6, .int ty, .ref h7, .int om, .int sp, .int wr])), (h1, .inl (gI g, 113, .inl (cpI y z 0 0))), (h5, .inl (gI g, 113, .inl y))]) ?_ (by rw [cpI_0])
  have loop_2 : ∀ (fu_2 : Nat) (j : Nat), j ≤ 113 → 113 - j < fu_2 → V g X 0 0 [(h0, .inr (10, [.ref h1, .ref h2, .ref h3, .ref h4, .int pm, .ref h5, .ref h6, .int ty, .ref h7, .int om, .int sp, .int wr])), (h1, .inl (gI g, 113, .inl (cpI y z 0 j))), (h5, .inl (gI g, 113, .inl y))] 2 [(0, .ref h0), (1, .int (nI j))] [] := by
    intro fu_2
    induction fu_2 with
    | zero => intro j hj hm; exact absurd hm (by omega)
    | succ fu_2 ih_2 =>
      intro j hj hm
      refine V_iload_n C 1 dX10_bringBack_2 rfl rfl ?_
      refine V_bipush (v := 113) C dX10_bringBack_3 (by decide) ?_
      refine V_icmp_ge (tgt := 26) C dX10_bringBack_5 (by decide) (fun c_5 => ?_) (fun c_5 => ?_)
      · have hj2 : j = 113 := by have := lp_ge 113 rfl (by omega) (by omega) c_5; omega
        subst hj2
        refine V_ext (f2 := y) (ws2 := [(h0, .inr (10, [.ref h1, .ref h2, .ref h3, .ref h4, .int pm, .ref h5, .ref h6, .int ty, .ref h7, .int om, .int sp, .int wr])), (h1, .inl (gI g, 113, .inl y)), (h5, .inl (gI g, 113, .inl y))]) 1 rfl (fun k hk => by rw [cpI_e k hk, Nat.zero_add]) rfl ?_
        refine hret _ _ _ dX10_bringBack_26 ?_
        exact rfl
      · have hj2 : j < 113 := lp_lt 113 rfl (by omega) (by omega) c_5
        refine V_aload_n C 0 dX10_bringBack_8 rfl rfl ?_
        refine V_get (v := .ref h1) C 0 rfl rfl in_X10 0 (by decide) fl_X10_7 rfl rfl dX10_bringBack_9 ?_
        refine V_iload_n C 1 dX10_bringBack_12 rfl rfl ?_
        refine V_aload_n C 0 dX10_bringBack_13 rfl rfl ?_
        refine V_get (v := .ref h5) C 0 rfl rfl in_X10 5 (by decide) fl_X10_23 rfl rfl dX10_bringBack_14 ?_
        refine V_iload_n C 1 dX10_bringBack_17 rfl rfl ?_
        refine V_iald C 2 rfl (ix_nI (show j < 113 by omega) (by omega)) dX10_bringBack_18 ?_
        refine V_iast (ws2 := [(h0, .inr (10, [.ref h1, .ref h2, .ref h3, .ref h4, .int pm, .ref h5, .ref h6, .int ty, .ref h7, .int om, .int sp, .int wr])), (h1, .inl (gI g, 113, .inl (upd (cpI y z 0 j) j (y j)))), (h5, .inl (gI g, 113, .inl y))]) C 1 rfl (ix_nI (show j < 113 by omega) (by omega)) dX10_bringBack_19 rfl ?_
        refine V_to (ws2 := [(h0, .inr (10, [.ref h1, .ref h2, .ref h3, .ref h4, .int pm, .ref h5, .ref h6, .int ty, .ref h7, .int om, .int sp, .int wr])), (h1, .inl (gI g, 113, .inl (cpI y z 0 (j + 1)))), (h5, .inl (gI g, 113, .inl y))]) ?_ (by rw [← cpI_s, Nat.zero_add])
        refine V_iinc (v := nI (j + 1)) (L2 := [(1, .int (nI (j + 1))), (0, .ref h0)]) C 1 dX10_bringBack_20 rfl (nI_add j 1) (by decide) rfl ?_
        refine V_goto (tgt := 2) C dX10_bringBack_23 (by decide) ?_
        refine V_locs (L2 := [(0, .ref h0), (1, .int (nI (j + 1)))]) [1, 0] rfl ?_
        exact ih_2 (j + 1) (show (j + 1) ≤ 113 from by first | assumption | omega | rfl) (by omega)
  refine V_locs (L2 := [(0, .ref h0), (1, .int 0)]) [1, 0] rfl ?_
  exact loop_2 (113 - 0 + 1) 0 (show 0 ≤ 113 from by first | assumption | omega | rfl) (by omega)
set_option maxRecDepth 100000 in
set_option maxHeartbeats 4000000 in
theorem c_X10_hireIt (g : Gd) (h0 : Nat) (h1 : Nat) (h2 : Nat) (h3 : Nat) (h4 : Nat) (h5 : Nat) (h6 : Nat) (h7 : Nat) (pm : Int32) (ty : Int32) (om : Int32) (sp : Int32) (wr : Int32) (z : Nat → Int32) (c : Nat) (t : Nat) (hc : c < 86400) (hz : z 37 = nI c) (ht : t < 3) (hzt : z (12 + c / 3600) = nI t) : Ki g yX10_hireIt cX10_hireIt 2 (some .int) 2 0 0 [.ref h0] [(h0, .inr (10, [.ref h1, .ref h2, .ref h3, .ref h4, .int pm, .ref h5, .ref h6, .int ty, .ref h7, .int om, .int sp, .int wr])), (h1, .inl (gI g, 113, .inl z))] (fun (r : Int32) (w : va_W) => r = nI t ∧ w = [(h0, .inr (10, [.ref h1, .ref h2, .ref h3, .ref h4, .int pm, .ref h5, .ref h6, .int ty, .ref h7, .int om, .int sp, .int wr])), (h1, .inl (gI g, 113, .inl (hireZ z t)))]) := by
  refine Ki.of (by decide) (Nat.le_of_ble_eq_true rfl) (fun X C hI hret => ?_)
  show V g X 0 0 [(h0, .inr (10, [.ref h1, .ref h2, .ref h3, .ref h4, .int pm, .ref h5, .ref h6, .int ty, .ref h7, .int om, .int sp, .int wr])), (h1, .inl (gI g, 113, .inl z))] 0 [(0, .ref h0)] []
  refine V_bipush (v := 39) C dX10_hireIt_0 (by decide) ?_
  refine V_istore_n (L2 := [(1, .int 39), (0, .ref h0)]) C dX10_hireIt_2 rfl (by decide) rfl ?_
  refine V_to (ws2 := [(h0, .inr (10, [.ref h1, .ref h2, .ref h3, .ref h4, .int pm, .ref h5, .ref h6, .int ty, .ref h7, .int om, .int sp, .int wr])), (h1, .inl (gI g, 113, .inl (zer z 39 39)))]) ?_ (by rw [zer_0])
  have loop_3 : ∀ (fu_3 : Nat) (j : Nat), j ≤ 48 → 39 ≤ j → 48 - j < fu_3 → V g X 0 0 [(h0, .inr (10, [.ref h1, .ref h2, .ref h3, .ref h4, .int pm, .ref h5, .ref h6, .int ty, .ref h7, .int om, .int sp, .int wr])), (h1, .inl (gI g, 113, .inl (zer z 39 j)))] 3 [(0, .ref h0), (1, .int (nI j))] [] := by
    intro fu_3
    induction fu_3 with
    | zero => intro j hj hl hm; exact absurd hm (by omega)
    | succ fu_3 ih_3 =>
      intro j hj hl hm
      refine V_iload_n C 1 dX10_hireIt_3 rfl rfl ?_
      refine V_bipush (v := 47) C dX10_hireIt_4 (by decide) ?_
      refine V_icmp_gt (tgt := 22) C dX10_hireIt_6 (by decide) (fun c_6 => ?_) (fun c_6 => ?_)
      · have hj2 : j = 48 := by have := Int32.not_le.mpr c_6; have h9 : ¬ nI j ≤ 47 := this; rcases Nat.lt_or_ge j 48 with q | q; exact absurd (nI_le (a := j) (b := 47) (by omega) (by omega)) h9; omega
        subst hj2
        refine V_aload_n C 0 dX10_hireIt_22 rfl rfl ?_
        refine V_aload_n C 0 dX10_hireIt_23 rfl rfl ?_
        refine V_get (v := .ref h1) C 0 rfl rfl in_X10 0 (by decide) fl_X10_7 rfl rfl dX10_hireIt_24 ?_
        refine V_bipush (v := 37) C dX10_hireIt_27 (by decide) ?_
        refine V_iald C 1 rfl (show ix 37 37 113 from ix_nI (k := 37) (by omega) (by omega)) dX10_hireIt_29 ?_
        refine V_ev (show (zer z 39 48) 37 = z 37 from (zer_n (show ¬ (39 ≤ 37 ∧ 37 < 48) from by omega))) ?_
        refine V_ev (show (z 37 : Int32) = nI c from hz) ?_
        refine V_callVi (q0 := 0) (na := 1) (As := [.int (nI c)]) (rest := []) (wr := []) C (c_X10_tariffAt g h0 h1 h2 h3 h4 h5 h6 h7 pm ty om sp wr (zer z 39 48) c (show c < 86400 from by first | assumption | omega | exact ix_nI (by omega) (by omega) | decide)) ⟨⟨ini_X10, co_X10_tariffAt, ⟨by decide, by decide, by decide +kernel⟩, by decide⟩, ml_X10_52, im_X10_tariffAt, se_X10_tariffAt⟩ [0, 1] [] rfl rfl rfl rfl (by decide) rfl rfl rfl rfl (Nat.le_of_ble_eq_true rfl) (by omega) (by omega) dX10_hireIt_30 (fun r_1 w_ hw_2 => ?_)
        obtain ⟨rfl, rfl⟩ := hw_2
        refine V_to (ws2 := [(h0, .inr (10, [.ref h1, .ref h2, .ref h3, .ref h4, .int pm, .ref h5, .ref h6, .int ty, .ref h7, .int om, .int sp, .int wr])), (h1, .inl (gI g, 113, .inl (zer z 39 48)))]) ?_ rfl
        refine V_ev (show (zer z 39 48) (12 + c / 3600) = z (12 + c / 3600) from (zer_n (show ¬ (39 ≤ 12 + c / 3600 ∧ 12 + c / 3600 < 48) from by omega))) ?_
        refine V_ev (show (z (12 + c / 3600) : Int32) = nI t from hzt) ?_
        refine V_istore_n (L2 := [(1, .int (nI t)), (0, .ref h0)]) C dX10_hireIt_33 rfl (by decide) rfl ?_
        refine V_aload_n C 1 dX10_hireIt_34 rfl rfl ?_
        refine V_get (v := .ref h1) C 0 rfl rfl in_X10 0 (by decide) fl_X10_7 rfl rfl dX10_hireIt_35 ?_
        refine V_bipush (v := 38) C dX10_hireIt_38 (by decide) ?_
        refine V_iconst (v := 1) C dX10_hireIt_40 (by decide) ?_
        refine V_iast (ws2 := [(h0, .inr (10, [.ref h1, .ref h2, .ref h3, .ref h4, .int pm, .ref h5, .ref h6, .int ty, .ref h7, .int om, .int sp, .int wr])), (h1, .inl (gI g, 113, .inl (upd (zer z 39 48) 38 1)))]) C 1 rfl (show ix 38 38 113 from ix_nI (k := 38) (by omega) (by omega)) dX10_hireIt_41 rfl ?_
        refine V_aload_n C 1 dX10_hireIt_42 rfl rfl ?_
        refine V_get (v := .ref h1) C 0 rfl rfl in_X10 0 (by decide) fl_X10_7 rfl rfl dX10_hireIt_43 ?_
        refine V_bipush (v := 39) C dX10_hireIt_46 (by decide) ?_
        refine V_aload_n C 1 dX10_hireIt_48 rfl rfl ?_
        refine V_iload_n C 0 dX10_hireIt_49 rfl rfl ?_
        refine V_iconst (v := 0) C dX10_hireIt_50 (by decide) ?_
        refine V_callVi (q0 := 0) (na := 2) (As := [.int (nI t), .int 0]) (rest := [.int 39, .ref h1]) (wr := []) C (c_X10_its g h0 h1 h2 h3 h4 h5 h6 h7 pm ty om sp wr (upd (zer z 39 48) 38 1) t 0 (show t < 3 from by first | assumption | omega | exact ix_nI (by omega) (by omega) | decide) (show 0 < 4 from by first | assumption | omega | exact ix_nI (by omega) (by omega) | decide)) ⟨⟨ini_X10, co_X10_its, ⟨by decide, by decide, by decide +kernel⟩, by decide⟩, ml_X10_37, im_X10_its, se_X10_its⟩ [0, 1] [] rfl rfl rfl rfl (by decide) rfl rfl rfl rfl (Nat.le_of_ble_eq_true rfl) (by omega) (by omega) dX10_hireIt_51 (fun r_3 w_ hw_4 => ?_)
        obtain ⟨rfl, rfl⟩ := hw_4
        refine V_to (ws2 := [(h0, .inr (10, [.ref h1, .ref h2, .ref h3, .ref h4, .int pm, .ref h5, .ref h6, .int ty, .ref h7, .int om, .int sp, .int wr])), (h1, .inl (gI g, 113, .inl (upd (zer z 39 48) 38 1)))]) ?_ rfl
        refine V_ev (show (upd (zer z 39 48) 38 1) (4 * t + 0) = z (4 * t + 0) from ((upd_n (show 4 * t + 0 ≠ 38 from by omega)).trans (zer_n (show ¬ (39 ≤ 4 * t + 0 ∧ 4 * t + 0 < 48) from by omega)))) ?_
        refine V_iast (ws2 := [(h0, .inr (10, [.ref h1, .ref h2, .ref h3, .ref h4, .int pm, .ref h5, .ref h6, .int ty, .ref h7, .int om, .int sp, .int wr])), (h1, .inl (gI g, 113, .inl (upd (upd (zer z 39 48) 38 1) 39 (z (4 * t + 0)))))]) C 1 rfl (show ix 39 39 113 from ix_nI (k := 39) (by omega) (by omega)) dX10_hireIt_54 rfl ?_
        refine V_aload_n C 1 dX10_hireIt_55 rfl rfl ?_
        refine V_get (v := .ref h1) C 0 rfl rfl in_X10 0 (by decide) fl_X10_7 rfl rfl dX10_hireIt_56 ?_
        refine V_bipush (v := 48) C dX10_hireIt_59 (by decide) ?_
        refine V_aload_n C 1 dX10_hireIt_61 rfl rfl ?_
        refine V_iload_n C 0 dX10_hireIt_62 rfl rfl ?_
        refine V_callVi (q0 := 0) (na := 1) (As := [.int (nI t)]) (rest := [.int 48, .ref h1]) (wr := []) C (c_X10_productOf g h0 h1 h2 h3 h4 h5 h6 h7 pm ty om sp wr (upd (upd (zer z 39 48) 38 1) 39 (z (4 * t + 0))) t (show t < 3 from by first | assumption | omega | exact ix_nI (by omega) (by omega) | decide)) ⟨⟨ini_X10, co_X10_productOf, ⟨by decide, by decide, by decide +kernel⟩, by decide⟩, ml_X10_56, im_X10_productOf, se_X10_productOf⟩ [0, 1] [] rfl rfl rfl rfl (by decide) rfl rfl rfl rfl (Nat.le_of_ble_eq_true rfl) (by omega) (by omega) dX10_hireIt_63 (fun r_5 w_ hw_6 => ?_)
        obtain ⟨rfl, rfl⟩ := hw_6
        refine V_to (ws2 := [(h0, .inr (10, [.ref h1, .ref h2, .ref h3, .ref h4, .int pm, .ref h5, .ref h6, .int ty, .ref h7, .int om, .int sp, .int wr])), (h1, .inl (gI g, 113, .inl (upd (upd (zer z 39 48) 38 1) 39 (z (4 * t + 0)))))]) ?_ rfl
        refine V_ev (show ((upd (upd (zer z 39 48) 38 1) 39 (z (4 * t + 0))) (4 * t + 2) * (upd (upd (zer z 39 48) 38 1) 39 (z (4 * t + 0))) (4 * t + 3) : Int32) = z (4 * t + 2) * z (4 * t + 3) from by rw [upd_n (show 4 * t + 2 ≠ 39 from by omega), upd_n (show 4 * t + 2 ≠ 38 from by omega), zer_n (show ¬ (39 ≤ 4 * t + 2 ∧ 4 * t + 2 < 48) from by omega), upd_n (show 4 * t + 3 ≠ 39 from by omega), upd_n (show 4 * t + 3 ≠ 38 from by omega), zer_n (show ¬ (39 ≤ 4 * t + 3 ∧ 4 * t + 3 < 48) from by omega)]) ?_
        refine V_iast (ws2 := [(h0, .inr (10, [.ref h1, .ref h2, .ref h3, .ref h4, .int pm, .ref h5, .ref h6, .int ty, .ref h7, .int om, .int sp, .int wr])), (h1, .inl (gI g, 113, .inl (upd (upd (upd (zer z 39 48) 38 1) 39 (z (4 * t + 0))) 48 (z (4 * t + 2) * z (4 * t + 3)))))]) C 1 rfl (show ix 48 48 113 from ix_nI (k := 48) (by omega) (by omega)) dX10_hireIt_66 rfl ?_
        refine V_aload_n C 1 dX10_hireIt_67 rfl rfl ?_
        refine V_get (v := .ref h1) C 0 rfl rfl in_X10 0 (by decide) fl_X10_7 rfl rfl dX10_hireIt_68 ?_
        refine V_bipush (v := 49) C dX10_hireIt_71 (by decide) ?_
        refine V_aload_n C 1 dX10_hireIt_73 rfl rfl ?_
        refine V_get (v := .ref h1) C 0 rfl rfl in_X10 0 (by decide) fl_X10_7 rfl rfl dX10_hireIt_74 ?_
        refine V_bipush (v := 37) C dX10_hireIt_77 (by decide) ?_
        refine V_iald C 1 rfl (show ix 37 37 113 from ix_nI (k := 37) (by omega) (by omega)) dX10_hireIt_79 ?_
        refine V_ev (show (upd (upd (upd (zer z 39 48) 38 1) 39 (z (4 * t + 0))) 48 (z (4 * t + 2) * z (4 * t + 3))) 37 = z 37 from ((upd_n (show 37 ≠ 48 from by omega)).trans ((upd_n (show 37 ≠ 39 from by omega)).trans ((upd_n (show 37 ≠ 38 from by omega)).trans (zer_n (show ¬ (39 ≤ 37 ∧ 37 < 48) from by omega)))))) ?_
        refine V_iast (ws2 := [(h0, .inr (10, [.ref h1, .ref h2, .ref h3, .ref h4, .int pm, .ref h5, .ref h6, .int ty, .ref h7, .int om, .int sp, .int wr])), (h1, .inl (gI g, 113, .inl (upd (upd (upd (upd (zer z 39 48) 38 1) 39 (z (4 * t + 0))) 48 (z (4 * t + 2) * z (4 * t + 3))) 49 (z 37))))]) C 1 rfl (show ix 49 49 113 from ix_nI (k := 49) (by omega) (by omega)) dX10_hireIt_80 rfl ?_
        refine V_to (ws2 := [(h0, .inr (10, [.ref h1, .ref h2, .ref h3, .ref h4, .int pm, .ref h5, .ref h6, .int ty, .ref h7, .int om, .int sp, .int wr])), (h1, .inl (gI g, 113, .inl (hireZ z t)))]) ?_ rfl
        refine V_iload_n C 0 dX10_hireIt_81 rfl rfl ?_
        refine hret _ _ _ _ dX10_hireIt_82 ?_
        exact ⟨rfl, rfl⟩
      · have hj2 : j < 48 := by rcases Nat.lt_or_ge j 48 with q | q; exact q; exact absurd (nI_lt (a := 47) (b := j) (by omega) (by omega)) c_6
        refine V_aload_n C 0 dX10_hireIt_9 rfl rfl ?_
        refine V_get (v := .ref h1) C 0 rfl rfl in_X10 0 (by decide) fl_X10_7 rfl rfl dX10_hireIt_10 ?_
        refine V_iload_n C 1 dX10_hireIt_13 rfl rfl ?_
        refine V_iconst (v := 0) C dX10_hireIt_14 (by decide) ?_
        refine V_iast (ws2 := [(h0, .inr (10, [.ref h1, .ref h2, .ref h3, .ref h4, .int pm, .ref h5, .ref h6, .int ty, .ref h7, .int om, .int sp, .int wr])), (h1, .inl (gI g, 113, .inl (upd (zer z 39 j) j 0)))]) C 1 rfl (ix_nI (show j < 113 by omega) (by omega)) dX10_hireIt_15 rfl ?_
        refine V_to (ws2 := [(h0, .inr (10, [.ref h1, .ref h2, .ref h3, .ref h4, .int pm, .ref h5, .ref h6, .int ty, .ref h7, .int om, .int sp, .int wr])), (h1, .inl (gI g, 113, .inl (zer z 39 (j + 1))))]) ?_ (by rw [← zer_s hl])
        refine V_iinc (v := nI (j + 1)) (L2 := [(1, .int (nI (j + 1))), (0, .ref h0)]) C 1 dX10_hireIt_16 rfl (nI_add j 1) (by decide) rfl ?_
        refine V_goto (tgt := 3) C dX10_hireIt_19 (by decide) ?_
        refine V_locs (L2 := [(0, .ref h0), (1, .int (nI (j + 1)))]) [1, 0] rfl ?_
        exact ih_3 (j + 1) (show (j + 1) ≤ 48 from by first | assumption | omega | rfl) (show 39 ≤ (j + 1) from by first | assumption | omega | rfl) (by omega)
  refine V_locs (L2 := [(0, .ref h0), (1, .int 39)]) [1, 0] rfl ?_
  exact loop_3 (48 - 39 + 1) 39 (show 39 ≤ 48 from by first | assumption | omega | rfl) (show 39 ≤ 39 from by first | assumption | omega | rfl) (by omega)
set_option maxRecDepth 100000 in
set_option maxHeartbeats 4000000 in
theorem c_X10_carry (g : Gd) (h0 : Nat) (h1 : Nat) (h2 : Nat) (h3 : Nat) (h4 : Nat) (h5 : Nat) (h6 : Nat) (h7 : Nat) (pm : Int32) (ty : Int32) (om : Int32) (sp : Int32) (wr : Int32) (z : Nat → Int32) (pr : Int32) (h48 : ¬ z 48 = 0) : Kv g yX10_carry cX10_carry 2 none 0 0 0 [.ref h0, .int pr] [(h0, .inr (10, [.ref h1, .ref h2, .ref h3, .ref h4, .int pm, .ref h5, .ref h6, .int ty, .ref h7, .int om, .int sp, .int wr])), (h1, .inl (gI g, 113, .inl z))] (fun (w : va_W) => w = [(h0, .inr (10, [.ref h1, .ref h2, .ref h3, .ref h4, .int pm, .ref h5, .ref h6, .int ty, .ref h7, .int om, .int sp, .int wr])), (h1, .inl (gI g, 113, .inl (carZ z pr)))]) := by
  refine Kv.of (by decide) (Nat.le_of_ble_eq_true rfl) (fun X C hI hret => ?_)
  show V g X 0 0 [(h0, .inr (10, [.ref h1, .ref h2, .ref h3, .ref h4, .int pm, .ref h5, .ref h6, .int ty, .ref h7, .int om, .int sp, .int wr])), (h1, .inl (gI g, 113, .inl z))] 0 [(0, .ref h0), (1, .int pr)] []
  refine V_iload_n C 1 dX10_carry_0 rfl rfl ?_
  refine V_aload_n C 0 dX10_carry_1 rfl rfl ?_
  refine V_get (v := .ref h1) C 0 rfl rfl in_X10 0 (by decide) fl_X10_7 rfl rfl dX10_carry_2 ?_
  refine V_bipush (v := 48) C dX10_carry_5 (by decide) ?_
  refine V_iald C 1 rfl (show ix 48 48 113 from ix_nI (k := 48) (by omega) (by omega)) dX10_carry_7 ?_
  refine V_icmp_eq (tgt := 47) C dX10_carry_8 (by decide) (fun c_8 => ?_) (fun c_8 => ?_)
  · refine hret _ _ _ dX10_carry_47 ?_
    rw [carZ, if_pos c_8]
  · refine V_aload_n C 0 dX10_carry_11 rfl rfl ?_
    refine V_get (v := .ref h1) C 0 rfl rfl in_X10 0 (by decide) fl_X10_7 rfl rfl dX10_carry_12 ?_
    refine V_bipush (v := 47) C dX10_carry_15 (by decide) ?_
    refine V_aload_n C 0 dX10_carry_17 rfl rfl ?_
    refine V_get (v := .ref h1) C 0 rfl rfl in_X10 0 (by decide) fl_X10_7 rfl rfl dX10_carry_18 ?_
    refine V_bipush (v := 47) C dX10_carry_21 (by decide) ?_
    refine V_iald C 1 rfl (show ix 47 47 113 from ix_nI (k := 47) (by omega) (by omega)) dX10_carry_23 ?_
    refine V_i2l C dX10_carry_24 ?_
    refine V_iload_n C 1 dX10_carry_25 rfl rfl ?_
    refine V_i2l C dX10_carry_26 ?_
    refine V_lmul C dX10_carry_27 ?_
    refine V_aload_n C 0 dX10_carry_28 rfl rfl ?_
    refine V_get (v := .ref h1) C 0 rfl rfl in_X10 0 (by decide) fl_X10_7 rfl rfl dX10_carry_29 ?_
    refine V_bipush (v := 48) C dX10_carry_32 (by decide) ?_
    refine V_iald C 1 rfl (show ix 48 48 113 from ix_nI (k := 48) (by omega) (by omega)) dX10_carry_34 ?_
    refine V_i2l C dX10_carry_35 ?_
    refine V_ldiv C dX10_carry_36 (i64_0 h48) ?_
    refine V_l2i C dX10_carry_37 ?_
    refine V_iast (ws2 := [(h0, .inr (10, [.ref h1, .ref h2, .ref h3, .ref h4, .int pm, .ref h5, .ref h6, .int ty, .ref h7, .int om, .int sp, .int wr])), (h1, .inl (gI g, 113, .inl (upd z 47 (Int64.toInt32 (((Int32.toInt64 (z 47)) * (Int32.toInt64 pr)) / (Int32.toInt64 (z 48)))))))]) C 1 rfl (show ix 47 47 113 from ix_nI (k := 47) (by omega) (by omega)) dX10_carry_38 rfl ?_
    refine V_aload_n C 0 dX10_carry_39 rfl rfl ?_
    refine V_get (v := .ref h1) C 0 rfl rfl in_X10 0 (by decide) fl_X10_7 rfl rfl dX10_carry_40 ?_
    refine V_bipush (v := 48) C dX10_carry_43 (by decide) ?_
    refine V_iload_n C 1 dX10_carry_45 rfl rfl ?_
    refine V_iast (ws2 := [(h0, .inr (10, [.ref h1, .ref h2, .ref h3, .ref h4, .int pm, .ref h5, .ref h6, .int ty, .ref h7, .int om, .int sp, .int wr])), (h1, .inl (gI g, 113, .inl (upd (upd z 47 (Int64.toInt32 (((Int32.toInt64 (z 47)) * (Int32.toInt64 pr)) / (Int32.toInt64 (z 48))))) 48 pr)))]) C 1 rfl (show ix 48 48 113 from ix_nI (k := 48) (by omega) (by omega)) dX10_carry_46 rfl ?_
    refine hret _ _ _ dX10_carry_47 ?_
    rw [carZ, if_neg c_8]
set_option maxRecDepth 100000 in
set_option maxHeartbeats 4000000 in
theorem c_X10_driveSecond (g : Gd) (h0 : Nat) (h1 : Nat) (h2 : Nat) (h3 : Nat) (h4 : Nat) (h5 : Nat) (h6 : Nat) (h7 : Nat) (pm : Int32) (ty : Int32) (om : Int32) (sp : Int32) (wr : Int32) (z : Nat → Int32) (c : Nat) (t : Nat) (p : Int32) (hc : c < 86400) (hz : z 37 = nI c) (ht : t < 3) (hzt : z (12 + c / 3600) = nI t) (hp : ¬ z (4 * t + 2) * z (4 * t + 3) = 0) (h48 : ¬ z 48 = 0) : Ki g yX10_driveSecond cX10_driveSecond 7 (some .int) 2 0 0 [.ref h0, .int p] [(h0, .inr (10, [.ref h1, .ref h2, .ref h3, .ref h4, .int pm, .ref h5, .ref h6, .int ty, .ref h7, .int om, .int sp, .int wr])), (h1, .inl (gI g, 113, .inl z))] (fun (r : Int32) (w : va_W) => r = drpZ z t p ∧ w = [(h0, .inr (10, [.ref h1, .ref h2, .ref h3, .ref h4, .int pm, .ref h5, .ref h6, .int ty, .ref h7, .int om, .int sp, .int wr])), (h1, .inl (gI g, 113, .inl (secZ z c t p)))]) := by
  refine Ki.of (by decide) (Nat.le_of_ble_eq_true rfl) (fun X C hI hret => ?_)
  show V g X 0 0 [(h0, .inr (10, [.ref h1, .ref h2, .ref h3, .ref h4, .int pm, .ref h5, .ref h6, .int ty, .ref h7, .int om, .int sp, .int wr])), (h1, .inl (gI g, 113, .inl z))] 0 [(0, .ref h0), (1, .int p)] []
  refine V_aload_n C 0 dX10_driveSecond_0 rfl rfl ?_
  refine V_aload_n C 0 dX10_driveSecond_1 rfl rfl ?_
  refine V_get (v := .ref h1) C 0 rfl rfl in_X10 0 (by decide) fl_X10_7 rfl rfl dX10_driveSecond_2 ?_
  refine V_bipush (v := 37) C dX10_driveSecond_5 (by decide) ?_
  refine V_iald C 1 rfl (show ix 37 37 113 from ix_nI (k := 37) (by omega) (by omega)) dX10_driveSecond_7 ?_
  refine V_ev (show (z 37 : Int32) = nI c from hz) ?_
  refine V_callVi (q0 := 0) (na := 1) (As := [.int (nI c)]) (rest := []) (wr := []) C (c_X10_tariffAt g h0 h1 h2 h3 h4 h5 h6 h7 pm ty om sp wr z c (show c < 86400 from by first | assumption | omega | exact ix_nI (by omega) (by omega) | decide)) ⟨⟨ini_X10, co_X10_tariffAt, ⟨by decide, by decide, by decide +kernel⟩, by decide⟩, ml_X10_52, im_X10_tariffAt, se_X10_tariffAt⟩ [0, 1] [] rfl rfl rfl rfl (by decide) rfl rfl rfl rfl (Nat.le_of_ble_eq_true rfl) (by omega) (by omega) dX10_driveSecond_8 (fun r_1 w_ hw_2 => ?_)
  obtain ⟨rfl, rfl⟩ := hw_2
  refine V_to (ws2 := [(h0, .inr (10, [.ref h1, .ref h2, .ref h3, .ref h4, .int pm, .ref h5, .ref h6, .int ty, .ref h7, .int om, .int sp, .int wr])), (h1, .inl (gI g, 113, .inl z))]) ?_ rfl
  refine V_ev (show (z (12 + c / 3600) : Int32) = nI t from hzt) ?_
  refine V_istore_n (L2 := [(2, .int (nI t)), (0, .ref h0), (1, .int p)]) C dX10_driveSecond_11 rfl (by decide) rfl ?_
  refine V_aload_n C 1 dX10_driveSecond_12 rfl rfl ?_
  refine V_aload_n C 1 dX10_driveSecond_13 rfl rfl ?_
  refine V_iload_n C 0 dX10_driveSecond_14 rfl rfl ?_
  refine V_callVi (q0 := 0) (na := 1) (As := [.int (nI t)]) (rest := [.ref h0]) (wr := []) C (c_X10_productOf g h0 h1 h2 h3 h4 h5 h6 h7 pm ty om sp wr z t (show t < 3 from by first | assumption | omega | exact ix_nI (by omega) (by omega) | decide)) ⟨⟨ini_X10, co_X10_productOf, ⟨by decide, by decide, by decide +kernel⟩, by decide⟩, ml_X10_56, im_X10_productOf, se_X10_productOf⟩ [0, 1] [] rfl rfl rfl rfl (by decide) rfl rfl rfl rfl (Nat.le_of_ble_eq_true rfl) (by omega) (by omega) dX10_driveSecond_15 (fun r_3 w_ hw_4 => ?_)
  obtain ⟨rfl, rfl⟩ := hw_4
  refine V_to (ws2 := [(h0, .inr (10, [.ref h1, .ref h2, .ref h3, .ref h4, .int pm, .ref h5, .ref h6, .int ty, .ref h7, .int om, .int sp, .int wr])), (h1, .inl (gI g, 113, .inl z))]) ?_ rfl
  refine V_callVv (q0 := 0) (na := 1) (As := [.int (z (4 * t + 2) * z (4 * t + 3))]) (rest := []) (wr := []) C (c_X10_carry g h0 h1 h2 h3 h4 h5 h6 h7 pm ty om sp wr z (z (4 * t + 2) * z (4 * t + 3)) (show ¬ z 48 = 0 from by first | assumption | omega | exact ix_nI (by omega) (by omega) | decide)) ⟨⟨ini_X10, co_X10_carry, ⟨by decide, by decide, by decide +kernel⟩, by decide⟩, ml_X10_63, im_X10_carry, se_X10_carry⟩ [0, 1] [] rfl rfl rfl rfl (by decide) rfl rfl rfl rfl (Nat.le_of_ble_eq_true rfl) (by omega) (by omega) dX10_driveSecond_18 (fun w_ hw_6 => ?_)
  obtain rfl := hw_6
  refine V_to (ws2 := [(h0, .inr (10, [.ref h1, .ref h2, .ref h3, .ref h4, .int pm, .ref h5, .ref h6, .int ty, .ref h7, .int om, .int sp, .int wr])), (h1, .inl (gI g, 113, .inl (carZ z (z (4 * t + 2) * z (4 * t + 3)))))]) ?_ rfl
  refine V_iload_n C 2 dX10_driveSecond_21 rfl rfl ?_
  refine V_aload_n C 1 dX10_driveSecond_22 rfl rfl ?_
  refine V_iload_n C 0 dX10_driveSecond_23 rfl rfl ?_
  refine V_iconst (v := 3) C dX10_driveSecond_24 (by decide) ?_
  refine V_callVi (q0 := 0) (na := 2) (As := [.int (nI t), .int 3]) (rest := [.int p]) (wr := []) C (c_X10_its g h0 h1 h2 h3 h4 h5 h6 h7 pm ty om sp wr (carZ z (z (4 * t + 2) * z (4 * t + 3))) t 3 (show t < 3 from by first | assumption | omega | exact ix_nI (by omega) (by omega) | decide) (show 3 < 4 from by first | assumption | omega | exact ix_nI (by omega) (by omega) | decide)) ⟨⟨ini_X10, co_X10_its, ⟨by decide, by decide, by decide +kernel⟩, by decide⟩, ml_X10_37, im_X10_its, se_X10_its⟩ [0, 1] [] rfl rfl rfl rfl (by decide) rfl rfl rfl rfl (Nat.le_of_ble_eq_true rfl) (by omega) (by omega) dX10_driveSecond_25 (fun r_7 w_ hw_8 => ?_)
  obtain ⟨rfl, rfl⟩ := hw_8
  refine V_to (ws2 := [(h0, .inr (10, [.ref h1, .ref h2, .ref h3, .ref h4, .int pm, .ref h5, .ref h6, .int ty, .ref h7, .int om, .int sp, .int wr])), (h1, .inl (gI g, 113, .inl (carZ z (z (4 * t + 2) * z (4 * t + 3)))))]) ?_ rfl
  refine V_ev (show (carZ z (z (4 * t + 2) * z (4 * t + 3))) (4 * t + 3) = z (4 * t + 3) from (carZ_n (show 4 * t + 3 ≠ 47 ∧ 4 * t + 3 ≠ 48 from by omega))) ?_
  refine V_imul C dX10_driveSecond_28 ?_
  refine V_istore_n (L2 := [(3, .int (p * (z (4 * t + 3)))), (2, .int (nI t)), (0, .ref h0), (1, .int p)]) C dX10_driveSecond_29 rfl (by decide) rfl ?_
  refine V_iload_n C 0 dX10_driveSecond_30 rfl rfl ?_
  refine V_aload_n C 2 dX10_driveSecond_31 rfl rfl ?_
  refine V_iload_n C 1 dX10_driveSecond_32 rfl rfl ?_
  refine V_iconst (v := 2) C dX10_driveSecond_33 (by decide) ?_
  refine V_callVi (q0 := 0) (na := 2) (As := [.int (nI t), .int 2]) (rest := [.int (p * (z (4 * t + 3)))]) (wr := []) C (c_X10_its g h0 h1 h2 h3 h4 h5 h6 h7 pm ty om sp wr (carZ z (z (4 * t + 2) * z (4 * t + 3))) t 2 (show t < 3 from by first | assumption | omega | exact ix_nI (by omega) (by omega) | decide) (show 2 < 4 from by first | assumption | omega | exact ix_nI (by omega) (by omega) | decide)) ⟨⟨ini_X10, co_X10_its, ⟨by decide, by decide, by decide +kernel⟩, by decide⟩, ml_X10_37, im_X10_its, se_X10_its⟩ [0, 1] [] rfl rfl rfl rfl (by decide) rfl rfl rfl rfl (Nat.le_of_ble_eq_true rfl) (by omega) (by omega) dX10_driveSecond_34 (fun r_9 w_ hw_10 => ?_)
  obtain ⟨rfl, rfl⟩ := hw_10
  refine V_to (ws2 := [(h0, .inr (10, [.ref h1, .ref h2, .ref h3, .ref h4, .int pm, .ref h5, .ref h6, .int ty, .ref h7, .int om, .int sp, .int wr])), (h1, .inl (gI g, 113, .inl (carZ z (z (4 * t + 2) * z (4 * t + 3)))))]) ?_ rfl
  refine V_ev (show (carZ z (z (4 * t + 2) * z (4 * t + 3))) (4 * t + 2) = z (4 * t + 2) from (carZ_n (show 4 * t + 2 ≠ 47 ∧ 4 * t + 2 ≠ 48 from by omega))) ?_
  refine V_icmp_lt (tgt := 44) C dX10_driveSecond_37 (by decide) (fun c_37 => ?_) (fun c_37 => ?_)
  · refine V_iconst (v := 0) C dX10_driveSecond_44 (by decide) ?_
    refine V_istore (L2 := [(4, .int 0), (3, .int (p * (z (4 * t + 3)))), (2, .int (nI t)), (0, .ref h0), (1, .int p)]) C dX10_driveSecond_45 (by decide) rfl ?_
    refine V_aload_n C 3 dX10_driveSecond_47 rfl rfl ?_
    refine V_get (v := .ref h1) C 0 rfl rfl in_X10 0 (by decide) fl_X10_7 rfl rfl dX10_driveSecond_48 ?_
    refine V_bipush (v := 47) C dX10_driveSecond_51 (by decide) ?_
    refine V_dup2 C dX10_driveSecond_53 rfl rfl ?_
    refine V_iald C 1 rfl (show ix 47 47 113 from ix_nI (k := 47) (by omega) (by omega)) dX10_driveSecond_54 ?_
    refine V_iload C 0 dX10_driveSecond_55 rfl ?_
    refine V_if_eq (tgt := 64) C dX10_driveSecond_57 (by decide) (fun _ => ?_) (fun h => absurd (by decide) h)
    refine V_aload_n C 3 dX10_driveSecond_64 rfl rfl ?_
    refine V_iload_n C 2 dX10_driveSecond_65 rfl rfl ?_
    refine V_iconst (v := 2) C dX10_driveSecond_66 (by decide) ?_
    refine V_callVi (q0 := 0) (na := 2) (As := [.int (nI t), .int 2]) (rest := [.int ((carZ z (z (4 * t + 2) * z (4 * t + 3))) 47), .int 47, .ref h1]) (wr := []) C (c_X10_its g h0 h1 h2 h3 h4 h5 h6 h7 pm ty om sp wr (carZ z (z (4 * t + 2) * z (4 * t + 3))) t 2 (show t < 3 from by first | assumption | omega | exact ix_nI (by omega) (by omega) | decide) (show 2 < 4 from by first | assumption | omega | exact ix_nI (by omega) (by omega) | decide)) ⟨⟨ini_X10, co_X10_its, ⟨by decide, by decide, by decide +kernel⟩, by decide⟩, ml_X10_37, im_X10_its, se_X10_its⟩ [0, 1] [] rfl rfl rfl rfl (by decide) rfl rfl rfl rfl (Nat.le_of_ble_eq_true rfl) (by omega) (by omega) dX10_driveSecond_67 (fun r_11 w_ hw_12 => ?_)
    obtain ⟨rfl, rfl⟩ := hw_12
    refine V_to (ws2 := [(h0, .inr (10, [.ref h1, .ref h2, .ref h3, .ref h4, .int pm, .ref h5, .ref h6, .int ty, .ref h7, .int om, .int sp, .int wr])), (h1, .inl (gI g, 113, .inl (carZ z (z (4 * t + 2) * z (4 * t + 3)))))]) ?_ rfl
    refine V_ev (show (carZ z (z (4 * t + 2) * z (4 * t + 3))) (4 * t + 2) = z (4 * t + 2) from (carZ_n (show 4 * t + 2 ≠ 47 ∧ 4 * t + 2 ≠ 48 from by omega))) ?_
    refine V_iadd C dX10_driveSecond_70 ?_
    refine V_iast (ws2 := [(h0, .inr (10, [.ref h1, .ref h2, .ref h3, .ref h4, .int pm, .ref h5, .ref h6, .int ty, .ref h7, .int om, .int sp, .int wr])), (h1, .inl (gI g, 113, .inl (upd (carZ z (z (4 * t + 2) * z (4 * t + 3))) 47 (((carZ z (z (4 * t + 2) * z (4 * t + 3))) 47) + (z (4 * t + 2))))))]) C 1 rfl (show ix 47 47 113 from ix_nI (k := 47) (by omega) (by omega)) dX10_driveSecond_71 rfl ?_
    refine V_aload_n C 3 dX10_driveSecond_72 rfl rfl ?_
    refine V_get (v := .ref h1) C 0 rfl rfl in_X10 0 (by decide) fl_X10_7 rfl rfl dX10_driveSecond_73 ?_
    refine V_bipush (v := 47) C dX10_driveSecond_76 (by decide) ?_
    refine V_iald C 1 rfl (show ix 47 47 113 from ix_nI (k := 47) (by omega) (by omega)) dX10_driveSecond_78 ?_
    refine V_ev (show (upd (carZ z (z (4 * t + 2) * z (4 * t + 3))) 47 (((carZ z (z (4 * t + 2) * z (4 * t + 3))) 47) + (z (4 * t + 2)))) 47 = ((carZ z (z (4 * t + 2) * z (4 * t + 3))) 47) + (z (4 * t + 2)) from (upd_s)) ?_
    refine V_aload_n C 3 dX10_driveSecond_79 rfl rfl ?_
    refine V_get (v := .ref h1) C 0 rfl rfl in_X10 0 (by decide) fl_X10_7 rfl rfl dX10_driveSecond_80 ?_
    refine V_bipush (v := 48) C dX10_driveSecond_83 (by decide) ?_
    refine V_iald C 1 rfl (show ix 48 48 113 from ix_nI (k := 48) (by omega) (by omega)) dX10_driveSecond_85 ?_
    refine V_ev (show (upd (carZ z (z (4 * t + 2) * z (4 * t + 3))) 47 (((carZ z (z (4 * t + 2) * z (4 * t + 3))) 47) + (z (4 * t + 2)))) 48 = z (4 * t + 2) * z (4 * t + 3) from ((upd_n (show 48 ≠ 47 from by omega)).trans (carZ_48))) ?_
    refine V_idiv C dX10_driveSecond_86 (hp) ?_
    refine V_istore (L2 := [(5, .int ((((carZ z (z (4 * t + 2) * z (4 * t + 3))) 47) + (z (4 * t + 2))) / (z (4 * t + 2) * z (4 * t + 3)))), (4, .int 0), (3, .int (p * (z (4 * t + 3)))), (2, .int (nI t)), (0, .ref h0), (1, .int p)]) C dX10_driveSecond_87 (by decide) rfl ?_
    refine V_aload_n C 4 dX10_driveSecond_89 rfl rfl ?_
    refine V_get (v := .ref h1) C 0 rfl rfl in_X10 0 (by decide) fl_X10_7 rfl rfl dX10_driveSecond_90 ?_
    refine V_bipush (v := 47) C dX10_driveSecond_93 (by decide) ?_
    refine V_dup2 C dX10_driveSecond_95 rfl rfl ?_
    refine V_iald C 1 rfl (show ix 47 47 113 from ix_nI (k := 47) (by omega) (by omega)) dX10_driveSecond_96 ?_
    refine V_ev (show (upd (carZ z (z (4 * t + 2) * z (4 * t + 3))) 47 (((carZ z (z (4 * t + 2) * z (4 * t + 3))) 47) + (z (4 * t + 2)))) 47 = ((carZ z (z (4 * t + 2) * z (4 * t + 3))) 47) + (z (4 * t + 2)) from (upd_s)) ?_
    refine V_iload C 0 dX10_driveSecond_97 rfl ?_
    refine V_aload_n C 4 dX10_driveSecond_99 rfl rfl ?_
    refine V_get (v := .ref h1) C 0 rfl rfl in_X10 0 (by decide) fl_X10_7 rfl rfl dX10_driveSecond_100 ?_
    refine V_bipush (v := 48) C dX10_driveSecond_103 (by decide) ?_
    refine V_iald C 1 rfl (show ix 48 48 113 from ix_nI (k := 48) (by omega) (by omega)) dX10_driveSecond_105 ?_
    refine V_ev (show (upd (carZ z (z (4 * t + 2) * z (4 * t + 3))) 47 (((carZ z (z (4 * t + 2) * z (4 * t + 3))) 47) + (z (4 * t + 2)))) 48 = z (4 * t + 2) * z (4 * t + 3) from ((upd_n (show 48 ≠ 47 from by omega)).trans (carZ_48))) ?_
    refine V_imul C dX10_driveSecond_106 ?_
    refine V_isub C dX10_driveSecond_107 ?_
    refine V_iast (ws2 := [(h0, .inr (10, [.ref h1, .ref h2, .ref h3, .ref h4, .int pm, .ref h5, .ref h6, .int ty, .ref h7, .int om, .int sp, .int wr])), (h1, .inl (gI g, 113, .inl (upd (upd (carZ z (z (4 * t + 2) * z (4 * t + 3))) 47 (((carZ z (z (4 * t + 2) * z (4 * t + 3))) 47) + (z (4 * t + 2)))) 47 ((((carZ z (z (4 * t + 2) * z (4 * t + 3))) 47) + (z (4 * t + 2))) - (((((carZ z (z (4 * t + 2) * z (4 * t + 3))) 47) + (z (4 * t + 2))) / (z (4 * t + 2) * z (4 * t + 3))) * (z (4 * t + 2) * z (4 * t + 3)))))))]) C 1 rfl (show ix 47 47 113 from ix_nI (k := 47) (by omega) (by omega)) dX10_driveSecond_108 rfl ?_
    refine V_aload_n C 4 dX10_driveSecond_109 rfl rfl ?_
    refine V_get (v := .ref h1) C 0 rfl rfl in_X10 0 (by decide) fl_X10_7 rfl rfl dX10_driveSecond_110 ?_
    refine V_bipush (v := 39) C dX10_driveSecond_113 (by decide) ?_
    refine V_iald C 1 rfl (show ix 39 39 113 from ix_nI (k := 39) (by omega) (by omega)) dX10_driveSecond_115 ?_
    refine V_ev (show (upd (upd (carZ z (z (4 * t + 2) * z (4 * t + 3))) 47 (((carZ z (z (4 * t + 2) * z (4 * t + 3))) 47) + (z (4 * t + 2)))) 47 ((((carZ z (z (4 * t + 2) * z (4 * t + 3))) 47) + (z (4 * t + 2))) - (((((carZ z (z (4 * t + 2) * z (4 * t + 3))) 47) + (z (4 * t + 2))) / (z (4 * t + 2) * z (4 * t + 3))) * (z (4 * t + 2) * z (4 * t + 3))))) 39 = z 39 from ((upd_n (show 39 ≠ 47 from by omega)).trans ((upd_n (show 39 ≠ 47 from by omega)).trans (carZ_n (show 39 ≠ 47 ∧ 39 ≠ 48 from by omega))))) ?_
    refine V_iload C 0 dX10_driveSecond_116 rfl ?_
    refine V_aload_n C 4 dX10_driveSecond_118 rfl rfl ?_
    refine V_iload_n C 3 dX10_driveSecond_119 rfl rfl ?_
    refine V_iconst (v := 1) C dX10_driveSecond_120 (by decide) ?_
    refine V_callVi (q0 := 0) (na := 2) (As := [.int (nI t), .int 1]) (rest := [.int ((((carZ z (z (4 * t + 2) * z (4 * t + 3))) 47) + (z (4 * t + 2))) / (z (4 * t + 2) * z (4 * t + 3))), .int (z 39)]) (wr := []) C (c_X10_its g h0 h1 h2 h3 h4 h5 h6 h7 pm ty om sp wr (upd (upd (carZ z (z (4 * t + 2) * z (4 * t + 3))) 47 (((carZ z (z (4 * t + 2) * z (4 * t + 3))) 47) + (z (4 * t + 2)))) 47 ((((carZ z (z (4 * t + 2) * z (4 * t + 3))) 47) + (z (4 * t + 2))) - (((((carZ z (z (4 * t + 2) * z (4 * t + 3))) 47) + (z (4 * t + 2))) / (z (4 * t + 2) * z (4 * t + 3))) * (z (4 * t + 2) * z (4 * t + 3))))) t 1 (show t < 3 from by first | assumption | omega | exact ix_nI (by omega) (by omega) | decide) (show 1 < 4 from by first | assumption | omega | exact ix_nI (by omega) (by omega) | decide)) ⟨⟨ini_X10, co_X10_its, ⟨by decide, by decide, by decide +kernel⟩, by decide⟩, ml_X10_37, im_X10_its, se_X10_its⟩ [0, 1] [] rfl rfl rfl rfl (by decide) rfl rfl rfl rfl (Nat.le_of_ble_eq_true rfl) (by omega) (by omega) dX10_driveSecond_121 (fun r_13 w_ hw_14 => ?_)
    obtain ⟨rfl, rfl⟩ := hw_14
    refine V_to (ws2 := [(h0, .inr (10, [.ref h1, .ref h2, .ref h3, .ref h4, .int pm, .ref h5, .ref h6, .int ty, .ref h7, .int om, .int sp, .int wr])), (h1, .inl (gI g, 113, .inl (upd (upd (carZ z (z (4 * t + 2) * z (4 * t + 3))) 47 (((carZ z (z (4 * t + 2) * z (4 * t + 3))) 47) + (z (4 * t + 2)))) 47 ((((carZ z (z (4 * t + 2) * z (4 * t + 3))) 47) + (z (4 * t + 2))) - (((((carZ z (z (4 * t + 2) * z (4 * t + 3))) 47) + (z (4 * t + 2))) / (z (4 * t + 2) * z (4 * t + 3))) * (z (4 * t + 2) * z (4 * t + 3)))))))]) ?_ rfl
    refine V_ev (show (upd (upd (carZ z (z (4 * t + 2) * z (4 * t + 3))) 47 (((carZ z (z (4 * t + 2) * z (4 * t + 3))) 47) + (z (4 * t + 2)))) 47 ((((carZ z (z (4 * t + 2) * z (4 * t + 3))) 47) + (z (4 * t + 2))) - (((((carZ z (z (4 * t + 2) * z (4 * t + 3))) 47) + (z (4 * t + 2))) / (z (4 * t + 2) * z (4 * t + 3))) * (z (4 * t + 2) * z (4 * t + 3))))) (4 * t + 1) = z (4 * t + 1) from ((upd_n (show 4 * t + 1 ≠ 47 from by omega)).trans ((upd_n (show 4 * t + 1 ≠ 47 from by omega)).trans (carZ_n (show 4 * t + 1 ≠ 47 ∧ 4 * t + 1 ≠ 48 from by omega))))) ?_
    refine V_imul C dX10_driveSecond_124 ?_
    refine V_iadd C dX10_driveSecond_125 ?_
    refine V_istore (L2 := [(6, .int ((z 39) + (((((carZ z (z (4 * t + 2) * z (4 * t + 3))) 47) + (z (4 * t + 2))) / (z (4 * t + 2) * z (4 * t + 3))) * (z (4 * t + 1))))), (5, .int ((((carZ z (z (4 * t + 2) * z (4 * t + 3))) 47) + (z (4 * t + 2))) / (z (4 * t + 2) * z (4 * t + 3)))), (4, .int 0), (3, .int (p * (z (4 * t + 3)))), (2, .int (nI t)), (0, .ref h0), (1, .int p)]) C dX10_driveSecond_126 (by decide) rfl ?_
    refine V_aload_n C 5 dX10_driveSecond_128 rfl rfl ?_
    refine V_get (v := .ref h1) C 0 rfl rfl in_X10 0 (by decide) fl_X10_7 rfl rfl dX10_driveSecond_129 ?_
    refine V_bipush (v := 39) C dX10_driveSecond_132 (by decide) ?_
    refine V_iload C 0 dX10_driveSecond_134 rfl ?_
    refine V_ldc (v := 9999999) C k_X10_67 dX10_driveSecond_136 ?_
    refine V_icmp_ge (tgt := 146) C dX10_driveSecond_138 (by decide) (fun c_138 => ?_) (fun c_138 => ?_)
    · refine V_ldc (v := 9999999) C k_X10_67 dX10_driveSecond_146 ?_
      refine V_iast (ws2 := [(h0, .inr (10, [.ref h1, .ref h2, .ref h3, .ref h4, .int pm, .ref h5, .ref h6, .int ty, .ref h7, .int om, .int sp, .int wr])), (h1, .inl (gI g, 113, .inl (upd (upd (upd (carZ z (z (4 * t + 2) * z (4 * t + 3))) 47 (((carZ z (z (4 * t + 2) * z (4 * t + 3))) 47) + (z (4 * t + 2)))) 47 ((((carZ z (z (4 * t + 2) * z (4 * t + 3))) 47) + (z (4 * t + 2))) - (((((carZ z (z (4 * t + 2) * z (4 * t + 3))) 47) + (z (4 * t + 2))) / (z (4 * t + 2) * z (4 * t + 3))) * (z (4 * t + 2) * z (4 * t + 3))))) 39 9999999)))]) C 1 rfl (show ix 39 39 113 from ix_nI (k := 39) (by omega) (by omega)) dX10_driveSecond_148 rfl ?_
      refine V_aload_n C 5 dX10_driveSecond_149 rfl rfl ?_
      refine V_get (v := .ref h1) C 0 rfl rfl in_X10 0 (by decide) fl_X10_7 rfl rfl dX10_driveSecond_150 ?_
      refine V_iload C 2 dX10_driveSecond_153 rfl ?_
      refine V_if_eq (tgt := 163) C dX10_driveSecond_155 (by decide) (fun _ => ?_) (fun h => absurd (by decide) h)
      refine V_bipush (v := 45) C dX10_driveSecond_163 (by decide) ?_
      refine V_dup2 C dX10_driveSecond_165 rfl rfl ?_
      refine V_iald C 1 rfl (show ix 45 45 113 from ix_nI (k := 45) (by omega) (by omega)) dX10_driveSecond_166 ?_
      refine V_ev (show (upd (upd (upd (carZ z (z (4 * t + 2) * z (4 * t + 3))) 47 (((carZ z (z (4 * t + 2) * z (4 * t + 3))) 47) + (z (4 * t + 2)))) 47 ((((carZ z (z (4 * t + 2) * z (4 * t + 3))) 47) + (z (4 * t + 2))) - (((((carZ z (z (4 * t + 2) * z (4 * t + 3))) 47) + (z (4 * t + 2))) / (z (4 * t + 2) * z (4 * t + 3))) * (z (4 * t + 2) * z (4 * t + 3))))) 39 9999999) 45 = z 45 from ((upd_n (show 45 ≠ 39 from by omega)).trans ((upd_n (show 45 ≠ 47 from by omega)).trans ((upd_n (show 45 ≠ 47 from by omega)).trans (carZ_n (show 45 ≠ 47 ∧ 45 ≠ 48 from by omega)))))) ?_
      refine V_iload C 1 dX10_driveSecond_167 rfl ?_
      refine V_iadd C dX10_driveSecond_169 ?_
      refine V_iast (ws2 := [(h0, .inr (10, [.ref h1, .ref h2, .ref h3, .ref h4, .int pm, .ref h5, .ref h6, .int ty, .ref h7, .int om, .int sp, .int wr])), (h1, .inl (gI g, 113, .inl (upd (upd (upd (upd (carZ z (z (4 * t + 2) * z (4 * t + 3))) 47 (((carZ z (z (4 * t + 2) * z (4 * t + 3))) 47) + (z (4 * t + 2)))) 47 ((((carZ z (z (4 * t + 2) * z (4 * t + 3))) 47) + (z (4 * t + 2))) - (((((carZ z (z (4 * t + 2) * z (4 * t + 3))) 47) + (z (4 * t + 2))) / (z (4 * t + 2) * z (4 * t + 3))) * (z (4 * t + 2) * z (4 * t + 3))))) 39 9999999) 45 ((z 45) + ((((carZ z (z (4 * t + 2) * z (4 * t + 3))) 47) + (z (4 * t + 2))) / (z (4 * t + 2) * z (4 * t + 3)))))))]) C 1 rfl (show ix 45 45 113 from ix_nI (k := 45) (by omega) (by omega)) dX10_driveSecond_170 rfl ?_
      refine V_aload_n C 5 dX10_driveSecond_171 rfl rfl ?_
      refine V_get (v := .ref h1) C 0 rfl rfl in_X10 0 (by decide) fl_X10_7 rfl rfl dX10_driveSecond_172 ?_
      refine V_bipush (v := 37) C dX10_driveSecond_175 (by decide) ?_
      refine V_aload_n C 5 dX10_driveSecond_177 rfl rfl ?_
      refine V_get (v := .ref h1) C 0 rfl rfl in_X10 0 (by decide) fl_X10_7 rfl rfl dX10_driveSecond_178 ?_
      refine V_bipush (v := 37) C dX10_driveSecond_181 (by decide) ?_
      refine V_iald C 1 rfl (show ix 37 37 113 from ix_nI (k := 37) (by omega) (by omega)) dX10_driveSecond_183 ?_
      refine V_ev (show (upd (upd (upd (upd (carZ z (z (4 * t + 2) * z (4 * t + 3))) 47 (((carZ z (z (4 * t + 2) * z (4 * t + 3))) 47) + (z (4 * t + 2)))) 47 ((((carZ z (z (4 * t + 2) * z (4 * t + 3))) 47) + (z (4 * t + 2))) - (((((carZ z (z (4 * t + 2) * z (4 * t + 3))) 47) + (z (4 * t + 2))) / (z (4 * t + 2) * z (4 * t + 3))) * (z (4 * t + 2) * z (4 * t + 3))))) 39 9999999) 45 ((z 45) + ((((carZ z (z (4 * t + 2) * z (4 * t + 3))) 47) + (z (4 * t + 2))) / (z (4 * t + 2) * z (4 * t + 3))))) 37 = z 37 from ((upd_n (show 37 ≠ 45 from by omega)).trans ((upd_n (show 37 ≠ 39 from by omega)).trans ((upd_n (show 37 ≠ 47 from by omega)).trans ((upd_n (show 37 ≠ 47 from by omega)).trans (carZ_n (show 37 ≠ 47 ∧ 37 ≠ 48 from by omega))))))) ?_
      refine V_ev (show (z 37 : Int32) = nI c from hz) ?_
      refine V_iconst (v := 1) C dX10_driveSecond_184 (by decide) ?_
      refine V_iadd C dX10_driveSecond_185 ?_
      refine V_ev (show ((nI c) + 1 : Int32) = nI (c + 1) from nI_add c 1) ?_
      refine V_ldc (v := 86400) C k_X10_68 dX10_driveSecond_186 ?_
      refine V_irem C dX10_driveSecond_188 (by decide) ?_
      refine V_ev (show ((nI (c + 1)) - (nI (c + 1)) / 86400 * 86400 : Int32) = nI ((c + 1) % 86400) from pk_rem (d := 86400) (by omega) (by omega) (by omega)) ?_
      refine V_iast (ws2 := [(h0, .inr (10, [.ref h1, .ref h2, .ref h3, .ref h4, .int pm, .ref h5, .ref h6, .int ty, .ref h7, .int om, .int sp, .int wr])), (h1, .inl (gI g, 113, .inl (upd (upd (upd (upd (upd (carZ z (z (4 * t + 2) * z (4 * t + 3))) 47 (((carZ z (z (4 * t + 2) * z (4 * t + 3))) 47) + (z (4 * t + 2)))) 47 ((((carZ z (z (4 * t + 2) * z (4 * t + 3))) 47) + (z (4 * t + 2))) - (((((carZ z (z (4 * t + 2) * z (4 * t + 3))) 47) + (z (4 * t + 2))) / (z (4 * t + 2) * z (4 * t + 3))) * (z (4 * t + 2) * z (4 * t + 3))))) 39 9999999) 45 ((z 45) + ((((carZ z (z (4 * t + 2) * z (4 * t + 3))) 47) + (z (4 * t + 2))) / (z (4 * t + 2) * z (4 * t + 3))))) 37 (nI ((c + 1) % 86400)))))]) C 1 rfl (show ix 37 37 113 from ix_nI (k := 37) (by omega) (by omega)) dX10_driveSecond_189 rfl ?_
      refine V_iload C 1 dX10_driveSecond_190 rfl ?_
      refine hret _ _ _ _ dX10_driveSecond_192 ?_
      have ed : (((carZ z (z (4 * t + 2) * z (4 * t + 3))) 47) + (z (4 * t + 2))) / (z (4 * t + 2) * z (4 * t + 3)) = drpZ z t p := by rw [drpZ, if_pos c_37]
      have b2 := c_138
      rw [ed] at b2
      refine ⟨ed, ?_⟩
      simp only [secZ, if_pos c_37, if_pos b2, ed]
    · refine V_iload C 0 dX10_driveSecond_141 rfl ?_
      refine V_goto (tgt := 148) C dX10_driveSecond_143 (by decide) ?_
      refine V_iast (ws2 := [(h0, .inr (10, [.ref h1, .ref h2, .ref h3, .ref h4, .int pm, .ref h5, .ref h6, .int ty, .ref h7, .int om, .int sp, .int wr])), (h1, .inl (gI g, 113, .inl (upd (upd (upd (carZ z (z (4 * t + 2) * z (4 * t + 3))) 47 (((carZ z (z (4 * t + 2) * z (4 * t + 3))) 47) + (z (4 * t + 2)))) 47 ((((carZ z (z (4 * t + 2) * z (4 * t + 3))) 47) + (z (4 * t + 2))) - (((((carZ z (z (4 * t + 2) * z (4 * t + 3))) 47) + (z (4 * t + 2))) / (z (4 * t + 2) * z (4 * t + 3))) * (z (4 * t + 2) * z (4 * t + 3))))) 39 ((z 39) + (((((carZ z (z (4 * t + 2) * z (4 * t + 3))) 47) + (z (4 * t + 2))) / (z (4 * t + 2) * z (4 * t + 3))) * (z (4 * t + 1)))))))]) C 1 rfl (show ix 39 39 113 from ix_nI (k := 39) (by omega) (by omega)) dX10_driveSecond_148 rfl ?_
      refine V_aload_n C 5 dX10_driveSecond_149 rfl rfl ?_
      refine V_get (v := .ref h1) C 0 rfl rfl in_X10 0 (by decide) fl_X10_7 rfl rfl dX10_driveSecond_150 ?_
      refine V_iload C 2 dX10_driveSecond_153 rfl ?_
      refine V_if_eq (tgt := 163) C dX10_driveSecond_155 (by decide) (fun _ => ?_) (fun h => absurd (by decide) h)
      refine V_bipush (v := 45) C dX10_driveSecond_163 (by decide) ?_
      refine V_dup2 C dX10_driveSecond_165 rfl rfl ?_
      refine V_iald C 1 rfl (show ix 45 45 113 from ix_nI (k := 45) (by omega) (by omega)) dX10_driveSecond_166 ?_
      refine V_ev (show (upd (upd (upd (carZ z (z (4 * t + 2) * z (4 * t + 3))) 47 (((carZ z (z (4 * t + 2) * z (4 * t + 3))) 47) + (z (4 * t + 2)))) 47 ((((carZ z (z (4 * t + 2) * z (4 * t + 3))) 47) + (z (4 * t + 2))) - (((((carZ z (z (4 * t + 2) * z (4 * t + 3))) 47) + (z (4 * t + 2))) / (z (4 * t + 2) * z (4 * t + 3))) * (z (4 * t + 2) * z (4 * t + 3))))) 39 ((z 39) + (((((carZ z (z (4 * t + 2) * z (4 * t + 3))) 47) + (z (4 * t + 2))) / (z (4 * t + 2) * z (4 * t + 3))) * (z (4 * t + 1))))) 45 = z 45 from ((upd_n (show 45 ≠ 39 from by omega)).trans ((upd_n (show 45 ≠ 47 from by omega)).trans ((upd_n (show 45 ≠ 47 from by omega)).trans (carZ_n (show 45 ≠ 47 ∧ 45 ≠ 48 from by omega)))))) ?_
      refine V_iload C 1 dX10_driveSecond_167 rfl ?_
      refine V_iadd C dX10_driveSecond_169 ?_
      refine V_iast (ws2 := [(h0, .inr (10, [.ref h1, .ref h2, .ref h3, .ref h4, .int pm, .ref h5, .ref h6, .int ty, .ref h7, .int om, .int sp, .int wr])), (h1, .inl (gI g, 113, .inl (upd (upd (upd (upd (carZ z (z (4 * t + 2) * z (4 * t + 3))) 47 (((carZ z (z (4 * t + 2) * z (4 * t + 3))) 47) + (z (4 * t + 2)))) 47 ((((carZ z (z (4 * t + 2) * z (4 * t + 3))) 47) + (z (4 * t + 2))) - (((((carZ z (z (4 * t + 2) * z (4 * t + 3))) 47) + (z (4 * t + 2))) / (z (4 * t + 2) * z (4 * t + 3))) * (z (4 * t + 2) * z (4 * t + 3))))) 39 ((z 39) + (((((carZ z (z (4 * t + 2) * z (4 * t + 3))) 47) + (z (4 * t + 2))) / (z (4 * t + 2) * z (4 * t + 3))) * (z (4 * t + 1))))) 45 ((z 45) + ((((carZ z (z (4 * t + 2) * z (4 * t + 3))) 47) + (z (4 * t + 2))) / (z (4 * t + 2) * z (4 * t + 3)))))))]) C 1 rfl (show ix 45 45 113 from ix_nI (k := 45) (by omega) (by omega)) dX10_driveSecond_170 rfl ?_
      refine V_aload_n C 5 dX10_driveSecond_171 rfl rfl ?_
      refine V_get (v := .ref h1) C 0 rfl rfl in_X10 0 (by decide) fl_X10_7 rfl rfl dX10_driveSecond_172 ?_
      refine V_bipush (v := 37) C dX10_driveSecond_175 (by decide) ?_
      refine V_aload_n C 5 dX10_driveSecond_177 rfl rfl ?_
      refine V_get (v := .ref h1) C 0 rfl rfl in_X10 0 (by decide) fl_X10_7 rfl rfl dX10_driveSecond_178 ?_
      refine V_bipush (v := 37) C dX10_driveSecond_181 (by decide) ?_
      refine V_iald C 1 rfl (show ix 37 37 113 from ix_nI (k := 37) (by omega) (by omega)) dX10_driveSecond_183 ?_
      refine V_ev (show (upd (upd (upd (upd (carZ z (z (4 * t + 2) * z (4 * t + 3))) 47 (((carZ z (z (4 * t + 2) * z (4 * t + 3))) 47) + (z (4 * t + 2)))) 47 ((((carZ z (z (4 * t + 2) * z (4 * t + 3))) 47) + (z (4 * t + 2))) - (((((carZ z (z (4 * t + 2) * z (4 * t + 3))) 47) + (z (4 * t + 2))) / (z (4 * t + 2) * z (4 * t + 3))) * (z (4 * t + 2) * z (4 * t + 3))))) 39 ((z 39) + (((((carZ z (z (4 * t + 2) * z (4 * t + 3))) 47) + (z (4 * t + 2))) / (z (4 * t + 2) * z (4 * t + 3))) * (z (4 * t + 1))))) 45 ((z 45) + ((((carZ z (z (4 * t + 2) * z (4 * t + 3))) 47) + (z (4 * t + 2))) / (z (4 * t + 2) * z (4 * t + 3))))) 37 = z 37 from ((upd_n (show 37 ≠ 45 from by omega)).trans ((upd_n (show 37 ≠ 39 from by omega)).trans ((upd_n (show 37 ≠ 47 from by omega)).trans ((upd_n (show 37 ≠ 47 from by omega)).trans (carZ_n (show 37 ≠ 47 ∧ 37 ≠ 48 from by omega))))))) ?_
      refine V_ev (show (z 37 : Int32) = nI c from hz) ?_
      refine V_iconst (v := 1) C dX10_driveSecond_184 (by decide) ?_
      refine V_iadd C dX10_driveSecond_185 ?_
      refine V_ev (show ((nI c) + 1 : Int32) = nI (c + 1) from nI_add c 1) ?_
      refine V_ldc (v := 86400) C k_X10_68 dX10_driveSecond_186 ?_
      refine V_irem C dX10_driveSecond_188 (by decide) ?_
      refine V_ev (show ((nI (c + 1)) - (nI (c + 1)) / 86400 * 86400 : Int32) = nI ((c + 1) % 86400) from pk_rem (d := 86400) (by omega) (by omega) (by omega)) ?_
      refine V_iast (ws2 := [(h0, .inr (10, [.ref h1, .ref h2, .ref h3, .ref h4, .int pm, .ref h5, .ref h6, .int ty, .ref h7, .int om, .int sp, .int wr])), (h1, .inl (gI g, 113, .inl (upd (upd (upd (upd (upd (carZ z (z (4 * t + 2) * z (4 * t + 3))) 47 (((carZ z (z (4 * t + 2) * z (4 * t + 3))) 47) + (z (4 * t + 2)))) 47 ((((carZ z (z (4 * t + 2) * z (4 * t + 3))) 47) + (z (4 * t + 2))) - (((((carZ z (z (4 * t + 2) * z (4 * t + 3))) 47) + (z (4 * t + 2))) / (z (4 * t + 2) * z (4 * t + 3))) * (z (4 * t + 2) * z (4 * t + 3))))) 39 ((z 39) + (((((carZ z (z (4 * t + 2) * z (4 * t + 3))) 47) + (z (4 * t + 2))) / (z (4 * t + 2) * z (4 * t + 3))) * (z (4 * t + 1))))) 45 ((z 45) + ((((carZ z (z (4 * t + 2) * z (4 * t + 3))) 47) + (z (4 * t + 2))) / (z (4 * t + 2) * z (4 * t + 3))))) 37 (nI ((c + 1) % 86400)))))]) C 1 rfl (show ix 37 37 113 from ix_nI (k := 37) (by omega) (by omega)) dX10_driveSecond_189 rfl ?_
      refine V_iload C 1 dX10_driveSecond_190 rfl ?_
      refine hret _ _ _ _ dX10_driveSecond_192 ?_
      have ed : (((carZ z (z (4 * t + 2) * z (4 * t + 3))) 47) + (z (4 * t + 2))) / (z (4 * t + 2) * z (4 * t + 3)) = drpZ z t p := by rw [drpZ, if_pos c_37]
      have b2 := c_138
      rw [ed] at b2
      refine ⟨ed, ?_⟩
      simp only [secZ, if_pos c_37, if_neg b2, ed]
  · refine V_iconst (v := 1) C dX10_driveSecond_40 (by decide) ?_
    refine V_goto (tgt := 45) C dX10_driveSecond_41 (by decide) ?_
    refine V_istore (L2 := [(4, .int 1), (3, .int (p * (z (4 * t + 3)))), (2, .int (nI t)), (0, .ref h0), (1, .int p)]) C dX10_driveSecond_45 (by decide) rfl ?_
    refine V_aload_n C 3 dX10_driveSecond_47 rfl rfl ?_
    refine V_get (v := .ref h1) C 0 rfl rfl in_X10 0 (by decide) fl_X10_7 rfl rfl dX10_driveSecond_48 ?_
    refine V_bipush (v := 47) C dX10_driveSecond_51 (by decide) ?_
    refine V_dup2 C dX10_driveSecond_53 rfl rfl ?_
    refine V_iald C 1 rfl (show ix 47 47 113 from ix_nI (k := 47) (by omega) (by omega)) dX10_driveSecond_54 ?_
    refine V_iload C 0 dX10_driveSecond_55 rfl ?_
    refine V_if_eq (tgt := 64) C dX10_driveSecond_57 (by decide) (fun h => absurd h (by decide)) (fun _ => ?_)
    refine V_iload_n C 1 dX10_driveSecond_60 rfl rfl ?_
    refine V_goto (tgt := 70) C dX10_driveSecond_61 (by decide) ?_
    refine V_iadd C dX10_driveSecond_70 ?_
    refine V_iast (ws2 := [(h0, .inr (10, [.ref h1, .ref h2, .ref h3, .ref h4, .int pm, .ref h5, .ref h6, .int ty, .ref h7, .int om, .int sp, .int wr])), (h1, .inl (gI g, 113, .inl (upd (carZ z (z (4 * t + 2) * z (4 * t + 3))) 47 (((carZ z (z (4 * t + 2) * z (4 * t + 3))) 47) + (p * (z (4 * t + 3)))))))]) C 1 rfl (show ix 47 47 113 from ix_nI (k := 47) (by omega) (by omega)) dX10_driveSecond_71 rfl ?_
    refine V_aload_n C 3 dX10_driveSecond_72 rfl rfl ?_
    refine V_get (v := .ref h1) C 0 rfl rfl in_X10 0 (by decide) fl_X10_7 rfl rfl dX10_driveSecond_73 ?_
    refine V_bipush (v := 47) C dX10_driveSecond_76 (by decide) ?_
    refine V_iald C 1 rfl (show ix 47 47 113 from ix_nI (k := 47) (by omega) (by omega)) dX10_driveSecond_78 ?_
    refine V_ev (show (upd (carZ z (z (4 * t + 2) * z (4 * t + 3))) 47 (((carZ z (z (4 * t + 2) * z (4 * t + 3))) 47) + (p * (z (4 * t + 3))))) 47 = ((carZ z (z (4 * t + 2) * z (4 * t + 3))) 47) + (p * (z (4 * t + 3))) from (upd_s)) ?_
    refine V_aload_n C 3 dX10_driveSecond_79 rfl rfl ?_
    refine V_get (v := .ref h1) C 0 rfl rfl in_X10 0 (by decide) fl_X10_7 rfl rfl dX10_driveSecond_80 ?_
    refine V_bipush (v := 48) C dX10_driveSecond_83 (by decide) ?_
    refine V_iald C 1 rfl (show ix 48 48 113 from ix_nI (k := 48) (by omega) (by omega)) dX10_driveSecond_85 ?_
    refine V_ev (show (upd (carZ z (z (4 * t + 2) * z (4 * t + 3))) 47 (((carZ z (z (4 * t + 2) * z (4 * t + 3))) 47) + (p * (z (4 * t + 3))))) 48 = z (4 * t + 2) * z (4 * t + 3) from ((upd_n (show 48 ≠ 47 from by omega)).trans (carZ_48))) ?_
    refine V_idiv C dX10_driveSecond_86 (hp) ?_
    refine V_istore (L2 := [(5, .int ((((carZ z (z (4 * t + 2) * z (4 * t + 3))) 47) + (p * (z (4 * t + 3)))) / (z (4 * t + 2) * z (4 * t + 3)))), (4, .int 1), (3, .int (p * (z (4 * t + 3)))), (2, .int (nI t)), (0, .ref h0), (1, .int p)]) C dX10_driveSecond_87 (by decide) rfl ?_
    refine V_aload_n C 4 dX10_driveSecond_89 rfl rfl ?_
    refine V_get (v := .ref h1) C 0 rfl rfl in_X10 0 (by decide) fl_X10_7 rfl rfl dX10_driveSecond_90 ?_
    refine V_bipush (v := 47) C dX10_driveSecond_93 (by decide) ?_
    refine V_dup2 C dX10_driveSecond_95 rfl rfl ?_
    refine V_iald C 1 rfl (show ix 47 47 113 from ix_nI (k := 47) (by omega) (by omega)) dX10_driveSecond_96 ?_
    refine V_ev (show (upd (carZ z (z (4 * t + 2) * z (4 * t + 3))) 47 (((carZ z (z (4 * t + 2) * z (4 * t + 3))) 47) + (p * (z (4 * t + 3))))) 47 = ((carZ z (z (4 * t + 2) * z (4 * t + 3))) 47) + (p * (z (4 * t + 3))) from (upd_s)) ?_
    refine V_iload C 0 dX10_driveSecond_97 rfl ?_
    refine V_aload_n C 4 dX10_driveSecond_99 rfl rfl ?_
    refine V_get (v := .ref h1) C 0 rfl rfl in_X10 0 (by decide) fl_X10_7 rfl rfl dX10_driveSecond_100 ?_
    refine V_bipush (v := 48) C dX10_driveSecond_103 (by decide) ?_
    refine V_iald C 1 rfl (show ix 48 48 113 from ix_nI (k := 48) (by omega) (by omega)) dX10_driveSecond_105 ?_
    refine V_ev (show (upd (carZ z (z (4 * t + 2) * z (4 * t + 3))) 47 (((carZ z (z (4 * t + 2) * z (4 * t + 3))) 47) + (p * (z (4 * t + 3))))) 48 = z (4 * t + 2) * z (4 * t + 3) from ((upd_n (show 48 ≠ 47 from by omega)).trans (carZ_48))) ?_
    refine V_imul C dX10_driveSecond_106 ?_
    refine V_isub C dX10_driveSecond_107 ?_
    refine V_iast (ws2 := [(h0, .inr (10, [.ref h1, .ref h2, .ref h3, .ref h4, .int pm, .ref h5, .ref h6, .int ty, .ref h7, .int om, .int sp, .int wr])), (h1, .inl (gI g, 113, .inl (upd (upd (carZ z (z (4 * t + 2) * z (4 * t + 3))) 47 (((carZ z (z (4 * t + 2) * z (4 * t + 3))) 47) + (p * (z (4 * t + 3))))) 47 ((((carZ z (z (4 * t + 2) * z (4 * t + 3))) 47) + (p * (z (4 * t + 3)))) - (((((carZ z (z (4 * t + 2) * z (4 * t + 3))) 47) + (p * (z (4 * t + 3)))) / (z (4 * t + 2) * z (4 * t + 3))) * (z (4 * t + 2) * z (4 * t + 3)))))))]) C 1 rfl (show ix 47 47 113 from ix_nI (k := 47) (by omega) (by omega)) dX10_driveSecond_108 rfl ?_
    refine V_aload_n C 4 dX10_driveSecond_109 rfl rfl ?_
    refine V_get (v := .ref h1) C 0 rfl rfl in_X10 0 (by decide) fl_X10_7 rfl rfl dX10_driveSecond_110 ?_
    refine V_bipush (v := 39) C dX10_driveSecond_113 (by decide) ?_
    refine V_iald C 1 rfl (show ix 39 39 113 from ix_nI (k := 39) (by omega) (by omega)) dX10_driveSecond_115 ?_
    refine V_ev (show (upd (upd (carZ z (z (4 * t + 2) * z (4 * t + 3))) 47 (((carZ z (z (4 * t + 2) * z (4 * t + 3))) 47) + (p * (z (4 * t + 3))))) 47 ((((carZ z (z (4 * t + 2) * z (4 * t + 3))) 47) + (p * (z (4 * t + 3)))) - (((((carZ z (z (4 * t + 2) * z (4 * t + 3))) 47) + (p * (z (4 * t + 3)))) / (z (4 * t + 2) * z (4 * t + 3))) * (z (4 * t + 2) * z (4 * t + 3))))) 39 = z 39 from ((upd_n (show 39 ≠ 47 from by omega)).trans ((upd_n (show 39 ≠ 47 from by omega)).trans (carZ_n (show 39 ≠ 47 ∧ 39 ≠ 48 from by omega))))) ?_
    refine V_iload C 0 dX10_driveSecond_116 rfl ?_
    refine V_aload_n C 4 dX10_driveSecond_118 rfl rfl ?_
    refine V_iload_n C 3 dX10_driveSecond_119 rfl rfl ?_
    refine V_iconst (v := 1) C dX10_driveSecond_120 (by decide) ?_
    refine V_callVi (q0 := 0) (na := 2) (As := [.int (nI t), .int 1]) (rest := [.int ((((carZ z (z (4 * t + 2) * z (4 * t + 3))) 47) + (p * (z (4 * t + 3)))) / (z (4 * t + 2) * z (4 * t + 3))), .int (z 39)]) (wr := []) C (c_X10_its g h0 h1 h2 h3 h4 h5 h6 h7 pm ty om sp wr (upd (upd (carZ z (z (4 * t + 2) * z (4 * t + 3))) 47 (((carZ z (z (4 * t + 2) * z (4 * t + 3))) 47) + (p * (z (4 * t + 3))))) 47 ((((carZ z (z (4 * t + 2) * z (4 * t + 3))) 47) + (p * (z (4 * t + 3)))) - (((((carZ z (z (4 * t + 2) * z (4 * t + 3))) 47) + (p * (z (4 * t + 3)))) / (z (4 * t + 2) * z (4 * t + 3))) * (z (4 * t + 2) * z (4 * t + 3))))) t 1 (show t < 3 from by first | assumption | omega | exact ix_nI (by omega) (by omega) | decide) (show 1 < 4 from by first | assumption | omega | exact ix_nI (by omega) (by omega) | decide)) ⟨⟨ini_X10, co_X10_its, ⟨by decide, by decide, by decide +kernel⟩, by decide⟩, ml_X10_37, im_X10_its, se_X10_its⟩ [0, 1] [] rfl rfl rfl rfl (by decide) rfl rfl rfl rfl (Nat.le_of_ble_eq_true rfl) (by omega) (by omega) dX10_driveSecond_121 (fun r_15 w_ hw_16 => ?_)
    obtain ⟨rfl, rfl⟩ := hw_16
    refine V_to (ws2 := [(h0, .inr (10, [.ref h1, .ref h2, .ref h3, .ref h4, .int pm, .ref h5, .ref h6, .int ty, .ref h7, .int om, .int sp, .int wr])), (h1, .inl (gI g, 113, .inl (upd (upd (carZ z (z (4 * t + 2) * z (4 * t + 3))) 47 (((carZ z (z (4 * t + 2) * z (4 * t + 3))) 47) + (p * (z (4 * t + 3))))) 47 ((((carZ z (z (4 * t + 2) * z (4 * t + 3))) 47) + (p * (z (4 * t + 3)))) - (((((carZ z (z (4 * t + 2) * z (4 * t + 3))) 47) + (p * (z (4 * t + 3)))) / (z (4 * t + 2) * z (4 * t + 3))) * (z (4 * t + 2) * z (4 * t + 3)))))))]) ?_ rfl
    refine V_ev (show (upd (upd (carZ z (z (4 * t + 2) * z (4 * t + 3))) 47 (((carZ z (z (4 * t + 2) * z (4 * t + 3))) 47) + (p * (z (4 * t + 3))))) 47 ((((carZ z (z (4 * t + 2) * z (4 * t + 3))) 47) + (p * (z (4 * t + 3)))) - (((((carZ z (z (4 * t + 2) * z (4 * t + 3))) 47) + (p * (z (4 * t + 3)))) / (z (4 * t + 2) * z (4 * t + 3))) * (z (4 * t + 2) * z (4 * t + 3))))) (4 * t + 1) = z (4 * t + 1) from ((upd_n (show 4 * t + 1 ≠ 47 from by omega)).trans ((upd_n (show 4 * t + 1 ≠ 47 from by omega)).trans (carZ_n (show 4 * t + 1 ≠ 47 ∧ 4 * t + 1 ≠ 48 from by omega))))) ?_
    refine V_imul C dX10_driveSecond_124 ?_
    refine V_iadd C dX10_driveSecond_125 ?_
    refine V_istore (L2 := [(6, .int ((z 39) + (((((carZ z (z (4 * t + 2) * z (4 * t + 3))) 47) + (p * (z (4 * t + 3)))) / (z (4 * t + 2) * z (4 * t + 3))) * (z (4 * t + 1))))), (5, .int ((((carZ z (z (4 * t + 2) * z (4 * t + 3))) 47) + (p * (z (4 * t + 3)))) / (z (4 * t + 2) * z (4 * t + 3)))), (4, .int 1), (3, .int (p * (z (4 * t + 3)))), (2, .int (nI t)), (0, .ref h0), (1, .int p)]) C dX10_driveSecond_126 (by decide) rfl ?_
    refine V_aload_n C 5 dX10_driveSecond_128 rfl rfl ?_
    refine V_get (v := .ref h1) C 0 rfl rfl in_X10 0 (by decide) fl_X10_7 rfl rfl dX10_driveSecond_129 ?_
    refine V_bipush (v := 39) C dX10_driveSecond_132 (by decide) ?_
    refine V_iload C 0 dX10_driveSecond_134 rfl ?_
    refine V_ldc (v := 9999999) C k_X10_67 dX10_driveSecond_136 ?_
    refine V_icmp_ge (tgt := 146) C dX10_driveSecond_138 (by decide) (fun c_138 => ?_) (fun c_138 => ?_)
    · refine V_ldc (v := 9999999) C k_X10_67 dX10_driveSecond_146 ?_
      refine V_iast (ws2 := [(h0, .inr (10, [.ref h1, .ref h2, .ref h3, .ref h4, .int pm, .ref h5, .ref h6, .int ty, .ref h7, .int om, .int sp, .int wr])), (h1, .inl (gI g, 113, .inl (upd (upd (upd (carZ z (z (4 * t + 2) * z (4 * t + 3))) 47 (((carZ z (z (4 * t + 2) * z (4 * t + 3))) 47) + (p * (z (4 * t + 3))))) 47 ((((carZ z (z (4 * t + 2) * z (4 * t + 3))) 47) + (p * (z (4 * t + 3)))) - (((((carZ z (z (4 * t + 2) * z (4 * t + 3))) 47) + (p * (z (4 * t + 3)))) / (z (4 * t + 2) * z (4 * t + 3))) * (z (4 * t + 2) * z (4 * t + 3))))) 39 9999999)))]) C 1 rfl (show ix 39 39 113 from ix_nI (k := 39) (by omega) (by omega)) dX10_driveSecond_148 rfl ?_
      refine V_aload_n C 5 dX10_driveSecond_149 rfl rfl ?_
      refine V_get (v := .ref h1) C 0 rfl rfl in_X10 0 (by decide) fl_X10_7 rfl rfl dX10_driveSecond_150 ?_
      refine V_iload C 2 dX10_driveSecond_153 rfl ?_
      refine V_if_eq (tgt := 163) C dX10_driveSecond_155 (by decide) (fun h => absurd h (by decide)) (fun _ => ?_)
      refine V_bipush (v := 44) C dX10_driveSecond_158 (by decide) ?_
      refine V_goto (tgt := 165) C dX10_driveSecond_160 (by decide) ?_
      refine V_dup2 C dX10_driveSecond_165 rfl rfl ?_
      refine V_iald C 1 rfl (show ix 44 44 113 from ix_nI (k := 44) (by omega) (by omega)) dX10_driveSecond_166 ?_
      refine V_ev (show (upd (upd (upd (carZ z (z (4 * t + 2) * z (4 * t + 3))) 47 (((carZ z (z (4 * t + 2) * z (4 * t + 3))) 47) + (p * (z (4 * t + 3))))) 47 ((((carZ z (z (4 * t + 2) * z (4 * t + 3))) 47) + (p * (z (4 * t + 3)))) - (((((carZ z (z (4 * t + 2) * z (4 * t + 3))) 47) + (p * (z (4 * t + 3)))) / (z (4 * t + 2) * z (4 * t + 3))) * (z (4 * t + 2) * z (4 * t + 3))))) 39 9999999) 44 = z 44 from ((upd_n (show 44 ≠ 39 from by omega)).trans ((upd_n (show 44 ≠ 47 from by omega)).trans ((upd_n (show 44 ≠ 47 from by omega)).trans (carZ_n (show 44 ≠ 47 ∧ 44 ≠ 48 from by omega)))))) ?_
      refine V_iload C 1 dX10_driveSecond_167 rfl ?_
      refine V_iadd C dX10_driveSecond_169 ?_
      refine V_iast (ws2 := [(h0, .inr (10, [.ref h1, .ref h2, .ref h3, .ref h4, .int pm, .ref h5, .ref h6, .int ty, .ref h7, .int om, .int sp, .int wr])), (h1, .inl (gI g, 113, .inl (upd (upd (upd (upd (carZ z (z (4 * t + 2) * z (4 * t + 3))) 47 (((carZ z (z (4 * t + 2) * z (4 * t + 3))) 47) + (p * (z (4 * t + 3))))) 47 ((((carZ z (z (4 * t + 2) * z (4 * t + 3))) 47) + (p * (z (4 * t + 3)))) - (((((carZ z (z (4 * t + 2) * z (4 * t + 3))) 47) + (p * (z (4 * t + 3)))) / (z (4 * t + 2) * z (4 * t + 3))) * (z (4 * t + 2) * z (4 * t + 3))))) 39 9999999) 44 ((z 44) + ((((carZ z (z (4 * t + 2) * z (4 * t + 3))) 47) + (p * (z (4 * t + 3)))) / (z (4 * t + 2) * z (4 * t + 3)))))))]) C 1 rfl (show ix 44 44 113 from ix_nI (k := 44) (by omega) (by omega)) dX10_driveSecond_170 rfl ?_
      refine V_aload_n C 5 dX10_driveSecond_171 rfl rfl ?_
      refine V_get (v := .ref h1) C 0 rfl rfl in_X10 0 (by decide) fl_X10_7 rfl rfl dX10_driveSecond_172 ?_
      refine V_bipush (v := 37) C dX10_driveSecond_175 (by decide) ?_
      refine V_aload_n C 5 dX10_driveSecond_177 rfl rfl ?_
      refine V_get (v := .ref h1) C 0 rfl rfl in_X10 0 (by decide) fl_X10_7 rfl rfl dX10_driveSecond_178 ?_
      refine V_bipush (v := 37) C dX10_driveSecond_181 (by decide) ?_
      refine V_iald C 1 rfl (show ix 37 37 113 from ix_nI (k := 37) (by omega) (by omega)) dX10_driveSecond_183 ?_
      refine V_ev (show (upd (upd (upd (upd (carZ z (z (4 * t + 2) * z (4 * t + 3))) 47 (((carZ z (z (4 * t + 2) * z (4 * t + 3))) 47) + (p * (z (4 * t + 3))))) 47 ((((carZ z (z (4 * t + 2) * z (4 * t + 3))) 47) + (p * (z (4 * t + 3)))) - (((((carZ z (z (4 * t + 2) * z (4 * t + 3))) 47) + (p * (z (4 * t + 3)))) / (z (4 * t + 2) * z (4 * t + 3))) * (z (4 * t + 2) * z (4 * t + 3))))) 39 9999999) 44 ((z 44) + ((((carZ z (z (4 * t + 2) * z (4 * t + 3))) 47) + (p * (z (4 * t + 3)))) / (z (4 * t + 2) * z (4 * t + 3))))) 37 = z 37 from ((upd_n (show 37 ≠ 44 from by omega)).trans ((upd_n (show 37 ≠ 39 from by omega)).trans ((upd_n (show 37 ≠ 47 from by omega)).trans ((upd_n (show 37 ≠ 47 from by omega)).trans (carZ_n (show 37 ≠ 47 ∧ 37 ≠ 48 from by omega))))))) ?_
      refine V_ev (show (z 37 : Int32) = nI c from hz) ?_
      refine V_iconst (v := 1) C dX10_driveSecond_184 (by decide) ?_
      refine V_iadd C dX10_driveSecond_185 ?_
      refine V_ev (show ((nI c) + 1 : Int32) = nI (c + 1) from nI_add c 1) ?_
      refine V_ldc (v := 86400) C k_X10_68 dX10_driveSecond_186 ?_
      refine V_irem C dX10_driveSecond_188 (by decide) ?_
      refine V_ev (show ((nI (c + 1)) - (nI (c + 1)) / 86400 * 86400 : Int32) = nI ((c + 1) % 86400) from pk_rem (d := 86400) (by omega) (by omega) (by omega)) ?_
      refine V_iast (ws2 := [(h0, .inr (10, [.ref h1, .ref h2, .ref h3, .ref h4, .int pm, .ref h5, .ref h6, .int ty, .ref h7, .int om, .int sp, .int wr])), (h1, .inl (gI g, 113, .inl (upd (upd (upd (upd (upd (carZ z (z (4 * t + 2) * z (4 * t + 3))) 47 (((carZ z (z (4 * t + 2) * z (4 * t + 3))) 47) + (p * (z (4 * t + 3))))) 47 ((((carZ z (z (4 * t + 2) * z (4 * t + 3))) 47) + (p * (z (4 * t + 3)))) - (((((carZ z (z (4 * t + 2) * z (4 * t + 3))) 47) + (p * (z (4 * t + 3)))) / (z (4 * t + 2) * z (4 * t + 3))) * (z (4 * t + 2) * z (4 * t + 3))))) 39 9999999) 44 ((z 44) + ((((carZ z (z (4 * t + 2) * z (4 * t + 3))) 47) + (p * (z (4 * t + 3)))) / (z (4 * t + 2) * z (4 * t + 3))))) 37 (nI ((c + 1) % 86400)))))]) C 1 rfl (show ix 37 37 113 from ix_nI (k := 37) (by omega) (by omega)) dX10_driveSecond_189 rfl ?_
      refine V_iload C 1 dX10_driveSecond_190 rfl ?_
      refine hret _ _ _ _ dX10_driveSecond_192 ?_
      have ed : (((carZ z (z (4 * t + 2) * z (4 * t + 3))) 47) + (p * (z (4 * t + 3)))) / (z (4 * t + 2) * z (4 * t + 3)) = drpZ z t p := by rw [drpZ, if_neg c_37]
      have b2 := c_138
      rw [ed] at b2
      refine ⟨ed, ?_⟩
      simp only [secZ, if_neg c_37, if_pos b2, ed]
    · refine V_iload C 0 dX10_driveSecond_141 rfl ?_
      refine V_goto (tgt := 148) C dX10_driveSecond_143 (by decide) ?_
      refine V_iast (ws2 := [(h0, .inr (10, [.ref h1, .ref h2, .ref h3, .ref h4, .int pm, .ref h5, .ref h6, .int ty, .ref h7, .int om, .int sp, .int wr])), (h1, .inl (gI g, 113, .inl (upd (upd (upd (carZ z (z (4 * t + 2) * z (4 * t + 3))) 47 (((carZ z (z (4 * t + 2) * z (4 * t + 3))) 47) + (p * (z (4 * t + 3))))) 47 ((((carZ z (z (4 * t + 2) * z (4 * t + 3))) 47) + (p * (z (4 * t + 3)))) - (((((carZ z (z (4 * t + 2) * z (4 * t + 3))) 47) + (p * (z (4 * t + 3)))) / (z (4 * t + 2) * z (4 * t + 3))) * (z (4 * t + 2) * z (4 * t + 3))))) 39 ((z 39) + (((((carZ z (z (4 * t + 2) * z (4 * t + 3))) 47) + (p * (z (4 * t + 3)))) / (z (4 * t + 2) * z (4 * t + 3))) * (z (4 * t + 1)))))))]) C 1 rfl (show ix 39 39 113 from ix_nI (k := 39) (by omega) (by omega)) dX10_driveSecond_148 rfl ?_
      refine V_aload_n C 5 dX10_driveSecond_149 rfl rfl ?_
      refine V_get (v := .ref h1) C 0 rfl rfl in_X10 0 (by decide) fl_X10_7 rfl rfl dX10_driveSecond_150 ?_
      refine V_iload C 2 dX10_driveSecond_153 rfl ?_
      refine V_if_eq (tgt := 163) C dX10_driveSecond_155 (by decide) (fun h => absurd h (by decide)) (fun _ => ?_)
      refine V_bipush (v := 44) C dX10_driveSecond_158 (by decide) ?_
      refine V_goto (tgt := 165) C dX10_driveSecond_160 (by decide) ?_
      refine V_dup2 C dX10_driveSecond_165 rfl rfl ?_
      refine V_iald C 1 rfl (show ix 44 44 113 from ix_nI (k := 44) (by omega) (by omega)) dX10_driveSecond_166 ?_
      refine V_ev (show (upd (upd (upd (carZ z (z (4 * t + 2) * z (4 * t + 3))) 47 (((carZ z (z (4 * t + 2) * z (4 * t + 3))) 47) + (p * (z (4 * t + 3))))) 47 ((((carZ z (z (4 * t + 2) * z (4 * t + 3))) 47) + (p * (z (4 * t + 3)))) - (((((carZ z (z (4 * t + 2) * z (4 * t + 3))) 47) + (p * (z (4 * t + 3)))) / (z (4 * t + 2) * z (4 * t + 3))) * (z (4 * t + 2) * z (4 * t + 3))))) 39 ((z 39) + (((((carZ z (z (4 * t + 2) * z (4 * t + 3))) 47) + (p * (z (4 * t + 3)))) / (z (4 * t + 2) * z (4 * t + 3))) * (z (4 * t + 1))))) 44 = z 44 from ((upd_n (show 44 ≠ 39 from by omega)).trans ((upd_n (show 44 ≠ 47 from by omega)).trans ((upd_n (show 44 ≠ 47 from by omega)).trans (carZ_n (show 44 ≠ 47 ∧ 44 ≠ 48 from by omega)))))) ?_
      refine V_iload C 1 dX10_driveSecond_167 rfl ?_
      refine V_iadd C dX10_driveSecond_169 ?_
      refine V_iast (ws2 := [(h0, .inr (10, [.ref h1, .ref h2, .ref h3, .ref h4, .int pm, .ref h5, .ref h6, .int ty, .ref h7, .int om, .int sp, .int wr])), (h1, .inl (gI g, 113, .inl (upd (upd (upd (upd (carZ z (z (4 * t + 2) * z (4 * t + 3))) 47 (((carZ z (z (4 * t + 2) * z (4 * t + 3))) 47) + (p * (z (4 * t + 3))))) 47 ((((carZ z (z (4 * t + 2) * z (4 * t + 3))) 47) + (p * (z (4 * t + 3)))) - (((((carZ z (z (4 * t + 2) * z (4 * t + 3))) 47) + (p * (z (4 * t + 3)))) / (z (4 * t + 2) * z (4 * t + 3))) * (z (4 * t + 2) * z (4 * t + 3))))) 39 ((z 39) + (((((carZ z (z (4 * t + 2) * z (4 * t + 3))) 47) + (p * (z (4 * t + 3)))) / (z (4 * t + 2) * z (4 * t + 3))) * (z (4 * t + 1))))) 44 ((z 44) + ((((carZ z (z (4 * t + 2) * z (4 * t + 3))) 47) + (p * (z (4 * t + 3)))) / (z (4 * t + 2) * z (4 * t + 3)))))))]) C 1 rfl (show ix 44 44 113 from ix_nI (k := 44) (by omega) (by omega)) dX10_driveSecond_170 rfl ?_
      refine V_aload_n C 5 dX10_driveSecond_171 rfl rfl ?_
      refine V_get (v := .ref h1) C 0 rfl rfl in_X10 0 (by decide) fl_X10_7 rfl rfl dX10_driveSecond_172 ?_
      refine V_bipush (v := 37) C dX10_driveSecond_175 (by decide) ?_
      refine V_aload_n C 5 dX10_driveSecond_177 rfl rfl ?_
      refine V_get (v := .ref h1) C 0 rfl rfl in_X10 0 (by decide) fl_X10_7 rfl rfl dX10_driveSecond_178 ?_
      refine V_bipush (v := 37) C dX10_driveSecond_181 (by decide) ?_
      refine V_iald C 1 rfl (show ix 37 37 113 from ix_nI (k := 37) (by omega) (by omega)) dX10_driveSecond_183 ?_
      refine V_ev (show (upd (upd (upd (upd (carZ z (z (4 * t + 2) * z (4 * t + 3))) 47 (((carZ z (z (4 * t + 2) * z (4 * t + 3))) 47) + (p * (z (4 * t + 3))))) 47 ((((carZ z (z (4 * t + 2) * z (4 * t + 3))) 47) + (p * (z (4 * t + 3)))) - (((((carZ z (z (4 * t + 2) * z (4 * t + 3))) 47) + (p * (z (4 * t + 3)))) / (z (4 * t + 2) * z (4 * t + 3))) * (z (4 * t + 2) * z (4 * t + 3))))) 39 ((z 39) + (((((carZ z (z (4 * t + 2) * z (4 * t + 3))) 47) + (p * (z (4 * t + 3)))) / (z (4 * t + 2) * z (4 * t + 3))) * (z (4 * t + 1))))) 44 ((z 44) + ((((carZ z (z (4 * t + 2) * z (4 * t + 3))) 47) + (p * (z (4 * t + 3)))) / (z (4 * t + 2) * z (4 * t + 3))))) 37 = z 37 from ((upd_n (show 37 ≠ 44 from by omega)).trans ((upd_n (show 37 ≠ 39 from by omega)).trans ((upd_n (show 37 ≠ 47 from by omega)).trans ((upd_n (show 37 ≠ 47 from by omega)).trans (carZ_n (show 37 ≠ 47 ∧ 37 ≠ 48 from by omega))))))) ?_
      refine V_ev (show (z 37 : Int32) = nI c from hz) ?_
      refine V_iconst (v := 1) C dX10_driveSecond_184 (by decide) ?_
      refine V_iadd C dX10_driveSecond_185 ?_
      refine V_ev (show ((nI c) + 1 : Int32) = nI (c + 1) from nI_add c 1) ?_
      refine V_ldc (v := 86400) C k_X10_68 dX10_driveSecond_186 ?_
      refine V_irem C dX10_driveSecond_188 (by decide) ?_
      refine V_ev (show ((nI (c + 1)) - (nI (c + 1)) / 86400 * 86400 : Int32) = nI ((c + 1) % 86400) from pk_rem (d := 86400) (by omega) (by omega) (by omega)) ?_
      refine V_iast (ws2 := [(h0, .inr (10, [.ref h1, .ref h2, .ref h3, .ref h4, .int pm, .ref h5, .ref h6, .int ty, .ref h7, .int om, .int sp, .int wr])), (h1, .inl (gI g, 113, .inl (upd (upd (upd (upd (upd (carZ z (z (4 * t + 2) * z (4 * t + 3))) 47 (((carZ z (z (4 * t + 2) * z (4 * t + 3))) 47) + (p * (z (4 * t + 3))))) 47 ((((carZ z (z (4 * t + 2) * z (4 * t + 3))) 47) + (p * (z (4 * t + 3)))) - (((((carZ z (z (4 * t + 2) * z (4 * t + 3))) 47) + (p * (z (4 * t + 3)))) / (z (4 * t + 2) * z (4 * t + 3))) * (z (4 * t + 2) * z (4 * t + 3))))) 39 ((z 39) + (((((carZ z (z (4 * t + 2) * z (4 * t + 3))) 47) + (p * (z (4 * t + 3)))) / (z (4 * t + 2) * z (4 * t + 3))) * (z (4 * t + 1))))) 44 ((z 44) + ((((carZ z (z (4 * t + 2) * z (4 * t + 3))) 47) + (p * (z (4 * t + 3)))) / (z (4 * t + 2) * z (4 * t + 3))))) 37 (nI ((c + 1) % 86400)))))]) C 1 rfl (show ix 37 37 113 from ix_nI (k := 37) (by omega) (by omega)) dX10_driveSecond_189 rfl ?_
      refine V_iload C 1 dX10_driveSecond_190 rfl ?_
      refine hret _ _ _ _ dX10_driveSecond_192 ?_
      have ed : (((carZ z (z (4 * t + 2) * z (4 * t + 3))) 47) + (p * (z (4 * t + 3)))) / (z (4 * t + 2) * z (4 * t + 3)) = drpZ z t p := by rw [drpZ, if_neg c_37]
      have b2 := c_138
      rw [ed] at b2
      refine ⟨ed, ?_⟩
      simp only [secZ, if_neg c_37, if_neg b2, ed]
