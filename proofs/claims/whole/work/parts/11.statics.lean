
set_option maxRecDepth 100000 in
set_option maxHeartbeats 4000000 in
theorem c_X9_isIn (g : Gd) (v : Int32) (lo : Int32) (hi : Int32)  : Ki g yX9_isIn cX9_isIn 3 (some .boolean) 0 0 0 [.int v, .int lo, .int hi] [] (fun (r : Int32) (w : va_W) => (¬ v < lo ∧ ¬ hi < v ∧ r = 1 ∧ w = []) ∨ ((v < lo ∨ hi < v) ∧ r = 0 ∧ w = [])) := by
  refine Kz.of (by decide) (Nat.le_of_ble_eq_true rfl) (fun X C hI hret => ?_)
  show V g X 0 0 [] 0 [(0, .int v), (1, .int lo), (2, .int hi)] []
  refine V_iload_n C 0 dX9_isIn_0 rfl rfl ?_
  refine V_iload_n C 1 dX9_isIn_1 rfl rfl ?_
  refine V_icmp_lt (tgt := 14) C dX9_isIn_2 (by decide) (fun c_2 => ?_) (fun c_2 => ?_)
  · refine V_iconst (v := 0) C dX9_isIn_14 (by decide) ?_
    refine hret _ _ _ _ dX9_isIn_15 (by first | rfl | (split <;> rfl) | decide) ?_
    exact Or.inr ⟨Or.inl c_2, rfl, rfl⟩
  · refine V_iload_n C 0 dX9_isIn_5 rfl rfl ?_
    refine V_iload_n C 2 dX9_isIn_6 rfl rfl ?_
    refine V_icmp_gt (tgt := 14) C dX9_isIn_7 (by decide) (fun c_7 => ?_) (fun c_7 => ?_)
    · refine V_iconst (v := 0) C dX9_isIn_14 (by decide) ?_
      refine hret _ _ _ _ dX9_isIn_15 (by first | rfl | (split <;> rfl) | decide) ?_
      exact Or.inr ⟨Or.inr c_7, rfl, rfl⟩
    · refine V_iconst (v := 1) C dX9_isIn_10 (by decide) ?_
      refine V_goto (tgt := 15) C dX9_isIn_11 (by decide) ?_
      refine hret _ _ _ _ dX9_isIn_15 (by first | rfl | (split <;> rfl) | decide) ?_
      exact Or.inl ⟨c_2, c_7, rfl, rfl⟩
set_option maxRecDepth 100000 in
set_option maxHeartbeats 4000000 in
theorem c_X9_isDrive (g : Gd) (p : Int32) (q : Int32)  : Ki g yX9_isDrive cX9_isDrive 2 (some .boolean) 1 0 0 [.int p, .int q] [] (fun (r : Int32) (w : va_W) => (okD p q ∧ r = 1 ∧ w = []) ∨ (¬ okD p q ∧ r = 0 ∧ w = [])) := by
  refine Kz.of (by decide) (Nat.le_of_ble_eq_true rfl) (fun X C hI hret => ?_)
  show V g X 0 0 [] 0 [(0, .int p), (1, .int q)] []
  refine V_iload_n C 0 dX9_isDrive_0 rfl rfl ?_
  refine V_iconst (v := 0) C dX9_isDrive_1 (by decide) ?_
  refine V_sipush (v := 9999) C dX9_isDrive_2 (by decide) ?_
  refine V_callSi (na := 3) (As := [.int p, .int 0, .int 9999]) (rest := []) (wr := []) C (c_X9_isIn g p 0 9999 ) ⟨⟨ini_X9, co_X9_isIn, ⟨by decide, by decide, by decide +kernel⟩, by decide⟩, ml_X9_51, sm_X9_isIn⟩ [] [] rfl rfl rfl rfl (by decide) rfl rfl (Nat.le_of_ble_eq_true rfl) (by omega) (by omega) dX9_isDrive_5 (fun r_1 w_ hw_2 => ?_)
  rcases hw_2 with ⟨hf2_0, hf2_1, rfl, rfl⟩ | ⟨hf2_0, rfl, rfl⟩
  · refine V_to (ws2 := []) ?_ rfl
    refine V_if_eq (tgt := 26) C dX9_isDrive_8 (by decide) (fun h => absurd h (by decide)) (fun _ => ?_)
    refine V_iload_n C 1 dX9_isDrive_11 rfl rfl ?_
    refine V_iconst (v := 1) C dX9_isDrive_12 (by decide) ?_
    refine V_sipush (v := 9999) C dX9_isDrive_13 (by decide) ?_
    refine V_callSi (na := 3) (As := [.int q, .int 1, .int 9999]) (rest := []) (wr := []) C (c_X9_isIn g q 1 9999 ) ⟨⟨ini_X9, co_X9_isIn, ⟨by decide, by decide, by decide +kernel⟩, by decide⟩, ml_X9_51, sm_X9_isIn⟩ [] [] rfl rfl rfl rfl (by decide) rfl rfl (Nat.le_of_ble_eq_true rfl) (by omega) (by omega) dX9_isDrive_16 (fun r_3 w_ hw_4 => ?_)
    rcases hw_4 with ⟨hf4_0, hf4_1, rfl, rfl⟩ | ⟨hf4_0, rfl, rfl⟩
    · refine V_to (ws2 := []) ?_ rfl
      refine V_if_eq (tgt := 26) C dX9_isDrive_19 (by decide) (fun h => absurd h (by decide)) (fun _ => ?_)
      refine V_iconst (v := 1) C dX9_isDrive_22 (by decide) ?_
      refine V_goto (tgt := 27) C dX9_isDrive_23 (by decide) ?_
      refine hret _ _ _ _ dX9_isDrive_27 (by first | rfl | (split <;> rfl) | decide) ?_
      exact Or.inl ⟨⟨hf2_0, hf2_1, hf4_0, hf4_1⟩, rfl, rfl⟩
    · refine V_to (ws2 := []) ?_ rfl
      refine V_if_eq (tgt := 26) C dX9_isDrive_19 (by decide) (fun _ => ?_) (fun h => absurd (by decide) h)
      refine V_iconst (v := 0) C dX9_isDrive_26 (by decide) ?_
      refine hret _ _ _ _ dX9_isDrive_27 (by first | rfl | (split <;> rfl) | decide) ?_
      exact Or.inr ⟨fun h => (hf4_0).elim h.2.2.1 h.2.2.2, rfl, rfl⟩
  · refine V_to (ws2 := []) ?_ rfl
    refine V_if_eq (tgt := 26) C dX9_isDrive_8 (by decide) (fun _ => ?_) (fun h => absurd (by decide) h)
    refine V_iconst (v := 0) C dX9_isDrive_26 (by decide) ?_
    refine hret _ _ _ _ dX9_isDrive_27 (by first | rfl | (split <;> rfl) | decide) ?_
    exact Or.inr ⟨fun h => (hf2_0).elim h.1 h.2.1, rfl, rfl⟩
set_option maxRecDepth 100000 in
set_option maxHeartbeats 4000000 in
theorem c_X9_at (g : Gd) (a0 : Nat) (n : Nat) (f : Nat → Int32) (i : Int32) (k : Nat) (hi : ix i k n) (hn : n < 2 ^ 31) : Ki g yX9_at cX9_at 2 (some .int) 0 0 0 [.ref a0, .int i] [(a0, .inl (gI g, n, .inl f))] (fun (r : Int32) (w : va_W) => r = f k ∧ w = [(a0, .inl (gI g, n, .inl f))]) := by
  refine Ki.of (by decide) (Nat.le_of_ble_eq_true rfl) (fun X C hI hret => ?_)
  show V g X 0 0 [(a0, .inl (gI g, n, .inl f))] 0 [(0, .ref a0), (1, .int i)] []
  refine V_iload_n C 1 dX9_at_0 rfl rfl ?_
  refine V_if_lt (tgt := 16) C dX9_at_1 (by decide) (fun h => absurd h (ix_n0 hi)) (fun _ => ?_)
  refine V_iload_n C 1 dX9_at_4 rfl rfl ?_
  refine V_aload_n C 0 dX9_at_5 rfl rfl ?_
  refine V_alenI (v := nI n) C 0 rfl rfl dX9_at_6 ?_
  refine V_icmp_ge (tgt := 16) C dX9_at_7 (by decide) (fun h => absurd h (ix_nge hi hn)) (fun _ => ?_)
  refine V_aload_n C 0 dX9_at_10 rfl rfl ?_
  refine V_iload_n C 1 dX9_at_11 rfl rfl ?_
  refine V_iald C 0 rfl hi dX9_at_12 ?_
  refine V_goto (tgt := 17) C dX9_at_13 (by decide) ?_
  refine hret _ _ _ _ dX9_at_17 ?_
  exact ⟨rfl, rfl⟩
set_option maxRecDepth 100000 in
set_option maxHeartbeats 4000000 in
theorem c_X9_setAt (g : Gd) (a0 : Nat) (n : Nat) (f : Nat → Int32) (i : Int32) (k : Nat) (x : Int32) (hi : ix i k n) (hn : n < 2 ^ 31) : Kv g yX9_setAt cX9_setAt 3 none 0 0 0 [.ref a0, .int i, .int x] [(a0, .inl (gI g, n, .inl f))] (fun (w : va_W) => w = [(a0, .inl (gI g, n, .inl (upd f k x)))]) := by
  refine Kv.of (by decide) (Nat.le_of_ble_eq_true rfl) (fun X C hI hret => ?_)
  show V g X 0 0 [(a0, .inl (gI g, n, .inl f))] 0 [(0, .ref a0), (1, .int i), (2, .int x)] []
  refine V_iload_n C 1 dX9_setAt_0 rfl rfl ?_
  refine V_if_lt (tgt := 14) C dX9_setAt_1 (by decide) (fun h => absurd h (ix_n0 hi)) (fun _ => ?_)
  refine V_iload_n C 1 dX9_setAt_4 rfl rfl ?_
  refine V_aload_n C 0 dX9_setAt_5 rfl rfl ?_
  refine V_alenI (v := nI n) C 0 rfl rfl dX9_setAt_6 ?_
  refine V_icmp_ge (tgt := 14) C dX9_setAt_7 (by decide) (fun h => absurd h (ix_nge hi hn)) (fun _ => ?_)
  refine V_aload_n C 0 dX9_setAt_10 rfl rfl ?_
  refine V_iload_n C 1 dX9_setAt_11 rfl rfl ?_
  refine V_iload_n C 2 dX9_setAt_12 rfl rfl ?_
  refine V_iast (ws2 := [(a0, .inl (gI g, n, .inl (upd f k x)))]) C 0 rfl hi dX9_setAt_13 rfl ?_
  refine hret _ _ _ dX9_setAt_14 ?_
  exact rfl
set_option maxRecDepth 100000 in
set_option maxHeartbeats 4000000 in
theorem c_X9_copyRow (g : Gd) (a0 : Nat) (a1 : Nat) (n : Nat) (f : Nat → Int32) (f2 : Nat → Int32) (hn : n < 2 ^ 31) : Kv g yX9_copyRow cX9_copyRow 2 none 1 0 0 [.ref a0, .ref a1] [(a0, .inl (gI g, n, .inl f)), (a1, .inl (gI g, n, .inl f2))] (fun (w : va_W) => w = [(a0, .inl (gI g, n, .inl f)), (a1, .inl (gI g, n, .inl f))]) := by
  refine Kv.of (by decide) (Nat.le_of_ble_eq_true rfl) (fun X C hI hret => ?_)
  show V g X 0 0 [(a0, .inl (gI g, n, .inl f)), (a1, .inl (gI g, n, .inl f2))] 0 [(0, .ref a0), (1, .ref a1)] []
  refine V_aload_n C 0 dX9_copyRow_0 rfl rfl ?_
  refine V_iconst (v := 0) C dX9_copyRow_1 (by decide) ?_
  refine V_aload_n C 1 dX9_copyRow_2 rfl rfl ?_
  refine V_iconst (v := 0) C dX9_copyRow_3 (by decide) ?_
  refine V_aload_n C 0 dX9_copyRow_4 rfl rfl ?_
  refine V_alenI (v := nI n) C 0 rfl rfl dX9_copyRow_5 ?_
  refine V_aload_n C 1 dX9_copyRow_6 rfl rfl ?_
  refine V_alenI (v := nI n) C 1 rfl rfl dX9_copyRow_7 ?_
  refine V_min C ml_X9_241 sm_math_min ini_math co_math_min (Nat.le_of_ble_eq_true rfl) (by omega) (by omega) dX9_copyRow_8 ?_
  refine V_ev (show (if (nI n) < (nI n) then (nI n) else (nI n) : Int32) = nI n from min_same) ?_
  refine V_copy (ws2 := [(a0, .inl (gI g, n, .inl f)), (a1, .inl (gI g, n, .inl (va_cpy f f2 (Int32.toNatClampNeg 0) (Int32.toNatClampNeg 0) (Int32.toNatClampNeg (nI n)))))]) C 0 1 ml_X9_246 nm_arraycopy sm_arraycopy ini_system rfl rfl (by decide) (by decide) (nI_pos hn) (by rw [nI_clamp hn, show (0 : Int32).toNatClampNeg = 0 from by decide]; omega) (by rw [nI_clamp hn, show (0 : Int32).toNatClampNeg = 0 from by decide]; omega) (Nat.le_of_ble_eq_true rfl) (by omega) dX9_copyRow_11 rfl ?_
  refine V_ext (f2 := f) (ws2 := [(a0, .inl (gI g, n, .inl f)), (a1, .inl (gI g, n, .inl f))]) 1 rfl (cpy_all hn) rfl ?_
  refine hret _ _ _ dX9_copyRow_14 ?_
  exact rfl
