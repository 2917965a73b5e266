
theorem gn_J {w q p : Nat} (hp : p ≤ 10000) (hq : q ≤ 999) (hw : w ≤ 999) : (if nI (p * q) < nI w then nI w else nI (p * q)) = nI (gn w q p) := by
  have hb : p * q ≤ 10000 * 999 := Nat.mul_le_mul hp hq
  unfold gn
  by_cases h : p * q < w
  · rw [if_pos h, if_pos ((nI_ltI (by omega) (by omega)).mpr h)]
  · rw [if_neg h, if_neg (fun h2 => h ((nI_ltI (by omega) (by omega)).mp h2))]
theorem max_1 {m : Nat} (h1 : 1 ≤ m) (h : m < 2 ^ 31) : (if 1 < nI m then nI m else 1) = nI m := by
  show (if nI 1 < nI m then nI m else nI 1) = nI m
  by_cases h2 : 1 < m
  · rw [if_pos (nI_lt (a := 1) h2 h)]
  · rw [if_neg (fun h3 => h2 ((nI_ltI (a := 1) (by omega) h).mp h3)), show m = 1 by omega]

set_option maxRecDepth 100000 in
set_option maxHeartbeats 4000000 in
theorem c_X0_behind (g : Gd) (d0 : Nat) (fa : Int32) (re : Int32) (me : Int32) (bw : Int32) (bt : Int32) (tk : Int32) (dp : Int32) (wy : Int32) (ti : Int32) (P : Nat) (S : Nat) (k0 : Nat) (hS1 : 1 ≤ S) (hS2 : S ≤ 9999) (hb : P * k0 < 2 ^ 31) : Ki g yX0_behind cX0_behind 2 (some .int) 0 0 0 [.ref d0, .int (nI k0)] [(d0, .inr (0, [.int fa, .int re, .int me, .int bw, .int bt, .int tk, .int (nI P), .int (nI S), .int dp, .int wy, .int ti]))] (fun (r : Int32) (w : va_W) => r = nI (P * k0 / S) ∧ w = [(d0, .inr (0, [.int fa, .int re, .int me, .int bw, .int bt, .int tk, .int (nI P), .int (nI S), .int dp, .int wy, .int ti]))]) := by
  refine Ki.of (by decide) (Nat.le_of_ble_eq_true rfl) (fun X C hI hret => ?_)
  show V g X 0 0 [(d0, .inr (0, [.int fa, .int re, .int me, .int bw, .int bt, .int tk, .int (nI P), .int (nI S), .int dp, .int wy, .int ti]))] 0 [(0, .ref d0), (1, .int (nI k0))] []
  refine V_aload_n C 0 dX0_behind_0 rfl rfl ?_
  refine V_get (v := .int (nI S)) C 0 rfl rfl in_X0 7 (by decide) fl_X0_43 rfl rfl dX0_behind_1 ?_
  refine V_if_le (tgt := 21) C dX0_behind_4 (by decide) (fun h => absurd h (nI_nle (by omega) (by omega))) (fun _ => ?_)
  refine V_aload_n C 0 dX0_behind_7 rfl rfl ?_
  refine V_get (v := .int (nI P)) C 0 rfl rfl in_X0 6 (by decide) fl_X0_40 rfl rfl dX0_behind_8 ?_
  refine V_iload_n C 1 dX0_behind_11 rfl rfl ?_
  refine V_imul C dX0_behind_12 ?_
  refine V_ev (show ((nI P) * (nI k0) : Int32) = nI (P * k0) from pk_mul P k0) ?_
  refine V_aload_n C 0 dX0_behind_13 rfl rfl ?_
  refine V_get (v := .int (nI S)) C 0 rfl rfl in_X0 7 (by decide) fl_X0_43 rfl rfl dX0_behind_14 ?_
  refine V_idiv C dX0_behind_17 (nI_ne0 (by omega) (by omega)) ?_
  refine V_ev (show ((nI (P * k0)) / (nI S) : Int32) = nI (P * k0 / S) from pk_div (by omega) (by omega) (by omega)) ?_
  refine V_goto (tgt := 22) C dX0_behind_18 (by decide) ?_
  refine hret _ _ _ _ dX0_behind_22 ?_
  exact ⟨rfl, rfl⟩
set_option maxRecDepth 100000 in
set_option maxHeartbeats 4000000 in
theorem c_X0_isByWay (g : Gd) (d0 : Nat) (fa : Int32) (re : Int32) (me : Int32) (bw : Int32) (bt : Int32) (tk : Int32) (pu : Int32) (se : Int32) (dp : Int32) (w9 : Nat) (q9 : Nat) (p9 : Nat) (hp : p9 ≤ 10000) (hw : w9 ≤ 999) (hq : q9 ≤ 999) : Ki g yX0_isByWay cX0_isByWay 2 (some .boolean) 0 0 0 [.ref d0, .int (nI p9)] [(d0, .inr (0, [.int fa, .int re, .int me, .int bw, .int bt, .int tk, .int pu, .int se, .int dp, .int (nI w9), .int (nI q9)]))] (fun (r : Int32) (w : va_W) => (¬ p9 * q9 < w9 ∧ r = 1 ∧ w = [(d0, .inr (0, [.int fa, .int re, .int me, .int bw, .int bt, .int tk, .int pu, .int se, .int dp, .int (nI w9), .int (nI q9)]))]) ∨ (p9 * q9 < w9 ∧ r = 0 ∧ w = [(d0, .inr (0, [.int fa, .int re, .int me, .int bw, .int bt, .int tk, .int pu, .int se, .int dp, .int (nI w9), .int (nI q9)]))])) := by
  refine Kz.of (by decide) (Nat.le_of_ble_eq_true rfl) (fun X C hI hret => ?_)
  show V g X 0 0 [(d0, .inr (0, [.int fa, .int re, .int me, .int bw, .int bt, .int tk, .int pu, .int se, .int dp, .int (nI w9), .int (nI q9)]))] 0 [(0, .ref d0), (1, .int (nI p9))] []
  have hb : p9 * q9 ≤ 10000 * 999 := Nat.mul_le_mul hp hq
  refine V_iload_n C 1 dX0_isByWay_0 rfl rfl ?_
  refine V_aload_n C 0 dX0_isByWay_1 rfl rfl ?_
  refine V_get (v := .int (nI q9)) C 0 rfl rfl in_X0 10 (by decide) fl_X0_72 rfl rfl dX0_isByWay_2 ?_
  refine V_imul C dX0_isByWay_5 ?_
  refine V_ev (show ((nI p9) * (nI q9) : Int32) = nI (p9 * q9) from pk_mul p9 q9) ?_
  refine V_aload_n C 0 dX0_isByWay_6 rfl rfl ?_
  refine V_get (v := .int (nI w9)) C 0 rfl rfl in_X0 9 (by decide) fl_X0_69 rfl rfl dX0_isByWay_7 ?_
  refine V_icmp_lt (tgt := 17) C dX0_isByWay_10 (by decide) (fun c_10 => ?_) (fun c_10 => ?_)
  · refine V_iconst (v := 0) C dX0_isByWay_17 (by decide) ?_
    refine hret _ _ _ _ dX0_isByWay_18 (by first | rfl | (split <;> rfl) | decide) ?_
    exact Or.inr ⟨(nI_ltI (by omega) (by omega)).mp c_10, rfl, rfl⟩
  · refine V_iconst (v := 1) C dX0_isByWay_13 (by decide) ?_
    refine V_goto (tgt := 18) C dX0_isByWay_14 (by decide) ?_
    refine hret _ _ _ _ dX0_isByWay_18 (by first | rfl | (split <;> rfl) | decide) ?_
    exact Or.inl ⟨fun h => c_10 ((nI_ltI (by omega) (by omega)).mpr h), rfl, rfl⟩
set_option maxRecDepth 100000 in
set_option maxHeartbeats 4000000 in
theorem c_X0_gain (g : Gd) (d0 : Nat) (fa : Int32) (re : Int32) (me : Int32) (bw : Int32) (bt : Int32) (tk : Int32) (pu : Int32) (se : Int32) (dp : Int32) (w9 : Nat) (q9 : Nat) (p9 : Nat) (hp : p9 ≤ 10000) (hw : w9 ≤ 999) (hq : q9 ≤ 999) : Ki g yX0_gain cX0_gain 2 (some .int) 1 0 0 [.ref d0, .int (nI p9)] [(d0, .inr (0, [.int fa, .int re, .int me, .int bw, .int bt, .int tk, .int pu, .int se, .int dp, .int (nI w9), .int (nI q9)]))] (fun (r : Int32) (w : va_W) => r = nI (gn w9 q9 p9) ∧ w = [(d0, .inr (0, [.int fa, .int re, .int me, .int bw, .int bt, .int tk, .int pu, .int se, .int dp, .int (nI w9), .int (nI q9)]))]) := by
  refine Ki.of (by decide) (Nat.le_of_ble_eq_true rfl) (fun X C hI hret => ?_)
  show V g X 0 0 [(d0, .inr (0, [.int fa, .int re, .int me, .int bw, .int bt, .int tk, .int pu, .int se, .int dp, .int (nI w9), .int (nI q9)]))] 0 [(0, .ref d0), (1, .int (nI p9))] []
  refine V_iload_n C 1 dX0_gain_0 rfl rfl ?_
  refine V_aload_n C 0 dX0_gain_1 rfl rfl ?_
  refine V_get (v := .int (nI q9)) C 0 rfl rfl in_X0 10 (by decide) fl_X0_72 rfl rfl dX0_gain_2 ?_
  refine V_imul C dX0_gain_5 ?_
  refine V_ev (show ((nI p9) * (nI q9) : Int32) = nI (p9 * q9) from pk_mul p9 q9) ?_
  refine V_aload_n C 0 dX0_gain_6 rfl rfl ?_
  refine V_get (v := .int (nI w9)) C 0 rfl rfl in_X0 9 (by decide) fl_X0_69 rfl rfl dX0_gain_7 ?_
  refine V_max C ml_X0_75 sm_math_max ini_math co_math_max (Nat.le_of_ble_eq_true rfl) (by omega) (by omega) dX0_gain_10 ?_
  refine V_ev (show (if (nI (p9 * q9)) < (nI w9) then (nI w9) else (nI (p9 * q9)) : Int32) = nI (gn w9 q9 p9) from gn_J hp hq hw) ?_
  refine hret _ _ _ _ dX0_gain_13 ?_
  exact ⟨rfl, rfl⟩
set_option maxRecDepth 100000 in
set_option maxHeartbeats 4000000 in
theorem c_X0_grow (g : Gd) (d0 : Nat) (bw : Int32) (bt : Int32) (tk : Int32) (pu : Int32) (se : Int32) (wy : Int32) (ti : Int32) (f : Nat) (r : Nat) (m : Nat) (dd : Nat) (gg : Nat) (by0 : Int32) (h1 : r + gg < 2 ^ 31) (h2 : 1 ≤ m) (h3 : m < 2 ^ 31) (h4 : f ≤ 9999999) (h5 : (r + gg) / m ≤ 20000) (h6 : dd ≤ 99) : Kv g yX0_grow cX0_grow 4 none 1 0 0 [.ref d0, .int (nI gg), .int by0] [(d0, .inr (0, [.int (nI f), .int (nI r), .int (nI m), .int bw, .int bt, .int tk, .int pu, .int se, .int (nI dd), .int wy, .int ti]))] (fun (w : va_W) => (¬ by0 = 0 ∧ w = [(d0, .inr (0, [.int (nI (min 9999999 (f + (r + gg) / m * dd))), .int (nI ((r + gg) % m)), .int (nI m), .int (bw + nI ((r + gg) / m)), .int bt, .int tk, .int pu, .int se, .int (nI dd), .int wy, .int ti]))]) ∨ (by0 = 0 ∧ w = [(d0, .inr (0, [.int (nI (min 9999999 (f + (r + gg) / m * dd))), .int (nI ((r + gg) % m)), .int (nI m), .int bw, .int (bt + nI ((r + gg) / m)), .int tk, .int pu, .int se, .int (nI dd), .int wy, .int ti]))])) := by
  refine Kv.of (by decide) (Nat.le_of_ble_eq_true rfl) (fun X C hI hret => ?_)
  show V g X 0 0 [(d0, .inr (0, [.int (nI f), .int (nI r), .int (nI m), .int bw, .int bt, .int tk, .int pu, .int se, .int (nI dd), .int wy, .int ti]))] 0 [(0, .ref d0), (1, .int (nI gg)), (2, .int by0)] []
  have hb : (r + gg) / m * dd ≤ 20000 * 99 := Nat.mul_le_mul h5 h6
  refine V_aload_n C 0 dX0_grow_0 rfl rfl ?_
  refine V_dup C dX0_grow_1 rfl ?_
  refine V_get (v := .int (nI r)) C 0 rfl rfl in_X0 1 (by decide) fl_X0_25 rfl rfl dX0_grow_2 ?_
  refine V_iload_n C 1 dX0_grow_5 rfl rfl ?_
  refine V_iadd C dX0_grow_6 ?_
  refine V_ev (show ((nI r) + (nI gg) : Int32) = nI (r + gg) from nI_add r gg) ?_
  refine V_put (ty := .int) (ws2 := [(d0, .inr (0, [.int (nI f), .int (nI (r + gg)), .int (nI m), .int bw, .int bt, .int tk, .int pu, .int se, .int (nI dd), .int wy, .int ti]))]) C 0 rfl rfl in_X0 tyX0 tyX0_ok nmX0 1 (by decide) fl_X0_25 rfl rfl (by decide +kernel) rfl rfl (Nat.le_of_ble_eq_true rfl) dX0_grow_7 rfl ?_
  refine V_aload_n C 0 dX0_grow_10 rfl rfl ?_
  refine V_get (v := .int (nI m)) C 0 rfl rfl in_X0 2 (by decide) fl_X0_28 rfl rfl dX0_grow_11 ?_
  refine V_if_gt (tgt := 18) C dX0_grow_14 (by decide) (fun _ => ?_) (fun h => absurd (nI_lt (a := 0) (by omega) (by omega)) h)
  refine V_aload_n C 0 dX0_grow_18 rfl rfl ?_
  refine V_get (v := .int (nI (r + gg))) C 0 rfl rfl in_X0 1 (by decide) fl_X0_25 rfl rfl dX0_grow_19 ?_
  refine V_aload_n C 0 dX0_grow_22 rfl rfl ?_
  refine V_get (v := .int (nI m)) C 0 rfl rfl in_X0 2 (by decide) fl_X0_28 rfl rfl dX0_grow_23 ?_
  refine V_idiv C dX0_grow_26 (nI_ne0 (by omega) (by omega)) ?_
  refine V_ev (show ((nI (r + gg)) / (nI m) : Int32) = nI ((r + gg) / m) from pk_div (by omega) (by omega) (by omega)) ?_
  refine V_istore_n (L2 := [(3, .int (nI ((r + gg) / m))), (0, .ref d0), (1, .int (nI gg)), (2, .int by0)]) C dX0_grow_27 rfl (by decide) rfl ?_
  refine V_aload_n C 1 dX0_grow_28 rfl rfl ?_
  refine V_dup C dX0_grow_29 rfl ?_
  refine V_get (v := .int (nI (r + gg))) C 0 rfl rfl in_X0 1 (by decide) fl_X0_25 rfl rfl dX0_grow_30 ?_
  refine V_aload_n C 1 dX0_grow_33 rfl rfl ?_
  refine V_get (v := .int (nI m)) C 0 rfl rfl in_X0 2 (by decide) fl_X0_28 rfl rfl dX0_grow_34 ?_
  refine V_irem C dX0_grow_37 (nI_ne0 (by omega) (by omega)) ?_
  refine V_ev (show ((nI (r + gg)) - (nI (r + gg)) / (nI m) * (nI m) : Int32) = nI ((r + gg) % m) from pk_rem (by omega) (by omega) (by omega)) ?_
  refine V_put (ty := .int) (ws2 := [(d0, .inr (0, [.int (nI f), .int (nI ((r + gg) % m)), .int (nI m), .int bw, .int bt, .int tk, .int pu, .int se, .int (nI dd), .int wy, .int ti]))]) C 0 rfl rfl in_X0 tyX0 tyX0_ok nmX0 1 (by decide) fl_X0_25 rfl rfl (by decide +kernel) rfl rfl (Nat.le_of_ble_eq_true rfl) dX0_grow_38 rfl ?_
  refine V_aload_n C 1 dX0_grow_41 rfl rfl ?_
  refine V_ldc (v := 9999999) C k_X0_92 dX0_grow_42 ?_
  refine V_aload_n C 1 dX0_grow_44 rfl rfl ?_
  refine V_get (v := .int (nI f)) C 0 rfl rfl in_X0 0 (by decide) fl_X0_19 rfl rfl dX0_grow_45 ?_
  refine V_iload_n C 0 dX0_grow_48 rfl rfl ?_
  refine V_aload_n C 1 dX0_grow_49 rfl rfl ?_
  refine V_get (v := .int (nI dd)) C 0 rfl rfl in_X0 8 (by decide) fl_X0_66 rfl rfl dX0_grow_50 ?_
  refine V_imul C dX0_grow_53 ?_
  refine V_ev (show ((nI ((r + gg) / m)) * (nI dd) : Int32) = nI (((r + gg) / m) * dd) from pk_mul ((r + gg) / m) dd) ?_
  refine V_iadd C dX0_grow_54 ?_
  refine V_ev (show ((nI f) + (nI (((r + gg) / m) * dd)) : Int32) = nI (f + (((r + gg) / m) * dd)) from nI_add f (((r + gg) / m) * dd)) ?_
  refine V_min C ml_X0_53 sm_math_min ini_math co_math_min (Nat.le_of_ble_eq_true rfl) (by omega) (by omega) dX0_grow_55 ?_
  refine V_ev (show (if (nI (f + (((r + gg) / m) * dd))) < 9999999 then (nI (f + (((r + gg) / m) * dd))) else 9999999 : Int32) = nI (min 9999999 (f + (r + gg) / m * dd)) from min_nI 9999999 _ (by omega) (by omega)) ?_
  refine V_put (ty := .int) (ws2 := [(d0, .inr (0, [.int (nI (min 9999999 (f + (r + gg) / m * dd))), .int (nI ((r + gg) % m)), .int (nI m), .int bw, .int bt, .int tk, .int pu, .int se, .int (nI dd), .int wy, .int ti]))]) C 0 rfl rfl in_X0 tyX0 tyX0_ok nmX0 0 (by decide) fl_X0_19 rfl rfl (by decide +kernel) rfl rfl (Nat.le_of_ble_eq_true rfl) dX0_grow_58 rfl ?_
  refine V_iload_n C 3 dX0_grow_61 rfl rfl ?_
  refine V_if_eq (tgt := 78) C dX0_grow_62 (by decide) (fun c_62 => ?_) (fun c_62 => ?_)
  · refine V_aload_n C 1 dX0_grow_78 rfl rfl ?_
    refine V_dup C dX0_grow_79 rfl ?_
    refine V_get (v := .int bt) C 0 rfl rfl in_X0 4 (by decide) fl_X0_49 rfl rfl dX0_grow_80 ?_
    refine V_iload_n C 0 dX0_grow_83 rfl rfl ?_
    refine V_iadd C dX0_grow_84 ?_
    refine V_put (ty := .int) (ws2 := [(d0, .inr (0, [.int (nI (min 9999999 (f + (r + gg) / m * dd))), .int (nI ((r + gg) % m)), .int (nI m), .int bw, .int (bt + (nI ((r + gg) / m))), .int tk, .int pu, .int se, .int (nI dd), .int wy, .int ti]))]) C 0 rfl rfl in_X0 tyX0 tyX0_ok nmX0 4 (by decide) fl_X0_49 rfl rfl (by decide +kernel) rfl rfl (Nat.le_of_ble_eq_true rfl) dX0_grow_85 rfl ?_
    refine hret _ _ _ dX0_grow_88 ?_
    exact Or.inr ⟨c_62, rfl⟩
  · refine V_aload_n C 1 dX0_grow_65 rfl rfl ?_
    refine V_dup C dX0_grow_66 rfl ?_
    refine V_get (v := .int bw) C 0 rfl rfl in_X0 3 (by decide) fl_X0_46 rfl rfl dX0_grow_67 ?_
    refine V_iload_n C 0 dX0_grow_70 rfl rfl ?_
    refine V_iadd C dX0_grow_71 ?_
    refine V_put (ty := .int) (ws2 := [(d0, .inr (0, [.int (nI (min 9999999 (f + (r + gg) / m * dd))), .int (nI ((r + gg) % m)), .int (nI m), .int (bw + (nI ((r + gg) / m))), .int bt, .int tk, .int pu, .int se, .int (nI dd), .int wy, .int ti]))]) C 0 rfl rfl in_X0 tyX0 tyX0_ok nmX0 3 (by decide) fl_X0_46 rfl rfl (by decide +kernel) rfl rfl (Nat.le_of_ble_eq_true rfl) dX0_grow_72 rfl ?_
    refine V_goto (tgt := 88) C dX0_grow_75 (by decide) ?_
    refine hret _ _ _ dX0_grow_88 ?_
    exact Or.inl ⟨c_62, rfl⟩
set_option maxRecDepth 100000 in
set_option maxHeartbeats 4000000 in
theorem c_X0_takeTariff (g : Gd) (d0 : Nat) (fa : Int32) (re : Int32) (me : Int32) (bw : Int32) (bt : Int32) (tk : Int32) (pu : Int32) (se : Int32) (dp : Int32) (wy : Int32) (ti : Int32) (h0 : Nat) (h1 : Nat) (h2 : Nat) (N : Nat → Int32) (H : Nat → Int32) (t : Nat) (w9 : Nat) (q9 : Nat) (ht : t < 3) (hw : N (t * 4 + 2) = nI w9) (hw1 : 1 ≤ w9) (hw2 : w9 ≤ 999) (hq : N (t * 4 + 3) = nI q9) (hq1 : 1 ≤ q9) (hq2 : q9 ≤ 999) : Kv g yX0_takeTariff cX0_takeTariff 4 none 2 0 0 [.ref d0, .ref h0, .int (nI t)] [(d0, .inr (0, [.int fa, .int re, .int me, .int bw, .int bt, .int tk, .int pu, .int se, .int dp, .int wy, .int ti])), (h0, .inr (8, [.ref h1, .ref h2])), (h1, .inl (gI g, 12, .inl N)), (h2, .inl (gI g, 24, .inl H))] (fun (w : va_W) => (0 < me ∧ w = [(d0, .inr (0, [.int fa, .int (Int64.toInt32 (Int32.toInt64 re * Int32.toInt64 (nI (w9 * q9)) / Int32.toInt64 me)), .int (nI (w9 * q9)), .int bw, .int bt, .int tk, .int pu, .int se, .int (N (t * 4 + 1)), .int (nI w9), .int (nI q9)])), (h0, .inr (8, [.ref h1, .ref h2])), (h1, .inl (gI g, 12, .inl N)), (h2, .inl (gI g, 24, .inl H))]) ∨ (¬ 0 < me ∧ w = [(d0, .inr (0, [.int fa, .int re, .int (nI (w9 * q9)), .int bw, .int bt, .int tk, .int pu, .int se, .int (N (t * 4 + 1)), .int (nI w9), .int (nI q9)])), (h0, .inr (8, [.ref h1, .ref h2])), (h1, .inl (gI g, 12, .inl N)), (h2, .inl (gI g, 24, .inl H))])) := by
  refine Kv.of (by decide) (Nat.le_of_ble_eq_true rfl) (fun X C hI hret => ?_)
  show V g X 0 0 [(d0, .inr (0, [.int fa, .int re, .int me, .int bw, .int bt, .int tk, .int pu, .int se, .int dp, .int wy, .int ti])), (h0, .inr (8, [.ref h1, .ref h2])), (h1, .inl (gI g, 12, .inl N)), (h2, .inl (gI g, 24, .inl H))] 0 [(0, .ref d0), (1, .ref h0), (2, .int (nI t))] []
  obtain ⟨b1, b2, b3, b4⟩ := wq_b hw1 hw2 hq1 hq2
  refine V_aload_n C 0 dX0_takeTariff_0 rfl rfl ?_
  refine V_aload_n C 1 dX0_takeTariff_1 rfl rfl ?_
  refine V_iload_n C 2 dX0_takeTariff_2 rfl rfl ?_
  refine V_iconst (v := 1) C dX0_takeTariff_3 (by decide) ?_
  refine V_callVi (q0 := 1) (na := 2) (As := [.int (nI t), .int 1]) (rest := [.ref d0]) (wr := [(d0, .inr (0, [.int fa, .int re, .int me, .int bw, .int bt, .int tk, .int pu, .int se, .int dp, .int wy, .int ti])), (h2, .inl (gI g, 24, .inl H))]) C (c_X8_about g h0 h1 h2 N t 1 (show t < 3 from by first | assumption | omega | exact ix_nI (by omega) (by omega) | decide) (show 1 < 4 from by first | assumption | omega | exact ix_nI (by omega) (by omega) | decide)) ⟨⟨ini_X8, co_X8_about, ⟨by decide, by decide, by decide +kernel⟩, by decide⟩, ml_X0_15, im_X8_about, se_X8_about⟩ [1, 2] [0, 3] rfl rfl rfl rfl (by decide) rfl rfl rfl rfl (Nat.le_of_ble_eq_true rfl) (by omega) (by omega) dX0_takeTariff_4 (fun r_1 w_ hw_2 => ?_)
  obtain ⟨rfl, rfl⟩ := hw_2
  refine V_to (ws2 := [(d0, .inr (0, [.int fa, .int re, .int me, .int bw, .int bt, .int tk, .int pu, .int se, .int dp, .int wy, .int ti])), (h2, .inl (gI g, 24, .inl H)), (h0, .inr (8, [.ref h1, .ref h2])), (h1, .inl (gI g, 12, .inl N))]) ?_ rfl
  refine V_put (ty := .int) (ws2 := [(d0, .inr (0, [.int fa, .int re, .int me, .int bw, .int bt, .int tk, .int pu, .int se, .int (N (t * 4 + 1)), .int wy, .int ti])), (h2, .inl (gI g, 24, .inl H)), (h0, .inr (8, [.ref h1, .ref h2])), (h1, .inl (gI g, 12, .inl N))]) C 0 rfl rfl in_X0 tyX0 tyX0_ok nmX0 8 (by decide) fl_X0_66 rfl rfl (by decide +kernel) rfl rfl (Nat.le_of_ble_eq_true rfl) dX0_takeTariff_7 rfl ?_
  refine V_aload_n C 0 dX0_takeTariff_10 rfl rfl ?_
  refine V_aload_n C 1 dX0_takeTariff_11 rfl rfl ?_
  refine V_iload_n C 2 dX0_takeTariff_12 rfl rfl ?_
  refine V_iconst (v := 2) C dX0_takeTariff_13 (by decide) ?_
  refine V_callVi (q0 := 2) (na := 2) (As := [.int (nI t), .int 2]) (rest := [.ref d0]) (wr := [(d0, .inr (0, [.int fa, .int re, .int me, .int bw, .int bt, .int tk, .int pu, .int se, .int (N (t * 4 + 1)), .int wy, .int ti])), (h2, .inl (gI g, 24, .inl H))]) C (c_X8_about g h0 h1 h2 N t 2 (show t < 3 from by first | assumption | omega | exact ix_nI (by omega) (by omega) | decide) (show 2 < 4 from by first | assumption | omega | exact ix_nI (by omega) (by omega) | decide)) ⟨⟨ini_X8, co_X8_about, ⟨by decide, by decide, by decide +kernel⟩, by decide⟩, ml_X0_15, im_X8_about, se_X8_about⟩ [2, 3] [0, 1] rfl rfl rfl rfl (by decide) rfl rfl rfl rfl (Nat.le_of_ble_eq_true rfl) (by omega) (by omega) dX0_takeTariff_14 (fun r_3 w_ hw_4 => ?_)
  obtain ⟨rfl, rfl⟩ := hw_4
  refine V_to (ws2 := [(d0, .inr (0, [.int fa, .int re, .int me, .int bw, .int bt, .int tk, .int pu, .int se, .int (N (t * 4 + 1)), .int wy, .int ti])), (h2, .inl (gI g, 24, .inl H)), (h0, .inr (8, [.ref h1, .ref h2])), (h1, .inl (gI g, 12, .inl N))]) ?_ rfl
  refine V_ev (show (N (t * 4 + 2) : Int32) = nI w9 from hw) ?_
  refine V_put (ty := .int) (ws2 := [(d0, .inr (0, [.int fa, .int re, .int me, .int bw, .int bt, .int tk, .int pu, .int se, .int (N (t * 4 + 1)), .int (nI w9), .int ti])), (h2, .inl (gI g, 24, .inl H)), (h0, .inr (8, [.ref h1, .ref h2])), (h1, .inl (gI g, 12, .inl N))]) C 0 rfl rfl in_X0 tyX0 tyX0_ok nmX0 9 (by decide) fl_X0_69 rfl rfl (by decide +kernel) rfl rfl (Nat.le_of_ble_eq_true rfl) dX0_takeTariff_17 rfl ?_
  refine V_aload_n C 0 dX0_takeTariff_20 rfl rfl ?_
  refine V_aload_n C 1 dX0_takeTariff_21 rfl rfl ?_
  refine V_iload_n C 2 dX0_takeTariff_22 rfl rfl ?_
  refine V_iconst (v := 3) C dX0_takeTariff_23 (by decide) ?_
  refine V_callVi (q0 := 2) (na := 2) (As := [.int (nI t), .int 3]) (rest := [.ref d0]) (wr := [(d0, .inr (0, [.int fa, .int re, .int me, .int bw, .int bt, .int tk, .int pu, .int se, .int (N (t * 4 + 1)), .int (nI w9), .int ti])), (h2, .inl (gI g, 24, .inl H))]) C (c_X8_about g h0 h1 h2 N t 3 (show t < 3 from by first | assumption | omega | exact ix_nI (by omega) (by omega) | decide) (show 3 < 4 from by first | assumption | omega | exact ix_nI (by omega) (by omega) | decide)) ⟨⟨ini_X8, co_X8_about, ⟨by decide, by decide, by decide +kernel⟩, by decide⟩, ml_X0_15, im_X8_about, se_X8_about⟩ [2, 3] [0, 1] rfl rfl rfl rfl (by decide) rfl rfl rfl rfl (Nat.le_of_ble_eq_true rfl) (by omega) (by omega) dX0_takeTariff_24 (fun r_5 w_ hw_6 => ?_)
  obtain ⟨rfl, rfl⟩ := hw_6
  refine V_to (ws2 := [(d0, .inr (0, [.int fa, .int re, .int me, .int bw, .int bt, .int tk, .int pu, .int se, .int (N (t * 4 + 1)), .int (nI w9), .int ti])), (h2, .inl (gI g, 24, .inl H)), (h0, .inr (8, [.ref h1, .ref h2])), (h1, .inl (gI g, 12, .inl N))]) ?_ rfl
  refine V_ev (show (N (t * 4 + 3) : Int32) = nI q9 from hq) ?_
  refine V_put (ty := .int) (ws2 := [(d0, .inr (0, [.int fa, .int re, .int me, .int bw, .int bt, .int tk, .int pu, .int se, .int (N (t * 4 + 1)), .int (nI w9), .int (nI q9)])), (h2, .inl (gI g, 24, .inl H)), (h0, .inr (8, [.ref h1, .ref h2])), (h1, .inl (gI g, 12, .inl N))]) C 0 rfl rfl in_X0 tyX0 tyX0_ok nmX0 10 (by decide) fl_X0_72 rfl rfl (by decide +kernel) rfl rfl (Nat.le_of_ble_eq_true rfl) dX0_takeTariff_27 rfl ?_
  refine V_aload_n C 0 dX0_takeTariff_30 rfl rfl ?_
  refine V_get (v := .int me) C 0 rfl rfl in_X0 2 (by decide) fl_X0_28 rfl rfl dX0_takeTariff_31 ?_
  refine V_istore_n (L2 := [(3, .int me), (0, .ref d0), (1, .ref h0), (2, .int (nI t))]) C dX0_takeTariff_34 rfl (by decide) rfl ?_
  refine V_aload_n C 1 dX0_takeTariff_35 rfl rfl ?_
  refine V_iconst (v := 1) C dX0_takeTariff_36 (by decide) ?_
  refine V_aload_n C 1 dX0_takeTariff_37 rfl rfl ?_
  refine V_get (v := .int (nI w9)) C 0 rfl rfl in_X0 9 (by decide) fl_X0_69 rfl rfl dX0_takeTariff_38 ?_
  refine V_aload_n C 1 dX0_takeTariff_41 rfl rfl ?_
  refine V_get (v := .int (nI q9)) C 0 rfl rfl in_X0 10 (by decide) fl_X0_72 rfl rfl dX0_takeTariff_42 ?_
  refine V_imul C dX0_takeTariff_45 ?_
  refine V_ev (show ((nI w9) * (nI q9) : Int32) = nI (w9 * q9) from pk_mul w9 q9) ?_
  refine V_max C ml_X0_75 sm_math_max ini_math co_math_max (Nat.le_of_ble_eq_true rfl) (by omega) (by omega) dX0_takeTariff_46 ?_
  refine V_ev (show (if 1 < (nI (w9 * q9)) then (nI (w9 * q9)) else 1 : Int32) = nI (w9 * q9) from max_1 b1 (by omega)) ?_
  refine V_put (ty := .int) (ws2 := [(d0, .inr (0, [.int fa, .int re, .int (nI (w9 * q9)), .int bw, .int bt, .int tk, .int pu, .int se, .int (N (t * 4 + 1)), .int (nI w9), .int (nI q9)])), (h2, .inl (gI g, 24, .inl H)), (h0, .inr (8, [.ref h1, .ref h2])), (h1, .inl (gI g, 12, .inl N))]) C 0 rfl rfl in_X0 tyX0 tyX0_ok nmX0 2 (by decide) fl_X0_28 rfl rfl (by decide +kernel) rfl rfl (Nat.le_of_ble_eq_true rfl) dX0_takeTariff_49 rfl ?_
  refine V_iload_n C 0 dX0_takeTariff_52 rfl rfl ?_
  refine V_if_le (tgt := 75) C dX0_takeTariff_53 (by decide) (fun c_53 => ?_) (fun c_53 => ?_)
  · refine V_perm (ws2 := [(d0, .inr (0, [.int fa, .int re, .int (nI (w9 * q9)), .int bw, .int bt, .int tk, .int pu, .int se, .int (N (t * 4 + 1)), .int (nI w9), .int (nI q9)])), (h0, .inr (8, [.ref h1, .ref h2])), (h1, .inl (gI g, 12, .inl N)), (h2, .inl (gI g, 24, .inl H))]) [0, 2, 3, 1] rfl rfl ?_
    refine hret _ _ _ dX0_takeTariff_75 ?_
    exact Or.inr ⟨Int32.not_lt.mpr c_53, rfl⟩
  · refine V_aload_n C 1 dX0_takeTariff_56 rfl rfl ?_
    refine V_aload_n C 1 dX0_takeTariff_57 rfl rfl ?_
    refine V_get (v := .int re) C 0 rfl rfl in_X0 1 (by decide) fl_X0_25 rfl rfl dX0_takeTariff_58 ?_
    refine V_i2l C dX0_takeTariff_61 ?_
    refine V_aload_n C 1 dX0_takeTariff_62 rfl rfl ?_
    refine V_get (v := .int (nI (w9 * q9))) C 0 rfl rfl in_X0 2 (by decide) fl_X0_28 rfl rfl dX0_takeTariff_63 ?_
    refine V_i2l C dX0_takeTariff_66 ?_
    refine V_lmul C dX0_takeTariff_67 ?_
    refine V_iload_n C 0 dX0_takeTariff_68 rfl rfl ?_
    refine V_i2l C dX0_takeTariff_69 ?_
    refine V_ldiv C dX0_takeTariff_70 (i64_0 (fun q9 => by rw [q9] at c_53; exact c_53 (by decide))) ?_
    refine V_l2i C dX0_takeTariff_71 ?_
    refine V_put (ty := .int) (ws2 := [(d0, .inr (0, [.int fa, .int (Int64.toInt32 (((Int32.toInt64 re) * (Int32.toInt64 (nI (w9 * q9)))) / (Int32.toInt64 me))), .int (nI (w9 * q9)), .int bw, .int bt, .int tk, .int pu, .int se, .int (N (t * 4 + 1)), .int (nI w9), .int (nI q9)])), (h2, .inl (gI g, 24, .inl H)), (h0, .inr (8, [.ref h1, .ref h2])), (h1, .inl (gI g, 12, .inl N))]) C 0 rfl rfl in_X0 tyX0 tyX0_ok nmX0 1 (by decide) fl_X0_25 rfl rfl (by decide +kernel) rfl rfl (Nat.le_of_ble_eq_true rfl) dX0_takeTariff_72 rfl ?_
    refine V_perm (ws2 := [(d0, .inr (0, [.int fa, .int (Int64.toInt32 (((Int32.toInt64 re) * (Int32.toInt64 (nI (w9 * q9)))) / (Int32.toInt64 me))), .int (nI (w9 * q9)), .int bw, .int bt, .int tk, .int pu, .int se, .int (N (t * 4 + 1)), .int (nI w9), .int (nI q9)])), (h0, .inr (8, [.ref h1, .ref h2])), (h1, .inl (gI g, 12, .inl N)), (h2, .inl (gI g, 24, .inl H))]) [0, 2, 3, 1] rfl rfl ?_
    refine hret _ _ _ dX0_takeTariff_75 ?_
    exact Or.inl ⟨Int32.not_le.mp c_53, rfl⟩
set_option maxRecDepth 100000 in
set_option maxHeartbeats 4000000 in
theorem c_X0_startNew (g : Gd) (d0 : Nat) (fa : Int32) (re : Int32) (me : Int32) (bw : Int32) (bt : Int32) (tk : Int32) (pu : Int32) (se : Int32) (dp : Int32) (wy : Int32) (ti : Int32) (h0 : Nat) (h1 : Nat) (h2 : Nat) (N : Nat → Int32) (H : Nat → Int32) (c : Nat) (t : Nat) (hc : c < 86400) (ht : t < 3) (hzt : H (c / 3600) = nI t) : Kv g yX0_startNew cX0_startNew 3 none 2 0 0 [.ref d0, .ref h0, .int (nI c)] [(d0, .inr (0, [.int fa, .int re, .int me, .int bw, .int bt, .int tk, .int pu, .int se, .int dp, .int wy, .int ti])), (h0, .inr (8, [.ref h1, .ref h2])), (h1, .inl (gI g, 12, .inl N)), (h2, .inl (gI g, 24, .inl H))] (fun (w : va_W) => w = [(d0, .inr (0, [.int (N (t * 4)), .int 0, .int 0, .int bw, .int bt, .int 0, .int pu, .int se, .int dp, .int wy, .int ti])), (h0, .inr (8, [.ref h1, .ref h2])), (h1, .inl (gI g, 12, .inl N)), (h2, .inl (gI g, 24, .inl H))]) := by
  refine Kv.of (by decide) (Nat.le_of_ble_eq_true rfl) (fun X C hI hret => ?_)
  show V g X 0 0 [(d0, .inr (0, [.int fa, .int re, .int me, .int bw, .int bt, .int tk, .int pu, .int se, .int dp, .int wy, .int ti])), (h0, .inr (8, [.ref h1, .ref h2])), (h1, .inl (gI g, 12, .inl N)), (h2, .inl (gI g, 24, .inl H))] 0 [(0, .ref d0), (1, .ref h0), (2, .int (nI c))] []
  refine V_aload_n C 0 dX0_startNew_0 rfl rfl ?_
  refine V_aload_n C 1 dX0_startNew_1 rfl rfl ?_
  refine V_aload_n C 1 dX0_startNew_2 rfl rfl ?_
  refine V_iload_n C 2 dX0_startNew_3 rfl rfl ?_
  refine V_callVi (q0 := 1) (na := 1) (As := [.int (nI c)]) (rest := [.ref h0, .ref d0]) (wr := [(d0, .inr (0, [.int fa, .int re, .int me, .int bw, .int bt, .int tk, .int pu, .int se, .int dp, .int wy, .int ti])), (h1, .inl (gI g, 12, .inl N))]) C (c_X8_ofSecond g h0 h1 h2 H c (show c < 86400 from by first | assumption | omega | exact ix_nI (by omega) (by omega) | decide)) ⟨⟨ini_X8, co_X8_ofSecond, ⟨by decide, by decide, by decide +kernel⟩, by decide⟩, ml_X0_9, im_X8_ofSecond, se_X8_ofSecond⟩ [1, 3] [0, 2] rfl rfl rfl rfl (by decide) rfl rfl rfl rfl (Nat.le_of_ble_eq_true rfl) (by omega) (by omega) dX0_startNew_4 (fun r_1 w_ hw_2 => ?_)
  obtain ⟨rfl, rfl⟩ := hw_2
  refine V_to (ws2 := [(d0, .inr (0, [.int fa, .int re, .int me, .int bw, .int bt, .int tk, .int pu, .int se, .int dp, .int wy, .int ti])), (h1, .inl (gI g, 12, .inl N)), (h0, .inr (8, [.ref h1, .ref h2])), (h2, .inl (gI g, 24, .inl H))]) ?_ rfl
  refine V_ev (show (H (c / 3600) : Int32) = nI t from hzt) ?_
  refine V_iconst (v := 0) C dX0_startNew_7 (by decide) ?_
  refine V_callVi (q0 := 2) (na := 2) (As := [.int (nI t), .int 0]) (rest := [.ref d0]) (wr := [(d0, .inr (0, [.int fa, .int re, .int me, .int bw, .int bt, .int tk, .int pu, .int se, .int dp, .int wy, .int ti])), (h2, .inl (gI g, 24, .inl H))]) C (c_X8_about g h0 h1 h2 N t 0 (show t < 3 from by first | assumption | omega | exact ix_nI (by omega) (by omega) | decide) (show 0 < 4 from by first | assumption | omega | exact ix_nI (by omega) (by omega) | decide)) ⟨⟨ini_X8, co_X8_about, ⟨by decide, by decide, by decide +kernel⟩, by decide⟩, ml_X0_15, im_X8_about, se_X8_about⟩ [2, 1] [0, 3] rfl rfl rfl rfl (by decide) rfl rfl rfl rfl (Nat.le_of_ble_eq_true rfl) (by omega) (by omega) dX0_startNew_8 (fun r_3 w_ hw_4 => ?_)
  obtain ⟨rfl, rfl⟩ := hw_4
  refine V_to (ws2 := [(d0, .inr (0, [.int fa, .int re, .int me, .int bw, .int bt, .int tk, .int pu, .int se, .int dp, .int wy, .int ti])), (h2, .inl (gI g, 24, .inl H)), (h0, .inr (8, [.ref h1, .ref h2])), (h1, .inl (gI g, 12, .inl N))]) ?_ rfl
  refine V_put (ty := .int) (ws2 := [(d0, .inr (0, [.int (N (t * 4 + 0)), .int re, .int me, .int bw, .int bt, .int tk, .int pu, .int se, .int dp, .int wy, .int ti])), (h2, .inl (gI g, 24, .inl H)), (h0, .inr (8, [.ref h1, .ref h2])), (h1, .inl (gI g, 12, .inl N))]) C 0 rfl rfl in_X0 tyX0 tyX0_ok nmX0 0 (by decide) fl_X0_19 rfl rfl (by decide +kernel) rfl rfl (Nat.le_of_ble_eq_true rfl) dX0_startNew_11 rfl ?_
  refine V_aload_n C 0 dX0_startNew_14 rfl rfl ?_
  refine V_iconst (v := 0) C dX0_startNew_15 (by decide) ?_
  refine V_put (ty := .int) (ws2 := [(d0, .inr (0, [.int (N (t * 4 + 0)), .int 0, .int me, .int bw, .int bt, .int tk, .int pu, .int se, .int dp, .int wy, .int ti])), (h2, .inl (gI g, 24, .inl H)), (h0, .inr (8, [.ref h1, .ref h2])), (h1, .inl (gI g, 12, .inl N))]) C 0 rfl rfl in_X0 tyX0 tyX0_ok nmX0 1 (by decide) fl_X0_25 rfl rfl (by decide +kernel) rfl rfl (Nat.le_of_ble_eq_true rfl) dX0_startNew_16 rfl ?_
  refine V_aload_n C 0 dX0_startNew_19 rfl rfl ?_
  refine V_iconst (v := 0) C dX0_startNew_20 (by decide) ?_
  refine V_put (ty := .int) (ws2 := [(d0, .inr (0, [.int (N (t * 4 + 0)), .int 0, .int 0, .int bw, .int bt, .int tk, .int pu, .int se, .int dp, .int wy, .int ti])), (h2, .inl (gI g, 24, .inl H)), (h0, .inr (8, [.ref h1, .ref h2])), (h1, .inl (gI g, 12, .inl N))]) C 0 rfl rfl in_X0 tyX0 tyX0_ok nmX0 2 (by decide) fl_X0_28 rfl rfl (by decide +kernel) rfl rfl (Nat.le_of_ble_eq_true rfl) dX0_startNew_21 rfl ?_
  refine V_aload_n C 0 dX0_startNew_24 rfl rfl ?_
  refine V_iconst (v := 0) C dX0_startNew_25 (by decide) ?_
  refine V_put (ty := .boolean) (ws2 := [(d0, .inr (0, [.int (N (t * 4 + 0)), .int 0, .int 0, .int bw, .int bt, .int 0, .int pu, .int se, .int dp, .int wy, .int ti])), (h2, .inl (gI g, 24, .inl H)), (h0, .inr (8, [.ref h1, .ref h2])), (h1, .inl (gI g, 12, .inl N))]) C 0 rfl rfl in_X0 tyX0 tyX0_ok nmX0 5 (by decide) fl_X0_31 rfl rfl (by decide +kernel) rfl rfl (Nat.le_of_ble_eq_true rfl) dX0_startNew_26 rfl ?_
  refine V_perm (ws2 := [(d0, .inr (0, [.int (N (t * 4 + 0)), .int 0, .int 0, .int bw, .int bt, .int 0, .int pu, .int se, .int dp, .int wy, .int ti])), (h0, .inr (8, [.ref h1, .ref h2])), (h1, .inl (gI g, 12, .inl N)), (h2, .inl (gI g, 24, .inl H))]) [0, 2, 3, 1] rfl rfl ?_
  refine hret _ _ _ dX0_startNew_29 ?_
  exact rfl
set_option maxRecDepth 100000 in
set_option maxHeartbeats 4000000 in
theorem c_X0_goOnFrom (g : Gd) (d0 : Nat) (fa : Int32) (re : Int32) (me : Int32) (bw : Int32) (bt : Int32) (tk : Int32) (pu : Int32) (se : Int32) (dp : Int32) (wy : Int32) (ti : Int32) (m2 : Nat) (G : Nat → Int32)  : Kv g yX0_goOnFrom cX0_goOnFrom 2 none 0 0 0 [.ref d0, .ref m2] [(d0, .inr (0, [.int fa, .int re, .int me, .int bw, .int bt, .int tk, .int pu, .int se, .int dp, .int wy, .int ti])), (m2, .inr (6, [.int (G 49), .int (G 39), .int (G 40), .int (G 46), .int (G 41), .int (G 42), .int (G 43), .int (G 44), .int (G 45), .int (G 47), .int (G 48)]))] (fun (w : va_W) => w = [(d0, .inr (0, [.int (G 39), .int (G 47), .int (G 48), .int bw, .int bt, .int 0, .int pu, .int se, .int dp, .int wy, .int ti])), (m2, .inr (6, [.int (G 49), .int (G 39), .int (G 40), .int (G 46), .int (G 41), .int (G 42), .int (G 43), .int (G 44), .int (G 45), .int (G 47), .int (G 48)]))]) := by
  refine Kv.of (by decide) (Nat.le_of_ble_eq_true rfl) (fun X C hI hret => ?_)
  show V g X 0 0 [(d0, .inr (0, [.int fa, .int re, .int me, .int bw, .int bt, .int tk, .int pu, .int se, .int dp, .int wy, .int ti])), (m2, .inr (6, [.int (G 49), .int (G 39), .int (G 40), .int (G 46), .int (G 41), .int (G 42), .int (G 43), .int (G 44), .int (G 45), .int (G 47), .int (G 48)]))] 0 [(0, .ref d0), (1, .ref m2)] []
  refine V_aload_n C 0 dX0_goOnFrom_0 rfl rfl ?_
  refine V_aload_n C 1 dX0_goOnFrom_1 rfl rfl ?_
  refine V_get (v := .int (G 39)) C 1 rfl rfl in_X6 1 (by decide) fl_X0_35 rfl rfl dX0_goOnFrom_2 ?_
  refine V_put (ty := .int) (ws2 := [(d0, .inr (0, [.int (G 39), .int re, .int me, .int bw, .int bt, .int tk, .int pu, .int se, .int dp, .int wy, .int ti])), (m2, .inr (6, [.int (G 49), .int (G 39), .int (G 40), .int (G 46), .int (G 41), .int (G 42), .int (G 43), .int (G 44), .int (G 45), .int (G 47), .int (G 48)]))]) C 0 rfl rfl in_X0 tyX0 tyX0_ok nmX0 0 (by decide) fl_X0_19 rfl rfl (by decide +kernel) rfl rfl (Nat.le_of_ble_eq_true rfl) dX0_goOnFrom_5 rfl ?_
  refine V_aload_n C 0 dX0_goOnFrom_8 rfl rfl ?_
  refine V_aload_n C 1 dX0_goOnFrom_9 rfl rfl ?_
  refine V_get (v := .int (G 47)) C 1 rfl rfl in_X6 9 (by decide) fl_X0_38 rfl rfl dX0_goOnFrom_10 ?_
  refine V_put (ty := .int) (ws2 := [(d0, .inr (0, [.int (G 39), .int (G 47), .int me, .int bw, .int bt, .int tk, .int pu, .int se, .int dp, .int wy, .int ti])), (m2, .inr (6, [.int (G 49), .int (G 39), .int (G 40), .int (G 46), .int (G 41), .int (G 42), .int (G 43), .int (G 44), .int (G 45), .int (G 47), .int (G 48)]))]) C 0 rfl rfl in_X0 tyX0 tyX0_ok nmX0 1 (by decide) fl_X0_25 rfl rfl (by decide +kernel) rfl rfl (Nat.le_of_ble_eq_true rfl) dX0_goOnFrom_13 rfl ?_
  refine V_aload_n C 0 dX0_goOnFrom_16 rfl rfl ?_
  refine V_aload_n C 1 dX0_goOnFrom_17 rfl rfl ?_
  refine V_get (v := .int (G 48)) C 1 rfl rfl in_X6 10 (by decide) fl_X0_39 rfl rfl dX0_goOnFrom_18 ?_
  refine V_put (ty := .int) (ws2 := [(d0, .inr (0, [.int (G 39), .int (G 47), .int (G 48), .int bw, .int bt, .int tk, .int pu, .int se, .int dp, .int wy, .int ti])), (m2, .inr (6, [.int (G 49), .int (G 39), .int (G 40), .int (G 46), .int (G 41), .int (G 42), .int (G 43), .int (G 44), .int (G 45), .int (G 47), .int (G 48)]))]) C 0 rfl rfl in_X0 tyX0 tyX0_ok nmX0 2 (by decide) fl_X0_28 rfl rfl (by decide +kernel) rfl rfl (Nat.le_of_ble_eq_true rfl) dX0_goOnFrom_21 rfl ?_
  refine V_aload_n C 0 dX0_goOnFrom_24 rfl rfl ?_
  refine V_iconst (v := 0) C dX0_goOnFrom_25 (by decide) ?_
  refine V_put (ty := .boolean) (ws2 := [(d0, .inr (0, [.int (G 39), .int (G 47), .int (G 48), .int bw, .int bt, .int 0, .int pu, .int se, .int dp, .int wy, .int ti])), (m2, .inr (6, [.int (G 49), .int (G 39), .int (G 40), .int (G 46), .int (G 41), .int (G 42), .int (G 43), .int (G 44), .int (G 45), .int (G 47), .int (G 48)]))]) C 0 rfl rfl in_X0 tyX0 tyX0_ok nmX0 5 (by decide) fl_X0_31 rfl rfl (by decide +kernel) rfl rfl (Nat.le_of_ble_eq_true rfl) dX0_goOnFrom_26 rfl ?_
  refine hret _ _ _ dX0_goOnFrom_29 ?_
  exact rfl
