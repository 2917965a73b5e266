
section
variable {l f v p c : Int32} {k : Nat}
theorem tk_d1 (h0 : ¬ p = 0) (hk : k ≤ 9) (hn : ¬ (p = 3 ∨ v = 0)) : takeA (l, f, v, p) (nI (k + 48)) = if 9999 < (if v = -1 then nI k else v * 10 + nI k) then none else some (l, f, (if v = -1 then nI k else v * 10 + nI k), p) := by
  unfold takeA
  dsimp only
  rw [if_neg h0, if_pos (dig_c hk), if_neg hn, dig_v]
theorem tk_d0 (h0 : ¬ p = 0) (hk : k ≤ 9) (hn : p = 3 ∨ v = 0) : takeA (l, f, v, p) (nI (k + 48)) = none := by
  unfold takeA
  dsimp only
  rw [if_neg h0, if_pos (dig_c hk), if_pos hn]
theorem tk_L0 (h0 : p = 0) (hn : ¬ isL c) : takeA (l, f, v, p) c = none := by
  unfold takeA
  dsimp only
  rw [if_pos h0, if_neg hn]
theorem tk_L1 {q : Int32} (h0 : p = 0) (hn : isL c) (hq : q = if c = 100 then 1 else if c = 119 then 2 else 3) : takeA (l, f, v, p) c = some (c, f, -1, q) := by
  unfold takeA
  dsimp only
  rw [if_pos h0, if_pos hn, hq]
theorem tk_S (h0 : ¬ p = 0) (hd : ¬ (¬ c < 48 ∧ ¬ 57 < c)) (h1 : c = 47) (h2 : p = 1) (h3 : ¬ v = -1) : takeA (l, f, v, p) c = some (l, v, -1, 2) := by
  unfold takeA
  dsimp only
  rw [if_neg h0, if_neg hd, if_pos ⟨h1, h2, h3⟩]
theorem tk_E (h0 : ¬ p = 0) (hd : ¬ (¬ c < 48 ∧ ¬ 57 < c)) (hs : ¬ (c = 47 ∧ p = 1 ∧ ¬ v = -1)) (h1 : c = 59) (h2 : mayE (l, f, v, p)) : takeA (l, f, v, p) c = some (l, f, v, 0) := by
  unfold takeA
  dsimp only
  rw [if_neg h0, if_neg hd, if_neg hs, if_pos ⟨h1, h2⟩]
theorem tk_N (h0 : ¬ p = 0) (hd : ¬ (¬ c < 48 ∧ ¬ 57 < c)) (hs : ¬ (c = 47 ∧ p = 1 ∧ ¬ v = -1)) (h1 : ¬ (c = 59 ∧ mayE (l, f, v, p))) : takeA (l, f, v, p) c = none := by
  unfold takeA
  dsimp only
  rw [if_neg h0, if_neg hd, if_neg hs, if_neg h1]
end
theorem flt_s {pd : Nat → Int32} {ty i : Nat} {s s2 : As} (h : i < ty) (ht : takeA s (pd i) = some s2) : flt pd ty i s = flt pd ty (i + 1) s2 := by
  unfold flt
  rw [show ty - i = (ty - (i + 1)) + 1 by omega, goA, ht]

set_option maxRecDepth 100000 in
set_option maxHeartbeats 4000000 in
theorem c_X5_codeAt (g : Gd) (u : Nat) (i : Nat) (hu : u < 2 ^ 64) (hi : i < 8) : Ki g yX5_codeAt cX5_codeAt 3 (some .int) 0 0 0 [.long (lN u), .int (nI i)] [] (fun (r : Int32) (w : va_W) => r = nI (dg u i) ∧ w = []) := by
  refine Ki.of (by decide) (Nat.le_of_ble_eq_true rfl) (fun X C hI hret => ?_)
  show V g X 0 0 [] 0 [(0, .long (lN u)), (2, .int (nI i))] []
  refine V_lload_n C 0 dX5_codeAt_0 rfl rfl ?_
  refine V_bipush (v := 8) C dX5_codeAt_1 (by decide) ?_
  refine V_iload_n C 1 dX5_codeAt_3 rfl rfl ?_
  refine V_imul C dX5_codeAt_4 ?_
  refine V_ev (show (8 * (nI i) : Int32) = nI (8 * i) from pk_mul 8 i) ?_
  refine V_lushr C dX5_codeAt_5 ?_
  refine V_evl (show (Int64.toUInt64 (lN u) >>> (Int64.toUInt64 (Int32.toInt64 (nI (8 * i))) &&& Int64.toUInt64 63)).toInt64 = lN (u / 256 ^ i) from lN_shr hu hi) ?_
  refine V_l2i C dX5_codeAt_6 ?_
  refine V_sipush (v := 255) C dX5_codeAt_7 (by decide) ?_
  refine V_iand C dX5_codeAt_10 ?_
  refine V_ev (show ((Int64.toInt32 (lN (u / 256 ^ i))) &&& 255 : Int32) = nI (dg u i) from lI_dg) ?_
  refine hret _ _ _ _ dX5_codeAt_11 ?_
  exact ⟨rfl, rfl⟩
set_option maxRecDepth 100000 in
set_option maxHeartbeats 4000000 in
theorem c_X5_countOf (g : Gd) (u : Nat) (hu : u < 2 ^ 64) : Ki g yX5_countOf cX5_countOf 5 (some .int) 1 0 0 [.long (lN u)] [] (fun (r : Int32) (w : va_W) => ((∀ n9, ¬ PT u n9) ∧ r = 0 ∧ w = []) ∨ (∃ (n9 : Nat), PT u n9 ∧ r = nI n9 ∧ w = [])) := by
  refine Ki.of (by decide) (Nat.le_of_ble_eq_true rfl) (fun X C hI hret => ?_)
  show V g X 0 0 [] 0 [(0, .long (lN u))] []
  refine V_iconst (v := 0) C dX5_countOf_0 (by decide) ?_
  refine V_istore_n (L2 := [(2, .int 0), (0, .long (lN u))]) C dX5_countOf_1 rfl (by decide) rfl ?_
  refine V_iconst (v := 0) C dX5_countOf_2 (by decide) ?_
  refine V_istore_n (L2 := [(3, .int 0), (2, .int 0), (0, .long (lN u))]) C dX5_countOf_3 rfl (by decide) rfl ?_
  have loop_4 : ∀ (fu_4 : Nat) (j : Nat), (j ≤ 8) → (∀ i, i < j → 33 ≤ dg u i ∧ dg u i ≤ 126) → 8 - j < fu_4 → V g X 0 0 [] 4 [(0, .long (lN u)), (2, .int (nI j)), (3, .int (nI j))] [] := by
    intro fu_4
    induction fu_4 with
    | zero => intro j hj hdg hm; exact absurd hm (by omega)
    | succ fu_4 ih_4 =>
      intro j hj hdg hm
      refine V_iload_n C 2 dX5_countOf_4 rfl rfl ?_
      refine V_bipush (v := 8) C dX5_countOf_5 (by decide) ?_
      refine V_icmp_ge (tgt := 62) C dX5_countOf_7 (by decide) (fun c_7 => ?_) (fun c_7 => ?_)
      · refine V_iload_n C 1 dX5_countOf_62 rfl rfl ?_
        refine hret _ _ _ _ dX5_countOf_63 ?_
        have hj8 : j = 8 := by have := lp_ge 8 rfl (by omega) (by omega) c_7; omega
        subst hj8
        exact Or.inr ⟨8, ⟨by omega, by omega, Nat.div_eq_of_lt (by omega), hdg⟩, rfl, rfl⟩
      · have hj2 : j < 8 := lp_lt 8 rfl (by omega) (by omega) c_7
        refine V_lload_n C 0 dX5_countOf_10 rfl rfl ?_
        refine V_iload_n C 2 dX5_countOf_11 rfl rfl ?_
        refine V_callSi (na := 2) (As := [.long (lN u), .int (nI j)]) (rest := []) (wr := []) C (c_X5_codeAt g u j (show u < 2 ^ 64 from by first | assumption | omega | exact ix_nI (by omega) (by omega) | decide) (show j < 8 from by first | assumption | omega | exact ix_nI (by omega) (by omega) | decide)) ⟨⟨ini_X5, co_X5_codeAt, ⟨by decide, by decide, by decide +kernel⟩, by decide⟩, ml_X5_13, sm_X5_codeAt⟩ [] [] rfl rfl rfl rfl (by decide) rfl rfl (Nat.le_of_ble_eq_true rfl) (by omega) (by omega) dX5_countOf_12 (fun r_1 w_ hw_2 => ?_)
        obtain ⟨rfl, rfl⟩ := hw_2
        refine V_to (ws2 := []) ?_ rfl
        refine V_istore (L2 := [(4, .int (nI (dg u j))), (0, .long (lN u)), (2, .int (nI j)), (3, .int (nI j))]) C dX5_countOf_15 (by decide) rfl ?_
        refine V_iload C 0 dX5_countOf_17 rfl ?_
        refine V_if_ne (tgt := 39) C dX5_countOf_19 (by decide) (fun c_19 => ?_) (fun c_19 => ?_)
        · refine V_iload C 0 dX5_countOf_39 rfl ?_
          refine V_bipush (v := 33) C dX5_countOf_41 (by decide) ?_
          refine V_bipush (v := 126) C dX5_countOf_43 (by decide) ?_
          refine V_callNi (na := 3) (As := [.int (nI (dg u j)), .int 33, .int 126]) (rest := []) (wr := []) C (c_X9_isIn g (nI (dg u j)) 33 126 ) ⟨⟨ini_X9, co_X9_isIn, ⟨by decide, by decide, by decide +kernel⟩, by decide⟩, ⟨_, ml_X5_17⟩, sm_X9_isIn⟩ [] [] rfl rfl rfl rfl (by decide) rfl rfl (Nat.le_of_ble_eq_true rfl) (by omega) (by omega) dX5_countOf_45 (fun r_3 w_ hw_4 => ?_)
          rcases hw_4 with ⟨hf4_0, hf4_1, rfl, rfl⟩ | ⟨hf4_0, rfl, rfl⟩
          · refine V_to (ws2 := []) ?_ rfl
            have hgd := dg_in dg_lt hf4_0 hf4_1
            refine V_if_ne (tgt := 53) C dX5_countOf_48 (by decide) (fun _ => ?_) (fun h => absurd h (by decide))
            refine V_iinc (v := nI (j + 1)) (L2 := [(2, .int (nI (j + 1))), (4, .int (nI (dg u j))), (0, .long (lN u)), (3, .int (nI j))]) C 2 dX5_countOf_53 rfl (nI_add j 1) (by decide) rfl ?_
            refine V_iinc (v := nI (j + 1)) (L2 := [(3, .int (nI (j + 1))), (2, .int (nI (j + 1))), (4, .int (nI (dg u j))), (0, .long (lN u))]) C 3 dX5_countOf_56 rfl (nI_add j 1) (by decide) rfl ?_
            refine V_goto (tgt := 4) C dX5_countOf_59 (by decide) ?_
            refine V_locs (L2 := [(0, .long (lN u)), (2, .int (nI (j + 1))), (3, .int (nI (j + 1)))]) [3, 1, 0] rfl ?_
            exact ih_4 (j + 1) (show (j + 1) ≤ 8 from by first | assumption | omega | rfl) (fun i hi9 => by rcases (show i < j ∨ i = j by omega) with q9 | q9; exact hdg i q9; subst q9; exact hgd) (by omega)
          · refine V_to (ws2 := []) ?_ rfl
            have hbad := dg_out dg_lt hf4_0
            refine V_if_ne (tgt := 53) C dX5_countOf_48 (by decide) (fun h => absurd rfl h) (fun _ => ?_)
            refine V_iconst (v := 0) C dX5_countOf_51 (by decide) ?_
            refine hret _ _ _ _ dX5_countOf_52 ?_
            exact Or.inl ⟨PT_bad (fun q9 => c_19 (by unfold dg; rw [q9]; rfl)) hbad, rfl, rfl⟩
        · have hd0 : dg u j = 0 := (nI_eq (b := 0) (by have := dg_lt (u := u) (i := j); omega) (by omega)).mp c_19
          refine V_lload_n C 1 dX5_countOf_22 rfl rfl ?_
          refine V_bipush (v := 8) C dX5_countOf_23 (by decide) ?_
          refine V_iload_n C 3 dX5_countOf_25 rfl rfl ?_
          refine V_imul C dX5_countOf_26 ?_
          refine V_ev (show (8 * (nI j) : Int32) = nI (8 * j) from pk_mul 8 j) ?_
          refine V_lushr C dX5_countOf_27 ?_
          refine V_evl (show (Int64.toUInt64 (lN u) >>> (Int64.toUInt64 (Int32.toInt64 (nI (8 * j))) &&& Int64.toUInt64 63)).toInt64 = lN (u / 256 ^ j) from lN_shr hu hj2) ?_
          refine V_lconst (v := 0) C dX5_countOf_28 (by decide) ?_
          refine V_lcmp C dX5_countOf_29 ?_
          refine V_if_ne (tgt := 37) C dX5_countOf_30 (by decide) (fun c_30 => ?_) (fun c_30 => ?_)
          · refine V_iconst (v := 0) C dX5_countOf_37 (by decide) ?_
            refine hret _ _ _ _ dX5_countOf_38 ?_
            exact Or.inl ⟨PT_bad (fun q9 => c_30 ((lg_cmp_eq _ _).mpr (by rw [q9]; rfl))) (by rw [hd0]; omega), rfl, rfl⟩
          · refine V_iload_n C 2 dX5_countOf_33 rfl rfl ?_
            refine V_goto (tgt := 38) C dX5_countOf_34 (by decide) ?_
            refine hret _ _ _ _ dX5_countOf_38 ?_
            have hl0 : u / 256 ^ j = 0 := lN_0 (Nat.lt_of_le_of_lt (Nat.div_le_self _ _) hu) ((lg_cmp_eq _ _).mp c_30)
            rcases Nat.eq_zero_or_pos j with q9 | q9
            · subst q9
              exact Or.inl ⟨PT_0 hl0, rfl, rfl⟩
            · exact Or.inr ⟨j, ⟨q9, hj, hl0, hdg⟩, rfl, rfl⟩
  refine V_locs (L2 := [(0, .long (lN u)), (2, .int 0), (3, .int 0)]) [2, 1, 0] rfl ?_
  exact loop_4 (8 - 0 + 1) 0 (show 0 ≤ 8 from by first | assumption | omega | rfl) (fun i hi9 => absurd hi9 (by omega)) (by omega)
set_option maxRecDepth 100000 in
set_option maxHeartbeats 4000000 in
theorem c_X5_append (g : Gd) (p0 : Nat) (p1 : Nat) (ln : Nat) (pc : Nat → Int32) (u : Nat) (n : Nat) (hu : u < 2 ^ 64) (hn : n ≤ 8) (hln : ln + n ≤ 80) : Kv g yX5_append cX5_append 5 none 1 0 0 [.ref p0, .long (lN u), .int (nI n)] [(p0, .inr (5, [.ref p1, .int (nI ln)])), (p1, .inl (gC g, 80, .inl pc))] (fun (w : va_W) => ∃ (pd2 : Nat → Int32), (∀ i, i < ln → pd2 i = pc i) ∧ (∀ i, i < n → pd2 (ln + i) = nI (dg u (n - 1 - i))) ∧ w = [(p0, .inr (5, [.ref p1, .int (nI (ln + n))])), (p1, .inl (gC g, 80, .inl pd2))]) := by
  refine Kv.of (by decide) (Nat.le_of_ble_eq_true rfl) (fun X C hI hret => ?_)
  show V g X 0 0 [(p0, .inr (5, [.ref p1, .int (nI ln)])), (p1, .inl (gC g, 80, .inl pc))] 0 [(0, .ref p0), (1, .long (lN u)), (3, .int (nI n))] []
  refine V_iload_n C 2 dX5_append_0 rfl rfl ?_
  refine V_iconst (v := 1) C dX5_append_1 (by decide) ?_
  refine V_isub C dX5_append_2 ?_
  refine V_istore (L2 := [(4, .int ((nI n) - 1)), (0, .ref p0), (1, .long (lN u)), (3, .int (nI n))]) C dX5_append_3 (by decide) rfl ?_
  have loop_5 : ∀ (fu_5 : Nat) (jj : Nat) (tt : Nat) (pdx : Nat → Int32), (jj ≤ n) → (tt = ln + (n - jj)) → (∀ i, i < ln → pdx i = pc i) → (∀ i, i < n - jj → pdx (ln + i) = nI (dg u (n - 1 - i))) → jj < fu_5 → V g X 0 0 [(p0, .inr (5, [.ref p1, .int (nI tt)])), (p1, .inl (gC g, 80, .inl pdx))] 5 [(0, .ref p0), (1, .long (lN u)), (3, .int (nI n)), (4, .int (nI jj - 1))] [] := by
    intro fu_5
    induction fu_5 with
    | zero => intro jj tt pdx hjj htt hp1 hp2 hm; exact absurd hm (by omega)
    | succ fu_5 ih_5 =>
      intro jj tt pdx hjj htt hp1 hp2 hm
      refine V_iload C 3 dX5_append_5 rfl ?_
      refine V_if_lt (tgt := 61) C dX5_append_7 (by decide) (fun c_7 => ?_) (fun c_7 => ?_)
      · refine hret _ _ _ dX5_append_61 ?_
        have hj0 := m1_neg (by omega) c_7
        have ht9 : tt = ln + n := by omega
        subst ht9
        exact ⟨pdx, hp1, fun i hi9 => hp2 i (by omega), rfl⟩
      · have hj1 := m1_pos c_7
        refine V_aload_n C 0 dX5_append_10 rfl rfl ?_
        refine V_get (v := .int (nI tt)) C 0 rfl rfl in_X5 1 (by decide) fl_X5_23 rfl rfl dX5_append_11 ?_
        refine V_if_lt (tgt := 55) C dX5_append_14 (by decide) (fun h => absurd h (nI_pos (by omega))) (fun _ => ?_)
        refine V_aload_n C 0 dX5_append_17 rfl rfl ?_
        refine V_get (v := .int (nI tt)) C 0 rfl rfl in_X5 1 (by decide) fl_X5_23 rfl rfl dX5_append_18 ?_
        refine V_aload_n C 0 dX5_append_21 rfl rfl ?_
        refine V_get (v := .ref p1) C 0 rfl rfl in_X5 0 (by decide) fl_X5_9 rfl rfl dX5_append_22 ?_
        refine V_alenC (v := 80) C 1 rfl rfl dX5_append_25 ?_
        refine V_icmp_ge (tgt := 55) C dX5_append_26 (by decide) (fun h => absurd h (nI_ge (a := tt) (b := 80) (by omega) (by omega))) (fun _ => ?_)
        refine V_aload_n C 0 dX5_append_29 rfl rfl ?_
        refine V_get (v := .ref p1) C 0 rfl rfl in_X5 0 (by decide) fl_X5_9 rfl rfl dX5_append_30 ?_
        refine V_aload_n C 0 dX5_append_33 rfl rfl ?_
        refine V_get (v := .int (nI tt)) C 0 rfl rfl in_X5 1 (by decide) fl_X5_23 rfl rfl dX5_append_34 ?_
        refine V_lload_n C 1 dX5_append_37 rfl rfl ?_
        refine V_iload C 3 dX5_append_38 rfl ?_
        refine V_ev (show (nI jj - 1 : Int32) = nI (jj - 1) from pk_sub (b := 1) hj1) ?_
        refine V_callSi (na := 2) (As := [.long (lN u), .int (nI (jj - 1))]) (rest := [.int (nI tt), .ref p1]) (wr := [(p0, .inr (5, [.ref p1, .int (nI tt)])), (p1, .inl (gC g, 80, .inl pdx))]) C (c_X5_codeAt g u (jj - 1) (show u < 2 ^ 64 from by first | assumption | omega | exact ix_nI (by omega) (by omega) | decide) (show (jj - 1) < 8 from by first | assumption | omega | exact ix_nI (by omega) (by omega) | decide)) ⟨⟨ini_X5, co_X5_codeAt, ⟨by decide, by decide, by decide +kernel⟩, by decide⟩, ml_X5_13, sm_X5_codeAt⟩ [] [0, 1] rfl rfl rfl rfl (by decide) rfl rfl (Nat.le_of_ble_eq_true rfl) (by omega) (by omega) dX5_append_40 (fun r_1 w_ hw_2 => ?_)
        obtain ⟨rfl, rfl⟩ := hw_2
        refine V_to (ws2 := [(p0, .inr (5, [.ref p1, .int (nI tt)])), (p1, .inl (gC g, 80, .inl pdx))]) ?_ rfl
        refine V_i2c C dX5_append_43 ?_
        refine V_ev (show ((Int32.toUInt32 (nI (dg u (jj - 1))) % 65536).toInt32 : Int32) = nI (dg u (jj - 1)) from i2c_c (Nat.lt_trans dg_lt (by omega))) ?_
        refine V_cast (ws2 := [(p0, .inr (5, [.ref p1, .int (nI tt)])), (p1, .inl (gC g, 80, .inl (upd pdx tt (vp_nar .char (nI (dg u (jj - 1)))))))]) C 1 rfl (ix_nI (show tt < 80 by omega) (by omega)) dX5_append_44 rfl ?_
        refine V_to (ws2 := [(p0, .inr (5, [.ref p1, .int (nI tt)])), (p1, .inl (gC g, 80, .inl (upd pdx tt (nI (dg u (jj - 1))))))]) ?_ (by rw [nar_c (Nat.lt_trans dg_lt (by omega))])
        refine V_aload_n C 0 dX5_append_45 rfl rfl ?_
        refine V_dup C dX5_append_46 rfl ?_
        refine V_get (v := .int (nI tt)) C 0 rfl rfl in_X5 1 (by decide) fl_X5_23 rfl rfl dX5_append_47 ?_
        refine V_iconst (v := 1) C dX5_append_50 (by decide) ?_
        refine V_iadd C dX5_append_51 ?_
        refine V_ev (show ((nI tt) + 1 : Int32) = nI (tt + 1) from nI_add tt 1) ?_
        refine V_put (ty := .int) (ws2 := [(p0, .inr (5, [.ref p1, .int (nI (tt + 1))])), (p1, .inl (gC g, 80, .inl (upd pdx tt (nI (dg u (jj - 1))))))]) C 0 rfl rfl in_X5 tyX5 tyX5_ok nmX5 1 (by decide) fl_X5_23 rfl rfl (by decide +kernel) rfl rfl (Nat.le_of_ble_eq_true rfl) dX5_append_52 rfl ?_
        refine V_iinc (v := nI (jj - 1) - 1) (L2 := [(4, .int (nI (jj - 1) - 1)), (0, .ref p0), (1, .long (lN u)), (3, .int (nI n))]) C 3 dX5_append_55 rfl (m1_iinc hj1) (by decide) rfl ?_
        refine V_goto (tgt := 5) C dX5_append_58 (by decide) ?_
        refine V_locs (L2 := [(0, .ref p0), (1, .long (lN u)), (3, .int (nI n)), (4, .int (nI (jj - 1) - 1))]) [1, 2, 3, 0] rfl ?_
        exact ih_5 (jj - 1) (tt + 1) (upd pdx tt (nI (dg u (jj - 1)))) (show (jj - 1) ≤ n from by first | assumption | omega | rfl) (show (tt + 1) = ln + (n - (jj - 1)) from by first | assumption | omega | rfl) (AP_1 hp1 (by omega)) (AP_2 hj1 hjj htt hp2) (by omega)
  refine V_locs (L2 := [(0, .ref p0), (1, .long (lN u)), (3, .int (nI n)), (4, .int ((nI n) - 1))]) [1, 2, 3, 0] rfl ?_
  exact loop_5 (n + 1) n ln pc (show n ≤ n from by first | assumption | omega | rfl) (show ln = ln + (n - n) from by first | assumption | omega | rfl) (fun i _ => rfl) (fun i hi9 => absurd hi9 (by omega)) (by omega)
set_option maxRecDepth 100000 in
set_option maxHeartbeats 4000000 in
theorem c_X5_signAt (g : Gd) (p0 : Nat) (p1 : Nat) (ln : Nat) (pc : Nat → Int32) (i : Nat) (k : Nat) (hi : i < 80) (hc : pc i = nI k) (hk : k ≤ 126) : Ki g yX5_signAt cX5_signAt 2 (some .char) 0 0 0 [.ref p0, .int (nI i)] [(p0, .inr (5, [.ref p1, .int (nI ln)])), (p1, .inl (gC g, 80, .inl pc))] (fun (r : Int32) (w : va_W) => r = nI k ∧ w = [(p0, .inr (5, [.ref p1, .int (nI ln)])), (p1, .inl (gC g, 80, .inl pc))]) := by
  refine Kz.of (by decide) (Nat.le_of_ble_eq_true rfl) (fun X C hI hret => ?_)
  show V g X 0 0 [(p0, .inr (5, [.ref p1, .int (nI ln)])), (p1, .inl (gC g, 80, .inl pc))] 0 [(0, .ref p0), (1, .int (nI i))] []
  refine V_iload_n C 1 dX5_signAt_0 rfl rfl ?_
  refine V_if_lt (tgt := 22) C dX5_signAt_1 (by decide) (fun h => absurd h (nI_pos (by omega))) (fun _ => ?_)
  refine V_iload_n C 1 dX5_signAt_4 rfl rfl ?_
  refine V_aload_n C 0 dX5_signAt_5 rfl rfl ?_
  refine V_get (v := .ref p1) C 0 rfl rfl in_X5 0 (by decide) fl_X5_9 rfl rfl dX5_signAt_6 ?_
  refine V_alenC (v := 80) C 1 rfl rfl dX5_signAt_9 ?_
  refine V_icmp_ge (tgt := 22) C dX5_signAt_10 (by decide) (fun h => absurd h (nI_ge (a := i) (b := 80) (by omega) (by omega))) (fun _ => ?_)
  refine V_aload_n C 0 dX5_signAt_13 rfl rfl ?_
  refine V_get (v := .ref p1) C 0 rfl rfl in_X5 0 (by decide) fl_X5_9 rfl rfl dX5_signAt_14 ?_
  refine V_iload_n C 1 dX5_signAt_17 rfl rfl ?_
  refine V_cald C 1 rfl (ix_nI (show i < 80 by omega) (by omega)) dX5_signAt_18 ?_
  refine V_ev (show (pc i : Int32) = nI k from hc) ?_
  refine V_goto (tgt := 23) C dX5_signAt_19 (by decide) ?_
  refine hret _ _ _ _ dX5_signAt_23 ((pk_charN (by omega)).1) ?_
  exact ⟨rfl, rfl⟩
set_option maxRecDepth 100000 in
set_option maxHeartbeats 4000000 in
theorem c_X4_start (g : Gd) (o0 : Nat) (o1 : Int32) (o2 : Int32) (o3 : Int32) (o4 : Int32)  : Kv g yX4_start cX4_start 1 none 0 0 0 [.ref o0] [(o0, .inr (4, [.int o1, .int o2, .int o3, .int o4]))] (fun (w : va_W) => w = [(o0, .inr (4, [.int o1, .int o2, .int (-1), .int 0]))]) := by
  refine Kv.of (by decide) (Nat.le_of_ble_eq_true rfl) (fun X C hI hret => ?_)
  show V g X 0 0 [(o0, .inr (4, [.int o1, .int o2, .int o3, .int o4]))] 0 [(0, .ref o0)] []
  refine V_aload_n C 0 dX4_start_0 rfl rfl ?_
  refine V_iconst (v := 0) C dX4_start_1 (by decide) ?_
  refine V_put (ty := .int) (ws2 := [(o0, .inr (4, [.int o1, .int o2, .int o3, .int 0]))]) C 0 rfl rfl in_X4 tyX4 tyX4_ok nmX4 3 (by decide) fl_X4_11 rfl rfl (by decide +kernel) rfl rfl (Nat.le_of_ble_eq_true rfl) dX4_start_2 rfl ?_
  refine V_aload_n C 0 dX4_start_5 rfl rfl ?_
  refine V_iconst (v := (-1)) C dX4_start_6 (by decide) ?_
  refine V_put (ty := .int) (ws2 := [(o0, .inr (4, [.int o1, .int o2, .int (-1), .int 0]))]) C 0 rfl rfl in_X4 tyX4 tyX4_ok nmX4 2 (by decide) fl_X4_15 rfl rfl (by decide +kernel) rfl rfl (Nat.le_of_ble_eq_true rfl) dX4_start_7 rfl ?_
  refine hret _ _ _ dX4_start_10 ?_
  exact rfl
set_option maxRecDepth 100000 in
set_option maxHeartbeats 4000000 in
theorem c_X4_mayEnd (g : Gd) (o0 : Nat) (o1 : Int32) (o2 : Int32) (o3 : Int32) (o4 : Int32)  : Ki g yX4_mayEnd cX4_mayEnd 1 (some .boolean) 0 0 0 [.ref o0] [(o0, .inr (4, [.int o1, .int o2, .int o3, .int o4]))] (fun (r : Int32) (w : va_W) => (mayE (o1, o2, o3, o4) ∧ r = 1 ∧ w = [(o0, .inr (4, [.int o1, .int o2, .int o3, .int o4]))]) ∨ (¬ mayE (o1, o2, o3, o4) ∧ r = 0 ∧ w = [(o0, .inr (4, [.int o1, .int o2, .int o3, .int o4]))])) := by
  refine Kz.of (by decide) (Nat.le_of_ble_eq_true rfl) (fun X C hI hret => ?_)
  show V g X 0 0 [(o0, .inr (4, [.int o1, .int o2, .int o3, .int o4]))] 0 [(0, .ref o0)] []
  refine V_aload_n C 0 dX4_mayEnd_0 rfl rfl ?_
  refine V_get (v := .int o4) C 0 rfl rfl in_X4 3 (by decide) fl_X4_11 rfl rfl dX4_mayEnd_1 ?_
  refine V_iconst (v := 3) C dX4_mayEnd_4 (by decide) ?_
  refine V_icmp_eq (tgt := 24) C dX4_mayEnd_5 (by decide) (fun c_5 => ?_) (fun c_5 => ?_)
  · refine V_iconst (v := 1) C dX4_mayEnd_24 (by decide) ?_
    refine V_goto (tgt := 29) C dX4_mayEnd_25 (by decide) ?_
    refine hret _ _ _ _ dX4_mayEnd_29 (by first | rfl | (split <;> rfl) | decide) ?_
    exact Or.inl ⟨Or.inl c_5, rfl, rfl⟩
  · refine V_aload_n C 0 dX4_mayEnd_8 rfl rfl ?_
    refine V_get (v := .int o4) C 0 rfl rfl in_X4 3 (by decide) fl_X4_11 rfl rfl dX4_mayEnd_9 ?_
    refine V_iconst (v := 2) C dX4_mayEnd_12 (by decide) ?_
    refine V_icmp_ne (tgt := 28) C dX4_mayEnd_13 (by decide) (fun c_13 => ?_) (fun c_13 => ?_)
    · refine V_iconst (v := 0) C dX4_mayEnd_28 (by decide) ?_
      refine hret _ _ _ _ dX4_mayEnd_29 (by first | rfl | (split <;> rfl) | decide) ?_
      exact Or.inr ⟨fun h9 => h9.elim c_5 (fun h9 => c_13 h9.1), rfl, rfl⟩
    · refine V_aload_n C 0 dX4_mayEnd_16 rfl rfl ?_
      refine V_get (v := .int o3) C 0 rfl rfl in_X4 2 (by decide) fl_X4_15 rfl rfl dX4_mayEnd_17 ?_
      refine V_iconst (v := (-1)) C dX4_mayEnd_20 (by decide) ?_
      refine V_icmp_eq (tgt := 28) C dX4_mayEnd_21 (by decide) (fun c_21 => ?_) (fun c_21 => ?_)
      · refine V_iconst (v := 0) C dX4_mayEnd_28 (by decide) ?_
        refine hret _ _ _ _ dX4_mayEnd_29 (by first | rfl | (split <;> rfl) | decide) ?_
        exact Or.inr ⟨fun h9 => h9.elim c_5 (fun h9 => h9.2 c_21), rfl, rfl⟩
      · refine V_iconst (v := 1) C dX4_mayEnd_24 (by decide) ?_
        refine V_goto (tgt := 29) C dX4_mayEnd_25 (by decide) ?_
        refine hret _ _ _ _ dX4_mayEnd_29 (by first | rfl | (split <;> rfl) | decide) ?_
        exact Or.inl ⟨Or.inr ⟨c_13, c_21⟩, rfl, rfl⟩
set_option maxRecDepth 100000 in
set_option maxHeartbeats 4000000 in
theorem c_X4_takeDigit (g : Gd) (o0 : Nat) (o1 : Int32) (o2 : Int32) (o3 : Int32) (o4 : Int32) (k : Nat) (hk : k ≤ 9) (h04 : ¬ o4 = 0) : Ki g yX4_takeDigit cX4_takeDigit 3 (some .boolean) 0 0 0 [.ref o0, .int (nI k)] [(o0, .inr (4, [.int o1, .int o2, .int o3, .int o4]))] (fun (r : Int32) (w : va_W) => (takeA (o1, o2, o3, o4) (nI (k + 48)) = none ∧ r = 0 ∧ w = [(o0, .inr (4, [.int o1, .int o2, .int o3, .int o4]))]) ∨ (∃ (n2 : Int32), takeA (o1, o2, o3, o4) (nI (k + 48)) = some (o1, o2, n2, o4) ∧ r = 1 ∧ w = [(o0, .inr (4, [.int o1, .int o2, .int n2, .int o4]))])) := by
  refine Kz.of (by decide) (Nat.le_of_ble_eq_true rfl) (fun X C hI hret => ?_)
  show V g X 0 0 [(o0, .inr (4, [.int o1, .int o2, .int o3, .int o4]))] 0 [(0, .ref o0), (1, .int (nI k))] []
  refine V_aload_n C 0 dX4_takeDigit_0 rfl rfl ?_
  refine V_get (v := .int o4) C 0 rfl rfl in_X4 3 (by decide) fl_X4_11 rfl rfl dX4_takeDigit_1 ?_
  refine V_iconst (v := 3) C dX4_takeDigit_4 (by decide) ?_
  refine V_icmp_eq (tgt := 15) C dX4_takeDigit_5 (by decide) (fun c_5 => ?_) (fun c_5 => ?_)
  · refine V_iconst (v := 0) C dX4_takeDigit_15 (by decide) ?_
    refine hret _ _ _ _ dX4_takeDigit_16 (by first | rfl | (split <;> rfl) | decide) ?_
    exact Or.inl ⟨tk_d0 h04 hk (Or.inl c_5), rfl, rfl⟩
  · refine V_aload_n C 0 dX4_takeDigit_8 rfl rfl ?_
    refine V_get (v := .int o3) C 0 rfl rfl in_X4 2 (by decide) fl_X4_15 rfl rfl dX4_takeDigit_9 ?_
    refine V_if_ne (tgt := 17) C dX4_takeDigit_12 (by decide) (fun c_12 => ?_) (fun c_12 => ?_)
    · refine V_aload_n C 0 dX4_takeDigit_17 rfl rfl ?_
      refine V_get (v := .int o3) C 0 rfl rfl in_X4 2 (by decide) fl_X4_15 rfl rfl dX4_takeDigit_18 ?_
      refine V_iconst (v := (-1)) C dX4_takeDigit_21 (by decide) ?_
      refine V_icmp_ne (tgt := 29) C dX4_takeDigit_22 (by decide) (fun c_22 => ?_) (fun c_22 => ?_)
      · refine V_aload_n C 0 dX4_takeDigit_29 rfl rfl ?_
        refine V_get (v := .int o3) C 0 rfl rfl in_X4 2 (by decide) fl_X4_15 rfl rfl dX4_takeDigit_30 ?_
        refine V_bipush (v := 10) C dX4_takeDigit_33 (by decide) ?_
        refine V_imul C dX4_takeDigit_35 ?_
        refine V_iload_n C 1 dX4_takeDigit_36 rfl rfl ?_
        refine V_iadd C dX4_takeDigit_37 ?_
        refine V_istore_n (L2 := [(2, .int ((o3 * 10) + (nI k))), (0, .ref o0), (1, .int (nI k))]) C dX4_takeDigit_38 rfl (by decide) rfl ?_
        refine V_iload_n C 0 dX4_takeDigit_39 rfl rfl ?_
        refine V_sipush (v := 9999) C dX4_takeDigit_40 (by decide) ?_
        refine V_icmp_le (tgt := 48) C dX4_takeDigit_43 (by decide) (fun c_43 => ?_) (fun c_43 => ?_)
        · refine V_aload_n C 1 dX4_takeDigit_48 rfl rfl ?_
          refine V_iload_n C 0 dX4_takeDigit_49 rfl rfl ?_
          refine V_put (ty := .int) (ws2 := [(o0, .inr (4, [.int o1, .int o2, .int ((o3 * 10) + (nI k)), .int o4]))]) C 0 rfl rfl in_X4 tyX4 tyX4_ok nmX4 2 (by decide) fl_X4_15 rfl rfl (by decide +kernel) rfl rfl (Nat.le_of_ble_eq_true rfl) dX4_takeDigit_50 rfl ?_
          refine V_iconst (v := 1) C dX4_takeDigit_53 (by decide) ?_
          refine hret _ _ _ _ dX4_takeDigit_54 (by first | rfl | (split <;> rfl) | decide) ?_
          exact Or.inr ⟨_, (tk_d1 h04 hk (fun h9 => h9.elim c_5 c_12)).trans (by rw [if_neg c_22]; exact if_neg (Int32.not_lt.mpr c_43)), rfl, rfl⟩
        · refine V_iconst (v := 0) C dX4_takeDigit_46 (by decide) ?_
          refine hret _ _ _ _ dX4_takeDigit_47 (by first | rfl | (split <;> rfl) | decide) ?_
          exact Or.inl ⟨(tk_d1 h04 hk (fun h9 => h9.elim c_5 c_12)).trans (by rw [if_neg c_22]; exact if_pos (Int32.not_le.mp c_43)), rfl, rfl⟩
      · refine V_iload_n C 1 dX4_takeDigit_25 rfl rfl ?_
        refine V_goto (tgt := 38) C dX4_takeDigit_26 (by decide) ?_
        refine V_istore_n (L2 := [(2, .int (nI k)), (0, .ref o0), (1, .int (nI k))]) C dX4_takeDigit_38 rfl (by decide) rfl ?_
        refine V_iload_n C 0 dX4_takeDigit_39 rfl rfl ?_
        refine V_sipush (v := 9999) C dX4_takeDigit_40 (by decide) ?_
        refine V_icmp_le (tgt := 48) C dX4_takeDigit_43 (by decide) (fun c_43 => ?_) (fun c_43 => ?_)
        · refine V_aload_n C 1 dX4_takeDigit_48 rfl rfl ?_
          refine V_iload_n C 0 dX4_takeDigit_49 rfl rfl ?_
          refine V_put (ty := .int) (ws2 := [(o0, .inr (4, [.int o1, .int o2, .int (nI k), .int o4]))]) C 0 rfl rfl in_X4 tyX4 tyX4_ok nmX4 2 (by decide) fl_X4_15 rfl rfl (by decide +kernel) rfl rfl (Nat.le_of_ble_eq_true rfl) dX4_takeDigit_50 rfl ?_
          refine V_iconst (v := 1) C dX4_takeDigit_53 (by decide) ?_
          refine hret _ _ _ _ dX4_takeDigit_54 (by first | rfl | (split <;> rfl) | decide) ?_
          exact Or.inr ⟨_, (tk_d1 h04 hk (fun h9 => h9.elim c_5 c_12)).trans (by rw [if_pos c_22]; exact if_neg (Int32.not_lt.mpr c_43)), rfl, rfl⟩
        · refine V_iconst (v := 0) C dX4_takeDigit_46 (by decide) ?_
          refine hret _ _ _ _ dX4_takeDigit_47 (by first | rfl | (split <;> rfl) | decide) ?_
          exact Or.inl ⟨(tk_d1 h04 hk (fun h9 => h9.elim c_5 c_12)).trans (by rw [if_pos c_22]; exact if_pos (Int32.not_le.mp c_43)), rfl, rfl⟩
    · refine V_iconst (v := 0) C dX4_takeDigit_15 (by decide) ?_
      refine hret _ _ _ _ dX4_takeDigit_16 (by first | rfl | (split <;> rfl) | decide) ?_
      exact Or.inl ⟨tk_d0 h04 hk (Or.inr c_12), rfl, rfl⟩
set_option maxRecDepth 100000 in
set_option maxHeartbeats 4000000 in
theorem c_X4_takeLetter (g : Gd) (o0 : Nat) (o1 : Int32) (o2 : Int32) (o3 : Int32) (o4 : Int32) (k : Nat) (hk : k ≤ 126) : Ki g yX4_takeLetter cX4_takeLetter 2 (some .boolean) 4 0 0 [.ref o0, .int (nI k)] [(o0, .inr (4, [.int o1, .int o2, .int o3, .int o4]))] (fun (r : Int32) (w : va_W) => (¬ isL (nI k) ∧ r = 0 ∧ w = [(o0, .inr (4, [.int o1, .int o2, .int o3, .int o4]))]) ∨ (∃ (p2 : Int32), isL (nI k) ∧ p2 = (if nI k = 100 then 1 else if nI k = 119 then 2 else 3) ∧ r = 1 ∧ w = [(o0, .inr (4, [.int (nI k), .int o2, .int (-1), .int p2]))])) := by
  refine Kz.of (by decide) (Nat.le_of_ble_eq_true rfl) (fun X C hI hret => ?_)
  show V g X 0 0 [(o0, .inr (4, [.int o1, .int o2, .int o3, .int o4]))] 0 [(0, .ref o0), (1, .int (nI k))] []
  refine V_sldc C dX4_takeLetter_0 ?_
  refine V_iload_n C 1 dX4_takeLetter_2 rfl rfl ?_
  refine V_callTi  (na := 1) (As := [.int (nI k)]) (rest := []) (wr := [(o0, .inr (4, [.int o1, .int o2, .int o3, .int o4]))]) C (c_J0_indexOf_0f7a4 g k (show k ≤ 126 from by first | assumption | omega | exact ix_nI (by omega) (by omega) | decide)) ⟨⟨ini_J0, co_J0_indexOf_0f7a4, ⟨by decide, by decide, by decide +kernel⟩, by decide⟩, ml_X4_50, im_J0_indexOf_0f7a4, se_J0_indexOf_0f7a4⟩ [] [0] rfl rfl rfl rfl (by decide) rfl rfl rfl (Nat.le_of_ble_eq_true rfl) (by omega) (by omega) dX4_takeLetter_3 (fun r_1 w_ hw_2 => ?_)
  rcases hw_2 with ⟨v9_3, hf3_0, hf3_1, hrr, rfl⟩ | ⟨hf3_0, rfl, rfl⟩
  · subst r_1
    refine V_to (ws2 := [(o0, .inr (4, [.int o1, .int o2, .int o3, .int o4]))]) ?_ rfl
    refine V_if_ge (tgt := 11) C dX4_takeLetter_6 (by decide) (fun _ => ?_) (fun h => absurd (Int32.not_lt.mp hf3_1) h)
    refine V_aload_n C 0 dX4_takeLetter_11 rfl rfl ?_
    refine V_iload_n C 1 dX4_takeLetter_12 rfl rfl ?_
    refine V_put (ty := .char) (ws2 := [(o0, .inr (4, [.int (nI k), .int o2, .int o3, .int o4]))]) C 0 rfl rfl in_X4 tyX4 tyX4_ok nmX4 0 (by decide) fl_X4_56 rfl rfl (by decide +kernel) (pk_charN (by omega)).1 (pk_charN (by omega)).2 (Nat.le_of_ble_eq_true rfl) dX4_takeLetter_13 rfl ?_
    refine V_aload_n C 0 dX4_takeLetter_16 rfl rfl ?_
    refine V_iconst (v := (-1)) C dX4_takeLetter_17 (by decide) ?_
    refine V_put (ty := .int) (ws2 := [(o0, .inr (4, [.int (nI k), .int o2, .int (-1), .int o4]))]) C 0 rfl rfl in_X4 tyX4 tyX4_ok nmX4 2 (by decide) fl_X4_15 rfl rfl (by decide +kernel) rfl rfl (Nat.le_of_ble_eq_true rfl) dX4_takeLetter_18 rfl ?_
    refine V_aload_n C 0 dX4_takeLetter_21 rfl rfl ?_
    refine V_iload_n C 1 dX4_takeLetter_22 rfl rfl ?_
    refine V_bipush (v := 100) C dX4_takeLetter_23 (by decide) ?_
    refine V_icmp_ne (tgt := 32) C dX4_takeLetter_25 (by decide) (fun c_25 => ?_) (fun c_25 => ?_)
    · refine V_iload_n C 1 dX4_takeLetter_32 rfl rfl ?_
      refine V_bipush (v := 119) C dX4_takeLetter_33 (by decide) ?_
      refine V_icmp_ne (tgt := 42) C dX4_takeLetter_35 (by decide) (fun c_35 => ?_) (fun c_35 => ?_)
      · refine V_iconst (v := 3) C dX4_takeLetter_42 (by decide) ?_
        refine V_put (ty := .int) (ws2 := [(o0, .inr (4, [.int (nI k), .int o2, .int (-1), .int 3]))]) C 0 rfl rfl in_X4 tyX4 tyX4_ok nmX4 3 (by decide) fl_X4_11 rfl rfl (by decide +kernel) rfl rfl (Nat.le_of_ble_eq_true rfl) dX4_takeLetter_43 rfl ?_
        refine V_iconst (v := 1) C dX4_takeLetter_46 (by decide) ?_
        refine hret _ _ _ _ dX4_takeLetter_47 (by first | rfl | (split <;> rfl) | decide) ?_
        exact Or.inr ⟨3, hf3_0, by rw [if_neg c_25, if_neg c_35], rfl, rfl⟩
      · refine V_iconst (v := 2) C dX4_takeLetter_38 (by decide) ?_
        refine V_goto (tgt := 43) C dX4_takeLetter_39 (by decide) ?_
        refine V_put (ty := .int) (ws2 := [(o0, .inr (4, [.int (nI k), .int o2, .int (-1), .int 2]))]) C 0 rfl rfl in_X4 tyX4 tyX4_ok nmX4 3 (by decide) fl_X4_11 rfl rfl (by decide +kernel) rfl rfl (Nat.le_of_ble_eq_true rfl) dX4_takeLetter_43 rfl ?_
        refine V_iconst (v := 1) C dX4_takeLetter_46 (by decide) ?_
        refine hret _ _ _ _ dX4_takeLetter_47 (by first | rfl | (split <;> rfl) | decide) ?_
        exact Or.inr ⟨2, hf3_0, by rw [if_neg c_25, if_pos c_35], rfl, rfl⟩
    · refine V_iconst (v := 1) C dX4_takeLetter_28 (by decide) ?_
      refine V_goto (tgt := 43) C dX4_takeLetter_29 (by decide) ?_
      refine V_put (ty := .int) (ws2 := [(o0, .inr (4, [.int (nI k), .int o2, .int (-1), .int 1]))]) C 0 rfl rfl in_X4 tyX4 tyX4_ok nmX4 3 (by decide) fl_X4_11 rfl rfl (by decide +kernel) rfl rfl (Nat.le_of_ble_eq_true rfl) dX4_takeLetter_43 rfl ?_
      refine V_iconst (v := 1) C dX4_takeLetter_46 (by decide) ?_
      refine hret _ _ _ _ dX4_takeLetter_47 (by first | rfl | (split <;> rfl) | decide) ?_
      exact Or.inr ⟨1, hf3_0, by rw [if_pos c_25], rfl, rfl⟩
  · refine V_to (ws2 := [(o0, .inr (4, [.int o1, .int o2, .int o3, .int o4]))]) ?_ rfl
    refine V_if_ge (tgt := 11) C dX4_takeLetter_6 (by decide) (fun h => absurd h (by decide)) (fun _ => ?_)
    refine V_iconst (v := 0) C dX4_takeLetter_9 (by decide) ?_
    refine hret _ _ _ _ dX4_takeLetter_10 (by first | rfl | (split <;> rfl) | decide) ?_
    exact Or.inl ⟨hf3_0, rfl, rfl⟩
set_option maxRecDepth 100000 in
set_option maxHeartbeats 4000000 in
theorem c_X4_take (g : Gd) (o0 : Nat) (o1 : Int32) (o2 : Int32) (o3 : Int32) (o4 : Int32) (k : Nat) (hk33 : 33 ≤ k) (hk : k ≤ 126) : Ki g yX4_take cX4_take 2 (some .boolean) 5 0 0 [.ref o0, .int (nI k)] [(o0, .inr (4, [.int o1, .int o2, .int o3, .int o4]))] (fun (r : Int32) (w : va_W) => (takeA (o1, o2, o3, o4) (nI k) = none ∧ r = 0 ∧ w = [(o0, .inr (4, [.int o1, .int o2, .int o3, .int o4]))]) ∨ (∃ (l2 : Int32) (f2 : Int32) (n2 : Int32) (q2 : Int32), takeA (o1, o2, o3, o4) (nI k) = some (l2, f2, n2, q2) ∧ r = 1 ∧ w = [(o0, .inr (4, [.int l2, .int f2, .int n2, .int q2]))])) := by
  refine Kz.of (by decide) (Nat.le_of_ble_eq_true rfl) (fun X C hI hret => ?_)
  show V g X 0 0 [(o0, .inr (4, [.int o1, .int o2, .int o3, .int o4]))] 0 [(0, .ref o0), (1, .int (nI k))] []
  refine V_aload_n C 0 dX4_take_0 rfl rfl ?_
  refine V_get (v := .int o4) C 0 rfl rfl in_X4 3 (by decide) fl_X4_11 rfl rfl dX4_take_1 ?_
  refine V_if_ne (tgt := 13) C dX4_take_4 (by decide) (fun c_4 => ?_) (fun c_4 => ?_)
  · refine V_iload_n C 1 dX4_take_13 rfl rfl ?_
    refine V_bipush (v := 48) C dX4_take_14 (by decide) ?_
    refine V_icmp_lt (tgt := 34) C dX4_take_16 (by decide) (fun c_16 => ?_) (fun c_16 => ?_)
    · refine V_iload_n C 1 dX4_take_34 rfl rfl ?_
      refine V_bipush (v := 47) C dX4_take_35 (by decide) ?_
      refine V_icmp_ne (tgt := 76) C dX4_take_37 (by decide) (fun c_37 => ?_) (fun c_37 => ?_)
      · refine V_iload_n C 1 dX4_take_76 rfl rfl ?_
        refine V_bipush (v := 59) C dX4_take_77 (by decide) ?_
        refine V_icmp_ne (tgt := 96) C dX4_take_79 (by decide) (fun c_79 => ?_) (fun c_79 => ?_)
        · refine V_iconst (v := 0) C dX4_take_96 (by decide) ?_
          refine hret _ _ _ _ dX4_take_97 (by first | rfl | (split <;> rfl) | decide) ?_
          exact Or.inl ⟨tk_N c_4 (fun h9 => h9.1 c_16) (fun h9 => c_37 h9.1) (fun h9 => c_79 h9.1), rfl, rfl⟩
        · refine V_aload_n C 0 dX4_take_82 rfl rfl ?_
          refine V_callVi (q0 := 0) (na := 0) (As := []) (rest := []) (wr := []) C (c_X4_mayEnd g o0 o1 o2 o3 o4 ) ⟨⟨ini_X4, co_X4_mayEnd, ⟨by decide, by decide, by decide +kernel⟩, by decide⟩, ml_X4_34, im_X4_mayEnd, se_X4_mayEnd⟩ [0] [] rfl rfl rfl rfl (by decide) rfl rfl rfl rfl (Nat.le_of_ble_eq_true rfl) (by omega) (by omega) dX4_take_83 (fun r_1 w_ hw_2 => ?_)
          rcases hw_2 with ⟨hf2_0, rfl, rfl⟩ | ⟨hf2_0, rfl, rfl⟩
          · refine V_to (ws2 := [(o0, .inr (4, [.int o1, .int o2, .int o3, .int o4]))]) ?_ rfl
            refine V_if_eq (tgt := 96) C dX4_take_86 (by decide) (fun h => absurd h (by decide)) (fun _ => ?_)
            refine V_aload_n C 0 dX4_take_89 rfl rfl ?_
            refine V_iconst (v := 0) C dX4_take_90 (by decide) ?_
            refine V_put (ty := .int) (ws2 := [(o0, .inr (4, [.int o1, .int o2, .int o3, .int 0]))]) C 0 rfl rfl in_X4 tyX4 tyX4_ok nmX4 3 (by decide) fl_X4_11 rfl rfl (by decide +kernel) rfl rfl (Nat.le_of_ble_eq_true rfl) dX4_take_91 rfl ?_
            refine V_iconst (v := 1) C dX4_take_94 (by decide) ?_
            refine hret _ _ _ _ dX4_take_95 (by first | rfl | (split <;> rfl) | decide) ?_
            exact Or.inr ⟨o1, o2, o3, 0, tk_E c_4 (fun h9 => h9.1 c_16) (fun h9 => c_37 h9.1) c_79 hf2_0, rfl, rfl⟩
          · refine V_to (ws2 := [(o0, .inr (4, [.int o1, .int o2, .int o3, .int o4]))]) ?_ rfl
            refine V_if_eq (tgt := 96) C dX4_take_86 (by decide) (fun _ => ?_) (fun h => absurd (by decide) h)
            refine V_iconst (v := 0) C dX4_take_96 (by decide) ?_
            refine hret _ _ _ _ dX4_take_97 (by first | rfl | (split <;> rfl) | decide) ?_
            exact Or.inl ⟨tk_N c_4 (fun h9 => h9.1 c_16) (fun h9 => c_37 h9.1) (fun h9 => hf2_0 h9.2), rfl, rfl⟩
      · refine V_aload_n C 0 dX4_take_40 rfl rfl ?_
        refine V_get (v := .int o4) C 0 rfl rfl in_X4 3 (by decide) fl_X4_11 rfl rfl dX4_take_41 ?_
        refine V_iconst (v := 1) C dX4_take_44 (by decide) ?_
        refine V_icmp_ne (tgt := 76) C dX4_take_45 (by decide) (fun c_45 => ?_) (fun c_45 => ?_)
        · refine V_iload_n C 1 dX4_take_76 rfl rfl ?_
          refine V_bipush (v := 59) C dX4_take_77 (by decide) ?_
          refine V_icmp_ne (tgt := 96) C dX4_take_79 (by decide) (fun c_79 => ?_) (fun c_79 => ?_)
          · refine V_iconst (v := 0) C dX4_take_96 (by decide) ?_
            refine hret _ _ _ _ dX4_take_97 (by first | rfl | (split <;> rfl) | decide) ?_
            exact Or.inl ⟨tk_N c_4 (fun h9 => h9.1 c_16) (fun h9 => c_45 h9.2.1) (fun h9 => c_79 h9.1), rfl, rfl⟩
          · refine V_aload_n C 0 dX4_take_82 rfl rfl ?_
            refine V_callVi (q0 := 0) (na := 0) (As := []) (rest := []) (wr := []) C (c_X4_mayEnd g o0 o1 o2 o3 o4 ) ⟨⟨ini_X4, co_X4_mayEnd, ⟨by decide, by decide, by decide +kernel⟩, by decide⟩, ml_X4_34, im_X4_mayEnd, se_X4_mayEnd⟩ [0] [] rfl rfl rfl rfl (by decide) rfl rfl rfl rfl (Nat.le_of_ble_eq_true rfl) (by omega) (by omega) dX4_take_83 (fun r_3 w_ hw_4 => ?_)
            rcases hw_4 with ⟨hf4_0, rfl, rfl⟩ | ⟨hf4_0, rfl, rfl⟩
            · refine V_to (ws2 := [(o0, .inr (4, [.int o1, .int o2, .int o3, .int o4]))]) ?_ rfl
              refine V_if_eq (tgt := 96) C dX4_take_86 (by decide) (fun h => absurd h (by decide)) (fun _ => ?_)
              refine V_aload_n C 0 dX4_take_89 rfl rfl ?_
              refine V_iconst (v := 0) C dX4_take_90 (by decide) ?_
              refine V_put (ty := .int) (ws2 := [(o0, .inr (4, [.int o1, .int o2, .int o3, .int 0]))]) C 0 rfl rfl in_X4 tyX4 tyX4_ok nmX4 3 (by decide) fl_X4_11 rfl rfl (by decide +kernel) rfl rfl (Nat.le_of_ble_eq_true rfl) dX4_take_91 rfl ?_
              refine V_iconst (v := 1) C dX4_take_94 (by decide) ?_
              refine hret _ _ _ _ dX4_take_95 (by first | rfl | (split <;> rfl) | decide) ?_
              exact Or.inr ⟨o1, o2, o3, 0, tk_E c_4 (fun h9 => h9.1 c_16) (fun h9 => c_45 h9.2.1) c_79 hf4_0, rfl, rfl⟩
            · refine V_to (ws2 := [(o0, .inr (4, [.int o1, .int o2, .int o3, .int o4]))]) ?_ rfl
              refine V_if_eq (tgt := 96) C dX4_take_86 (by decide) (fun _ => ?_) (fun h => absurd (by decide) h)
              refine V_iconst (v := 0) C dX4_take_96 (by decide) ?_
              refine hret _ _ _ _ dX4_take_97 (by first | rfl | (split <;> rfl) | decide) ?_
              exact Or.inl ⟨tk_N c_4 (fun h9 => h9.1 c_16) (fun h9 => c_45 h9.2.1) (fun h9 => hf4_0 h9.2), rfl, rfl⟩
        · refine V_aload_n C 0 dX4_take_48 rfl rfl ?_
          refine V_get (v := .int o3) C 0 rfl rfl in_X4 2 (by decide) fl_X4_15 rfl rfl dX4_take_49 ?_
          refine V_iconst (v := (-1)) C dX4_take_52 (by decide) ?_
          refine V_icmp_eq (tgt := 76) C dX4_take_53 (by decide) (fun c_53 => ?_) (fun c_53 => ?_)
          · refine V_iload_n C 1 dX4_take_76 rfl rfl ?_
            refine V_bipush (v := 59) C dX4_take_77 (by decide) ?_
            refine V_icmp_ne (tgt := 96) C dX4_take_79 (by decide) (fun c_79 => ?_) (fun c_79 => ?_)
            · refine V_iconst (v := 0) C dX4_take_96 (by decide) ?_
              refine hret _ _ _ _ dX4_take_97 (by first | rfl | (split <;> rfl) | decide) ?_
              exact Or.inl ⟨tk_N c_4 (fun h9 => h9.1 c_16) (fun h9 => h9.2.2 c_53) (fun h9 => c_79 h9.1), rfl, rfl⟩
            · refine V_aload_n C 0 dX4_take_82 rfl rfl ?_
              refine V_callVi (q0 := 0) (na := 0) (As := []) (rest := []) (wr := []) C (c_X4_mayEnd g o0 o1 o2 o3 o4 ) ⟨⟨ini_X4, co_X4_mayEnd, ⟨by decide, by decide, by decide +kernel⟩, by decide⟩, ml_X4_34, im_X4_mayEnd, se_X4_mayEnd⟩ [0] [] rfl rfl rfl rfl (by decide) rfl rfl rfl rfl (Nat.le_of_ble_eq_true rfl) (by omega) (by omega) dX4_take_83 (fun r_5 w_ hw_6 => ?_)
              rcases hw_6 with ⟨hf6_0, rfl, rfl⟩ | ⟨hf6_0, rfl, rfl⟩
              · refine V_to (ws2 := [(o0, .inr (4, [.int o1, .int o2, .int o3, .int o4]))]) ?_ rfl
                refine V_if_eq (tgt := 96) C dX4_take_86 (by decide) (fun h => absurd h (by decide)) (fun _ => ?_)
                refine V_aload_n C 0 dX4_take_89 rfl rfl ?_
                refine V_iconst (v := 0) C dX4_take_90 (by decide) ?_
                refine V_put (ty := .int) (ws2 := [(o0, .inr (4, [.int o1, .int o2, .int o3, .int 0]))]) C 0 rfl rfl in_X4 tyX4 tyX4_ok nmX4 3 (by decide) fl_X4_11 rfl rfl (by decide +kernel) rfl rfl (Nat.le_of_ble_eq_true rfl) dX4_take_91 rfl ?_
                refine V_iconst (v := 1) C dX4_take_94 (by decide) ?_
                refine hret _ _ _ _ dX4_take_95 (by first | rfl | (split <;> rfl) | decide) ?_
                exact Or.inr ⟨o1, o2, o3, 0, tk_E c_4 (fun h9 => h9.1 c_16) (fun h9 => h9.2.2 c_53) c_79 hf6_0, rfl, rfl⟩
              · refine V_to (ws2 := [(o0, .inr (4, [.int o1, .int o2, .int o3, .int o4]))]) ?_ rfl
                refine V_if_eq (tgt := 96) C dX4_take_86 (by decide) (fun _ => ?_) (fun h => absurd (by decide) h)
                refine V_iconst (v := 0) C dX4_take_96 (by decide) ?_
                refine hret _ _ _ _ dX4_take_97 (by first | rfl | (split <;> rfl) | decide) ?_
                exact Or.inl ⟨tk_N c_4 (fun h9 => h9.1 c_16) (fun h9 => h9.2.2 c_53) (fun h9 => hf6_0 h9.2), rfl, rfl⟩
          · refine V_aload_n C 0 dX4_take_56 rfl rfl ?_
            refine V_aload_n C 0 dX4_take_57 rfl rfl ?_
            refine V_get (v := .int o3) C 0 rfl rfl in_X4 2 (by decide) fl_X4_15 rfl rfl dX4_take_58 ?_
            refine V_put (ty := .int) (ws2 := [(o0, .inr (4, [.int o1, .int o3, .int o3, .int o4]))]) C 0 rfl rfl in_X4 tyX4 tyX4_ok nmX4 1 (by decide) fl_X4_45 rfl rfl (by decide +kernel) rfl rfl (Nat.le_of_ble_eq_true rfl) dX4_take_61 rfl ?_
            refine V_aload_n C 0 dX4_take_64 rfl rfl ?_
            refine V_iconst (v := (-1)) C dX4_take_65 (by decide) ?_
            refine V_put (ty := .int) (ws2 := [(o0, .inr (4, [.int o1, .int o3, .int (-1), .int o4]))]) C 0 rfl rfl in_X4 tyX4 tyX4_ok nmX4 2 (by decide) fl_X4_15 rfl rfl (by decide +kernel) rfl rfl (Nat.le_of_ble_eq_true rfl) dX4_take_66 rfl ?_
            refine V_aload_n C 0 dX4_take_69 rfl rfl ?_
            refine V_iconst (v := 2) C dX4_take_70 (by decide) ?_
            refine V_put (ty := .int) (ws2 := [(o0, .inr (4, [.int o1, .int o3, .int (-1), .int 2]))]) C 0 rfl rfl in_X4 tyX4 tyX4_ok nmX4 3 (by decide) fl_X4_11 rfl rfl (by decide +kernel) rfl rfl (Nat.le_of_ble_eq_true rfl) dX4_take_71 rfl ?_
            refine V_iconst (v := 1) C dX4_take_74 (by decide) ?_
            refine hret _ _ _ _ dX4_take_75 (by first | rfl | (split <;> rfl) | decide) ?_
            exact Or.inr ⟨o1, o3, (-1), 2, tk_S c_4 (fun h9 => h9.1 c_16) c_37 c_45 c_53, rfl, rfl⟩
    · have hk48 : 48 ≤ k := by
        rcases Nat.lt_or_ge k 48 with q9 | q9
        · exact absurd (nI_lt (b := 48) q9 (by omega)) c_16
        · exact q9
      refine V_iload_n C 1 dX4_take_19 rfl rfl ?_
      refine V_bipush (v := 57) C dX4_take_20 (by decide) ?_
      refine V_icmp_gt (tgt := 34) C dX4_take_22 (by decide) (fun c_22 => ?_) (fun c_22 => ?_)
      · refine V_iload_n C 1 dX4_take_34 rfl rfl ?_
        refine V_bipush (v := 47) C dX4_take_35 (by decide) ?_
        refine V_icmp_ne (tgt := 76) C dX4_take_37 (by decide) (fun c_37 => ?_) (fun c_37 => ?_)
        · refine V_iload_n C 1 dX4_take_76 rfl rfl ?_
          refine V_bipush (v := 59) C dX4_take_77 (by decide) ?_
          refine V_icmp_ne (tgt := 96) C dX4_take_79 (by decide) (fun c_79 => ?_) (fun c_79 => ?_)
          · refine V_iconst (v := 0) C dX4_take_96 (by decide) ?_
            refine hret _ _ _ _ dX4_take_97 (by first | rfl | (split <;> rfl) | decide) ?_
            exact Or.inl ⟨tk_N c_4 (fun h9 => h9.2 c_22) (fun h9 => c_37 h9.1) (fun h9 => c_79 h9.1), rfl, rfl⟩
          · refine V_aload_n C 0 dX4_take_82 rfl rfl ?_
            refine V_callVi (q0 := 0) (na := 0) (As := []) (rest := []) (wr := []) C (c_X4_mayEnd g o0 o1 o2 o3 o4 ) ⟨⟨ini_X4, co_X4_mayEnd, ⟨by decide, by decide, by decide +kernel⟩, by decide⟩, ml_X4_34, im_X4_mayEnd, se_X4_mayEnd⟩ [0] [] rfl rfl rfl rfl (by decide) rfl rfl rfl rfl (Nat.le_of_ble_eq_true rfl) (by omega) (by omega) dX4_take_83 (fun r_7 w_ hw_8 => ?_)
            rcases hw_8 with ⟨hf8_0, rfl, rfl⟩ | ⟨hf8_0, rfl, rfl⟩
            · refine V_to (ws2 := [(o0, .inr (4, [.int o1, .int o2, .int o3, .int o4]))]) ?_ rfl
              refine V_if_eq (tgt := 96) C dX4_take_86 (by decide) (fun h => absurd h (by decide)) (fun _ => ?_)
              refine V_aload_n C 0 dX4_take_89 rfl rfl ?_
              refine V_iconst (v := 0) C dX4_take_90 (by decide) ?_
              refine V_put (ty := .int) (ws2 := [(o0, .inr (4, [.int o1, .int o2, .int o3, .int 0]))]) C 0 rfl rfl in_X4 tyX4 tyX4_ok nmX4 3 (by decide) fl_X4_11 rfl rfl (by decide +kernel) rfl rfl (Nat.le_of_ble_eq_true rfl) dX4_take_91 rfl ?_
              refine V_iconst (v := 1) C dX4_take_94 (by decide) ?_
              refine hret _ _ _ _ dX4_take_95 (by first | rfl | (split <;> rfl) | decide) ?_
              exact Or.inr ⟨o1, o2, o3, 0, tk_E c_4 (fun h9 => h9.2 c_22) (fun h9 => c_37 h9.1) c_79 hf8_0, rfl, rfl⟩
            · refine V_to (ws2 := [(o0, .inr (4, [.int o1, .int o2, .int o3, .int o4]))]) ?_ rfl
              refine V_if_eq (tgt := 96) C dX4_take_86 (by decide) (fun _ => ?_) (fun h => absurd (by decide) h)
              refine V_iconst (v := 0) C dX4_take_96 (by decide) ?_
              refine hret _ _ _ _ dX4_take_97 (by first | rfl | (split <;> rfl) | decide) ?_
              exact Or.inl ⟨tk_N c_4 (fun h9 => h9.2 c_22) (fun h9 => c_37 h9.1) (fun h9 => hf8_0 h9.2), rfl, rfl⟩
        · refine V_aload_n C 0 dX4_take_40 rfl rfl ?_
          refine V_get (v := .int o4) C 0 rfl rfl in_X4 3 (by decide) fl_X4_11 rfl rfl dX4_take_41 ?_
          refine V_iconst (v := 1) C dX4_take_44 (by decide) ?_
          refine V_icmp_ne (tgt := 76) C dX4_take_45 (by decide) (fun c_45 => ?_) (fun c_45 => ?_)
          · refine V_iload_n C 1 dX4_take_76 rfl rfl ?_
            refine V_bipush (v := 59) C dX4_take_77 (by decide) ?_
            refine V_icmp_ne (tgt := 96) C dX4_take_79 (by decide) (fun c_79 => ?_) (fun c_79 => ?_)
            · refine V_iconst (v := 0) C dX4_take_96 (by decide) ?_
              refine hret _ _ _ _ dX4_take_97 (by first | rfl | (split <;> rfl) | decide) ?_
              exact Or.inl ⟨tk_N c_4 (fun h9 => h9.2 c_22) (fun h9 => c_45 h9.2.1) (fun h9 => c_79 h9.1), rfl, rfl⟩
            · refine V_aload_n C 0 dX4_take_82 rfl rfl ?_
              refine V_callVi (q0 := 0) (na := 0) (As := []) (rest := []) (wr := []) C (c_X4_mayEnd g o0 o1 o2 o3 o4 ) ⟨⟨ini_X4, co_X4_mayEnd, ⟨by decide, by decide, by decide +kernel⟩, by decide⟩, ml_X4_34, im_X4_mayEnd, se_X4_mayEnd⟩ [0] [] rfl rfl rfl rfl (by decide) rfl rfl rfl rfl (Nat.le_of_ble_eq_true rfl) (by omega) (by omega) dX4_take_83 (fun r_9 w_ hw_10 => ?_)
              rcases hw_10 with ⟨hf10_0, rfl, rfl⟩ | ⟨hf10_0, rfl, rfl⟩
              · refine V_to (ws2 := [(o0, .inr (4, [.int o1, .int o2, .int o3, .int o4]))]) ?_ rfl
                refine V_if_eq (tgt := 96) C dX4_take_86 (by decide) (fun h => absurd h (by decide)) (fun _ => ?_)
                refine V_aload_n C 0 dX4_take_89 rfl rfl ?_
                refine V_iconst (v := 0) C dX4_take_90 (by decide) ?_
                refine V_put (ty := .int) (ws2 := [(o0, .inr (4, [.int o1, .int o2, .int o3, .int 0]))]) C 0 rfl rfl in_X4 tyX4 tyX4_ok nmX4 3 (by decide) fl_X4_11 rfl rfl (by decide +kernel) rfl rfl (Nat.le_of_ble_eq_true rfl) dX4_take_91 rfl ?_
                refine V_iconst (v := 1) C dX4_take_94 (by decide) ?_
                refine hret _ _ _ _ dX4_take_95 (by first | rfl | (split <;> rfl) | decide) ?_
                exact Or.inr ⟨o1, o2, o3, 0, tk_E c_4 (fun h9 => h9.2 c_22) (fun h9 => c_45 h9.2.1) c_79 hf10_0, rfl, rfl⟩
              · refine V_to (ws2 := [(o0, .inr (4, [.int o1, .int o2, .int o3, .int o4]))]) ?_ rfl
                refine V_if_eq (tgt := 96) C dX4_take_86 (by decide) (fun _ => ?_) (fun h => absurd (by decide) h)
                refine V_iconst (v := 0) C dX4_take_96 (by decide) ?_
                refine hret _ _ _ _ dX4_take_97 (by first | rfl | (split <;> rfl) | decide) ?_
                exact Or.inl ⟨tk_N c_4 (fun h9 => h9.2 c_22) (fun h9 => c_45 h9.2.1) (fun h9 => hf10_0 h9.2), rfl, rfl⟩
          · refine V_aload_n C 0 dX4_take_48 rfl rfl ?_
            refine V_get (v := .int o3) C 0 rfl rfl in_X4 2 (by decide) fl_X4_15 rfl rfl dX4_take_49 ?_
            refine V_iconst (v := (-1)) C dX4_take_52 (by decide) ?_
            refine V_icmp_eq (tgt := 76) C dX4_take_53 (by decide) (fun c_53 => ?_) (fun c_53 => ?_)
            · refine V_iload_n C 1 dX4_take_76 rfl rfl ?_
              refine V_bipush (v := 59) C dX4_take_77 (by decide) ?_
              refine V_icmp_ne (tgt := 96) C dX4_take_79 (by decide) (fun c_79 => ?_) (fun c_79 => ?_)
              · refine V_iconst (v := 0) C dX4_take_96 (by decide) ?_
                refine hret _ _ _ _ dX4_take_97 (by first | rfl | (split <;> rfl) | decide) ?_
                exact Or.inl ⟨tk_N c_4 (fun h9 => h9.2 c_22) (fun h9 => h9.2.2 c_53) (fun h9 => c_79 h9.1), rfl, rfl⟩
              · refine V_aload_n C 0 dX4_take_82 rfl rfl ?_
                refine V_callVi (q0 := 0) (na := 0) (As := []) (rest := []) (wr := []) C (c_X4_mayEnd g o0 o1 o2 o3 o4 ) ⟨⟨ini_X4, co_X4_mayEnd, ⟨by decide, by decide, by decide +kernel⟩, by decide⟩, ml_X4_34, im_X4_mayEnd, se_X4_mayEnd⟩ [0] [] rfl rfl rfl rfl (by decide) rfl rfl rfl rfl (Nat.le_of_ble_eq_true rfl) (by omega) (by omega) dX4_take_83 (fun r_11 w_ hw_12 => ?_)
                rcases hw_12 with ⟨hf12_0, rfl, rfl⟩ | ⟨hf12_0, rfl, rfl⟩
                · refine V_to (ws2 := [(o0, .inr (4, [.int o1, .int o2, .int o3, .int o4]))]) ?_ rfl
                  refine V_if_eq (tgt := 96) C dX4_take_86 (by decide) (fun h => absurd h (by decide)) (fun _ => ?_)
                  refine V_aload_n C 0 dX4_take_89 rfl rfl ?_
                  refine V_iconst (v := 0) C dX4_take_90 (by decide) ?_
                  refine V_put (ty := .int) (ws2 := [(o0, .inr (4, [.int o1, .int o2, .int o3, .int 0]))]) C 0 rfl rfl in_X4 tyX4 tyX4_ok nmX4 3 (by decide) fl_X4_11 rfl rfl (by decide +kernel) rfl rfl (Nat.le_of_ble_eq_true rfl) dX4_take_91 rfl ?_
                  refine V_iconst (v := 1) C dX4_take_94 (by decide) ?_
                  refine hret _ _ _ _ dX4_take_95 (by first | rfl | (split <;> rfl) | decide) ?_
                  exact Or.inr ⟨o1, o2, o3, 0, tk_E c_4 (fun h9 => h9.2 c_22) (fun h9 => h9.2.2 c_53) c_79 hf12_0, rfl, rfl⟩
                · refine V_to (ws2 := [(o0, .inr (4, [.int o1, .int o2, .int o3, .int o4]))]) ?_ rfl
                  refine V_if_eq (tgt := 96) C dX4_take_86 (by decide) (fun _ => ?_) (fun h => absurd (by decide) h)
                  refine V_iconst (v := 0) C dX4_take_96 (by decide) ?_
                  refine hret _ _ _ _ dX4_take_97 (by first | rfl | (split <;> rfl) | decide) ?_
                  exact Or.inl ⟨tk_N c_4 (fun h9 => h9.2 c_22) (fun h9 => h9.2.2 c_53) (fun h9 => hf12_0 h9.2), rfl, rfl⟩
            · refine V_aload_n C 0 dX4_take_56 rfl rfl ?_
              refine V_aload_n C 0 dX4_take_57 rfl rfl ?_
              refine V_get (v := .int o3) C 0 rfl rfl in_X4 2 (by decide) fl_X4_15 rfl rfl dX4_take_58 ?_
              refine V_put (ty := .int) (ws2 := [(o0, .inr (4, [.int o1, .int o3, .int o3, .int o4]))]) C 0 rfl rfl in_X4 tyX4 tyX4_ok nmX4 1 (by decide) fl_X4_45 rfl rfl (by decide +kernel) rfl rfl (Nat.le_of_ble_eq_true rfl) dX4_take_61 rfl ?_
              refine V_aload_n C 0 dX4_take_64 rfl rfl ?_
              refine V_iconst (v := (-1)) C dX4_take_65 (by decide) ?_
              refine V_put (ty := .int) (ws2 := [(o0, .inr (4, [.int o1, .int o3, .int (-1), .int o4]))]) C 0 rfl rfl in_X4 tyX4 tyX4_ok nmX4 2 (by decide) fl_X4_15 rfl rfl (by decide +kernel) rfl rfl (Nat.le_of_ble_eq_true rfl) dX4_take_66 rfl ?_
              refine V_aload_n C 0 dX4_take_69 rfl rfl ?_
              refine V_iconst (v := 2) C dX4_take_70 (by decide) ?_
              refine V_put (ty := .int) (ws2 := [(o0, .inr (4, [.int o1, .int o3, .int (-1), .int 2]))]) C 0 rfl rfl in_X4 tyX4 tyX4_ok nmX4 3 (by decide) fl_X4_11 rfl rfl (by decide +kernel) rfl rfl (Nat.le_of_ble_eq_true rfl) dX4_take_71 rfl ?_
              refine V_iconst (v := 1) C dX4_take_74 (by decide) ?_
              refine hret _ _ _ _ dX4_take_75 (by first | rfl | (split <;> rfl) | decide) ?_
              exact Or.inr ⟨o1, o3, (-1), 2, tk_S c_4 (fun h9 => h9.2 c_22) c_37 c_45 c_53, rfl, rfl⟩
      · have hk57 : k ≤ 57 := by
          rcases Nat.lt_or_ge 57 k with q9 | q9
          · exact absurd (nI_lt (a := 57) q9 (by omega)) c_22
          · exact q9
        refine V_aload_n C 0 dX4_take_25 rfl rfl ?_
        refine V_iload_n C 1 dX4_take_26 rfl rfl ?_
        refine V_bipush (v := 48) C dX4_take_27 (by decide) ?_
        refine V_isub C dX4_take_29 ?_
        refine V_ev (show ((nI k) - 48 : Int32) = nI (k - 48) from pk_sub (b := 48) hk48) ?_
        refine V_callVi (q0 := 0) (na := 1) (As := [.int (nI (k - 48))]) (rest := []) (wr := []) C (c_X4_takeDigit g o0 o1 o2 o3 o4 (k - 48) (show (k - 48) ≤ 9 from by first | assumption | omega | exact ix_nI (by omega) (by omega) | decide) (show ¬ o4 = 0 from by first | assumption | omega | exact ix_nI (by omega) (by omega) | decide)) ⟨⟨ini_X4, co_X4_takeDigit, ⟨by decide, by decide, by decide +kernel⟩, by decide⟩, ml_X4_41, im_X4_takeDigit, se_X4_takeDigit⟩ [0] [] rfl rfl rfl rfl (by decide) rfl rfl rfl rfl (Nat.le_of_ble_eq_true rfl) (by omega) (by omega) dX4_take_30 (fun r_13 w_ hw_14 => ?_)
        rcases hw_14 with ⟨hf14_0, rfl, rfl⟩ | ⟨n2_15, hf15_0, rfl, rfl⟩
        · refine V_to (ws2 := [(o0, .inr (4, [.int o1, .int o2, .int o3, .int o4]))]) ?_ rfl
          refine hret _ _ _ _ dX4_take_33 (by first | rfl | (split <;> rfl) | decide) ?_
          exact Or.inl ⟨(by rw [show nI (k - 48 + 48) = nI k by rw [Nat.sub_add_cancel hk48]] at hf14_0; exact hf14_0), rfl, rfl⟩
        · refine V_to (ws2 := [(o0, .inr (4, [.int o1, .int o2, .int n2_15, .int o4]))]) ?_ rfl
          refine hret _ _ _ _ dX4_take_33 (by first | rfl | (split <;> rfl) | decide) ?_
          exact Or.inr ⟨o1, o2, n2_15, o4, (by rw [show nI (k - 48 + 48) = nI k by rw [Nat.sub_add_cancel hk48]] at hf15_0; exact hf15_0), rfl, rfl⟩
  · refine V_aload_n C 0 dX4_take_7 rfl rfl ?_
    refine V_iload_n C 1 dX4_take_8 rfl rfl ?_
    refine V_callVi (q0 := 0) (na := 1) (As := [.int (nI k)]) (rest := []) (wr := []) C (c_X4_takeLetter g o0 o1 o2 o3 o4 k (show k ≤ 126 from by first | assumption | omega | exact ix_nI (by omega) (by omega) | decide)) ⟨⟨ini_X4, co_X4_takeLetter, ⟨by decide, by decide, by decide +kernel⟩, by decide⟩, ml_X4_38, im_X4_takeLetter, se_X4_takeLetter⟩ [0] [] rfl rfl rfl rfl (by decide) rfl rfl rfl rfl (Nat.le_of_ble_eq_true rfl) (by omega) (by omega) dX4_take_9 (fun r_16 w_ hw_17 => ?_)
    rcases hw_17 with ⟨hf17_0, rfl, rfl⟩ | ⟨p2_18, hf18_0, hf18_1, rfl, rfl⟩
    · refine V_to (ws2 := [(o0, .inr (4, [.int o1, .int o2, .int o3, .int o4]))]) ?_ rfl
      refine hret _ _ _ _ dX4_take_12 (by first | rfl | (split <;> rfl) | decide) ?_
      exact Or.inl ⟨tk_L0 c_4 hf17_0, rfl, rfl⟩
    · refine V_to (ws2 := [(o0, .inr (4, [.int (nI k), .int o2, .int (-1), .int p2_18]))]) ?_ rfl
      refine hret _ _ _ _ dX4_take_12 (by first | rfl | (split <;> rfl) | decide) ?_
      exact Or.inr ⟨(nI k), o2, (-1), p2_18, tk_L1 c_4 hf18_0 hf18_1, rfl, rfl⟩
set_option maxRecDepth 100000 in
set_option maxHeartbeats 4000000 in
theorem c_X4_faultOf (g : Gd) (o0 : Nat) (o1 : Int32) (o2 : Int32) (o3 : Int32) (o4 : Int32) (p0 : Nat) (p1 : Nat) (ln : Nat) (pd : Nat → Int32) (hln : ln ≤ 80) (hpd : PDok pd ln) : Ki g yX4_faultOf cX4_faultOf 3 (some .int) 6 0 0 [.ref o0, .ref p0] [(o0, .inr (4, [.int o1, .int o2, .int o3, .int o4])), (p0, .inr (5, [.ref p1, .int (nI ln)])), (p1, .inl (gC g, 80, .inl pd))] (fun (r : Int32) (w : va_W) => ∃ (l2 : Int32) (f2 : Int32) (n2 : Int32) (q2 : Int32), r = flt pd ln 0 (o1, o2, -1, 0) ∧ w = [(o0, .inr (4, [.int l2, .int f2, .int n2, .int q2])), (p0, .inr (5, [.ref p1, .int (nI ln)])), (p1, .inl (gC g, 80, .inl pd))]) := by
  refine Ki.of (by decide) (Nat.le_of_ble_eq_true rfl) (fun X C hI hret => ?_)
  show V g X 0 0 [(o0, .inr (4, [.int o1, .int o2, .int o3, .int o4])), (p0, .inr (5, [.ref p1, .int (nI ln)])), (p1, .inl (gC g, 80, .inl pd))] 0 [(0, .ref o0), (1, .ref p0)] []
  refine V_aload_n C 0 dX4_faultOf_0 rfl rfl ?_
  refine V_callVv (q0 := 0) (na := 0) (As := []) (rest := []) (wr := [(p0, .inr (5, [.ref p1, .int (nI ln)])), (p1, .inl (gC g, 80, .inl pd))]) C (c_X4_start g o0 o1 o2 o3 o4 ) ⟨⟨ini_X4, co_X4_start, ⟨by decide, by decide, by decide +kernel⟩, by decide⟩, ml_X4_18, im_X4_start, se_X4_start⟩ [0] [1, 2] rfl rfl rfl rfl (by decide) rfl rfl rfl rfl (Nat.le_of_ble_eq_true rfl) (by omega) (by omega) dX4_faultOf_1 (fun w_ hw_2 => ?_)
  obtain rfl := hw_2
  refine V_to (ws2 := [(p0, .inr (5, [.ref p1, .int (nI ln)])), (p1, .inl (gC g, 80, .inl pd)), (o0, .inr (4, [.int o1, .int o2, .int (-1), .int 0]))]) ?_ rfl
  refine V_iconst (v := 0) C dX4_faultOf_4 (by decide) ?_
  refine V_istore_n (L2 := [(2, .int 0), (0, .ref o0), (1, .ref p0)]) C dX4_faultOf_5 rfl (by decide) rfl ?_
  have loop_6 : ∀ (fu_6 : Nat) (j : Nat) (l6 : Int32) (f6 : Int32) (n6 : Int32) (q6 : Int32), (j ≤ ln) → (flt pd ln 0 (o1, o2, -1, 0) = flt pd ln j (l6, f6, n6, q6)) → ln - j < fu_6 → V g X 0 0 [(p0, .inr (5, [.ref p1, .int (nI ln)])), (p1, .inl (gC g, 80, .inl pd)), (o0, .inr (4, [.int l6, .int f6, .int n6, .int q6]))] 6 [(0, .ref o0), (1, .ref p0), (2, .int (nI j))] [] := by
    intro fu_6
    induction fu_6 with
    | zero => intro j l6 f6 n6 q6 hj hf hm; exact absurd hm (by omega)
    | succ fu_6 ih_6 =>
      intro j l6 f6 n6 q6 hj hf hm
      refine V_iload_n C 2 dX4_faultOf_6 rfl rfl ?_
      refine V_aload_n C 1 dX4_faultOf_7 rfl rfl ?_
      refine V_get (v := .int (nI ln)) C 0 rfl rfl in_X5 1 (by decide) fl_X4_21 rfl rfl dX4_faultOf_8 ?_
      refine V_icmp_ge (tgt := 34) C dX4_faultOf_11 (by decide) (fun c_11 => ?_) (fun c_11 => ?_)
      · refine V_aload_n C 0 dX4_faultOf_34 rfl rfl ?_
        refine V_callVi (q0 := 2) (na := 0) (As := []) (rest := []) (wr := [(p0, .inr (5, [.ref p1, .int (nI ln)])), (p1, .inl (gC g, 80, .inl pd))]) C (c_X4_mayEnd g o0 l6 f6 n6 q6 ) ⟨⟨ini_X4, co_X4_mayEnd, ⟨by decide, by decide, by decide +kernel⟩, by decide⟩, ml_X4_34, im_X4_mayEnd, se_X4_mayEnd⟩ [2] [0, 1] rfl rfl rfl rfl (by decide) rfl rfl rfl rfl (Nat.le_of_ble_eq_true rfl) (by omega) (by omega) dX4_faultOf_35 (fun r_3 w_ hw_4 => ?_)
        rcases hw_4 with ⟨hf4_0, rfl, rfl⟩ | ⟨hf4_0, rfl, rfl⟩
        · refine V_to (ws2 := [(p0, .inr (5, [.ref p1, .int (nI ln)])), (p1, .inl (gC g, 80, .inl pd)), (o0, .inr (4, [.int l6, .int f6, .int n6, .int q6]))]) ?_ rfl
          refine V_if_eq (tgt := 46) C dX4_faultOf_38 (by decide) (fun h => absurd h (by decide)) (fun _ => ?_)
          refine V_bipush (v := (-6)) C dX4_faultOf_41 (by decide) ?_
          refine V_goto (tgt := 50) C dX4_faultOf_43 (by decide) ?_
          refine V_perm (ws2 := [(o0, .inr (4, [.int l6, .int f6, .int n6, .int q6])), (p0, .inr (5, [.ref p1, .int (nI ln)])), (p1, .inl (gC g, 80, .inl pd))]) [2, 0, 1] rfl rfl ?_
          refine hret _ _ _ _ dX4_faultOf_50 ?_
          have hj9 : j = ln := by have := lp_ge ln rfl (by omega) (by omega) c_11; omega
          subst hj9
          exact ⟨l6, f6, n6, q6, (hf.trans (flt_ok hf4_0)).symm, rfl⟩
        · refine V_to (ws2 := [(p0, .inr (5, [.ref p1, .int (nI ln)])), (p1, .inl (gC g, 80, .inl pd)), (o0, .inr (4, [.int l6, .int f6, .int n6, .int q6]))]) ?_ rfl
          refine V_if_eq (tgt := 46) C dX4_faultOf_38 (by decide) (fun _ => ?_) (fun h => absurd (by decide) h)
          refine V_aload_n C 1 dX4_faultOf_46 rfl rfl ?_
          refine V_get (v := .int (nI ln)) C 0 rfl rfl in_X5 1 (by decide) fl_X4_21 rfl rfl dX4_faultOf_47 ?_
          refine V_perm (ws2 := [(o0, .inr (4, [.int l6, .int f6, .int n6, .int q6])), (p0, .inr (5, [.ref p1, .int (nI ln)])), (p1, .inl (gC g, 80, .inl pd))]) [2, 0, 1] rfl rfl ?_
          refine hret _ _ _ _ dX4_faultOf_50 ?_
          have hj9 : j = ln := by have := lp_ge ln rfl (by omega) (by omega) c_11; omega
          subst hj9
          exact ⟨l6, f6, n6, q6, (hf.trans (flt_end hf4_0)).symm, rfl⟩
      · have hlt : j < ln := lp_lt ln rfl (by omega) (by omega) c_11
        obtain ⟨k, hk33, hk, hkp⟩ := hpd j hlt
        refine V_aload_n C 0 dX4_faultOf_14 rfl rfl ?_
        refine V_aload_n C 1 dX4_faultOf_15 rfl rfl ?_
        refine V_iload_n C 2 dX4_faultOf_16 rfl rfl ?_
        refine V_callVi (q0 := 0) (na := 1) (As := [.int (nI j)]) (rest := [.ref o0]) (wr := [(o0, .inr (4, [.int l6, .int f6, .int n6, .int q6]))]) C (c_X5_signAt g p0 p1 ln pd j k (show j < 80 from by first | assumption | omega | exact ix_nI (by omega) (by omega) | decide) hkp (show k ≤ 126 from by first | assumption | omega | exact ix_nI (by omega) (by omega) | decide)) ⟨⟨ini_X5, co_X5_signAt, ⟨by decide, by decide, by decide +kernel⟩, by decide⟩, ml_X4_26, im_X5_signAt, se_X5_signAt⟩ [0, 1] [2] rfl rfl rfl rfl (by decide) rfl rfl rfl rfl (Nat.le_of_ble_eq_true rfl) (by omega) (by omega) dX4_faultOf_17 (fun r_5 w_ hw_6 => ?_)
        obtain ⟨rfl, rfl⟩ := hw_6
        refine V_to (ws2 := [(o0, .inr (4, [.int l6, .int f6, .int n6, .int q6])), (p0, .inr (5, [.ref p1, .int (nI ln)])), (p1, .inl (gC g, 80, .inl pd))]) ?_ rfl
        refine V_callVi (q0 := 0) (na := 1) (As := [.int (nI k)]) (rest := []) (wr := [(p0, .inr (5, [.ref p1, .int (nI ln)])), (p1, .inl (gC g, 80, .inl pd))]) C (c_X4_take g o0 l6 f6 n6 q6 k (show 33 ≤ k from by first | assumption | omega | exact ix_nI (by omega) (by omega) | decide) (show k ≤ 126 from by first | assumption | omega | exact ix_nI (by omega) (by omega) | decide)) ⟨⟨ini_X4, co_X4_take, ⟨by decide, by decide, by decide +kernel⟩, by decide⟩, ml_X4_30, im_X4_take, se_X4_take⟩ [0] [1, 2] rfl rfl rfl rfl (by decide) rfl rfl rfl rfl (Nat.le_of_ble_eq_true rfl) (by omega) (by omega) dX4_faultOf_20 (fun r_7 w_ hw_8 => ?_)
        rcases hw_8 with ⟨hf8_0, rfl, rfl⟩ | ⟨l2_9, f2_10, n2_11, q2_12, hf12_0, rfl, rfl⟩
        · refine V_to (ws2 := [(p0, .inr (5, [.ref p1, .int (nI ln)])), (p1, .inl (gC g, 80, .inl pd)), (o0, .inr (4, [.int l6, .int f6, .int n6, .int q6]))]) ?_ rfl
          refine V_if_ne (tgt := 28) C dX4_faultOf_23 (by decide) (fun h => absurd rfl h) (fun _ => ?_)
          refine V_iload_n C 2 dX4_faultOf_26 rfl rfl ?_
          refine V_perm (ws2 := [(o0, .inr (4, [.int l6, .int f6, .int n6, .int q6])), (p0, .inr (5, [.ref p1, .int (nI ln)])), (p1, .inl (gC g, 80, .inl pd))]) [2, 0, 1] rfl rfl ?_
          refine hret _ _ _ _ dX4_faultOf_27 ?_
          exact ⟨l6, f6, n6, q6, (hf.trans (flt_none hlt (by rw [hkp]; exact hf8_0))).symm, rfl⟩
        · refine V_to (ws2 := [(p0, .inr (5, [.ref p1, .int (nI ln)])), (p1, .inl (gC g, 80, .inl pd)), (o0, .inr (4, [.int l2_9, .int f2_10, .int n2_11, .int q2_12]))]) ?_ rfl
          refine V_if_ne (tgt := 28) C dX4_faultOf_23 (by decide) (fun _ => ?_) (fun h => absurd h (by decide))
          refine V_iinc (v := nI (j + 1)) (L2 := [(2, .int (nI (j + 1))), (0, .ref o0), (1, .ref p0)]) C 2 dX4_faultOf_28 rfl (nI_add j 1) (by decide) rfl ?_
          refine V_goto (tgt := 6) C dX4_faultOf_31 (by decide) ?_
          refine V_locs (L2 := [(0, .ref o0), (1, .ref p0), (2, .int (nI (j + 1)))]) [1, 2, 0] rfl ?_
          exact ih_6 (j + 1) l2_9 f2_10 n2_11 q2_12 (show (j + 1) ≤ ln from by first | assumption | omega | rfl) (hf.trans (flt_s hlt (by rw [hkp]; exact hf12_0))) (by omega)
  refine V_locs (L2 := [(0, .ref o0), (1, .ref p0), (2, .int 0)]) [1, 2, 0] rfl ?_
  exact loop_6 (ln - 0 + 1) 0 o1 o2 (-1) 0 (show 0 ≤ ln from by first | assumption | omega | rfl) rfl (by omega)
set_option maxRecDepth 100000 in
set_option maxHeartbeats 4000000 in
theorem c_X9_put (g : Gd) (f0 : Nat) (m0 : Nat) (h0 : Nat) (s0 : Nat) (o0 : Nat) (d0 : Nat) (p0 : Nat) (p1 : Nat) (ln : Nat) (pc : Nat → Int32) (u : Nat) (hu : u < 2 ^ 64) (hln : ln ≤ 80) : Ki g yX9_put cX9_put 4 (some .int) 2 0 0 [.ref f0, .long (lN u)] [(f0, .inr (9, [.ref m0, .ref h0, .ref s0, .ref p0, .ref o0, .ref d0])), (p0, .inr (5, [.ref p1, .int (nI ln)])), (p1, .inl (gC g, 80, .inl pc))] (fun (r : Int32) (w : va_W) => ((∀ n9, ¬ PT u n9) ∧ r = (-2) ∧ w = [(f0, .inr (9, [.ref m0, .ref h0, .ref s0, .ref p0, .ref o0, .ref d0])), (p0, .inr (5, [.ref p1, .int (nI ln)])), (p1, .inl (gC g, 80, .inl pc))]) ∨ (∃ (n9 : Nat), PT u n9 ∧ ¬ ln + n9 ≤ 80 ∧ r = (-4) ∧ w = [(f0, .inr (9, [.ref m0, .ref h0, .ref s0, .ref p0, .ref o0, .ref d0])), (p0, .inr (5, [.ref p1, .int (nI ln)])), (p1, .inl (gC g, 80, .inl pc))]) ∨ (∃ (n9 : Nat) (pd2 : Nat → Int32), PT u n9 ∧ ln + n9 ≤ 80 ∧ (∀ i, i < ln → pd2 i = pc i) ∧ (∀ i, i < n9 → pd2 (ln + i) = nI (dg u (n9 - 1 - i))) ∧ r = nI (ln + n9) ∧ w = [(f0, .inr (9, [.ref m0, .ref h0, .ref s0, .ref p0, .ref o0, .ref d0])), (p0, .inr (5, [.ref p1, .int (nI (ln + n9))])), (p1, .inl (gC g, 80, .inl pd2))])) := by
  refine Ki.of (by decide) (Nat.le_of_ble_eq_true rfl) (fun X C hI hret => ?_)
  show V g X 0 0 [(f0, .inr (9, [.ref m0, .ref h0, .ref s0, .ref p0, .ref o0, .ref d0])), (p0, .inr (5, [.ref p1, .int (nI ln)])), (p1, .inl (gC g, 80, .inl pc))] 0 [(0, .ref f0), (1, .long (lN u))] []
  refine V_lload_n C 1 dX9_put_0 rfl rfl ?_
  refine V_callSi (na := 1) (As := [.long (lN u)]) (rest := []) (wr := [(f0, .inr (9, [.ref m0, .ref h0, .ref s0, .ref p0, .ref o0, .ref d0])), (p0, .inr (5, [.ref p1, .int (nI ln)])), (p1, .inl (gC g, 80, .inl pc))]) C (c_X5_countOf g u (show u < 2 ^ 64 from by first | assumption | omega | exact ix_nI (by omega) (by omega) | decide)) ⟨⟨ini_X5, co_X5_countOf, ⟨by decide, by decide, by decide +kernel⟩, by decide⟩, ml_X9_190, sm_X5_countOf⟩ [] [0, 1, 2] rfl rfl rfl rfl (by decide) rfl rfl (Nat.le_of_ble_eq_true rfl) (by omega) (by omega) dX9_put_1 (fun r_1 w_ hw_2 => ?_)
  rcases hw_2 with ⟨hf2_0, rfl, rfl⟩ | ⟨n9_3, hf3_0, rfl, rfl⟩
  · refine V_to (ws2 := [(f0, .inr (9, [.ref m0, .ref h0, .ref s0, .ref p0, .ref o0, .ref d0])), (p0, .inr (5, [.ref p1, .int (nI ln)])), (p1, .inl (gC g, 80, .inl pc))]) ?_ rfl
    refine V_istore_n (L2 := [(3, .int 0), (0, .ref f0), (1, .long (lN u))]) C dX9_put_4 rfl (by decide) rfl ?_
    refine V_iload_n C 0 dX9_put_5 rfl rfl ?_
    refine V_if_ne (tgt := 12) C dX9_put_6 (by decide) (fun h => absurd rfl h) (fun _ => ?_)
    refine V_bipush (v := (-2)) C dX9_put_9 (by decide) ?_
    refine hret _ _ _ _ dX9_put_11 ?_
    exact Or.inl ⟨hf2_0, rfl, rfl⟩
  · refine V_to (ws2 := [(f0, .inr (9, [.ref m0, .ref h0, .ref s0, .ref p0, .ref o0, .ref d0])), (p0, .inr (5, [.ref p1, .int (nI ln)])), (p1, .inl (gC g, 80, .inl pc))]) ?_ rfl
    have hn1 := hf3_0.1
    have hn8 := hf3_0.2.1
    refine V_istore_n (L2 := [(3, .int (nI n9_3)), (0, .ref f0), (1, .long (lN u))]) C dX9_put_4 rfl (by decide) rfl ?_
    refine V_iload_n C 0 dX9_put_5 rfl rfl ?_
    refine V_if_ne (tgt := 12) C dX9_put_6 (by decide) (fun _ => ?_) (fun h => absurd h (nI_ne0 (by omega) (by omega)))
    refine V_iload_n C 0 dX9_put_12 rfl rfl ?_
    refine V_bipush (v := 80) C dX9_put_13 (by decide) ?_
    refine V_aload_n C 1 dX9_put_15 rfl rfl ?_
    refine V_get (v := .ref p0) C 0 rfl rfl in_X9 3 (by decide) fl_X9_33 rfl rfl dX9_put_16 ?_
    refine V_get (v := .int (nI ln)) C 1 rfl rfl in_X5 1 (by decide) fl_X9_169 rfl rfl dX9_put_19 ?_
    refine V_isub C dX9_put_22 ?_
    refine V_ev (show (80 - (nI ln) : Int32) = nI (80 - ln) from pk_sub (a := 80) hln) ?_
    refine V_icmp_le (tgt := 29) C dX9_put_23 (by decide) (fun c_23 => ?_) (fun c_23 => ?_)
    · have hle : ln + n9_3 ≤ 80 := by
        have q9 := (nI_leI (a := n9_3) (b := 80 - ln) (by omega) (by omega)).mp c_23
        omega
      refine V_aload_n C 1 dX9_put_29 rfl rfl ?_
      refine V_get (v := .ref p0) C 0 rfl rfl in_X9 3 (by decide) fl_X9_33 rfl rfl dX9_put_30 ?_
      refine V_lload_n C 2 dX9_put_33 rfl rfl ?_
      refine V_iload_n C 0 dX9_put_34 rfl rfl ?_
      refine V_callVv (q0 := 1) (na := 2) (As := [.long (lN u), .int (nI n9_3)]) (rest := []) (wr := [(f0, .inr (9, [.ref m0, .ref h0, .ref s0, .ref p0, .ref o0, .ref d0]))]) C (c_X5_append g p0 p1 ln pc u n9_3 (show u < 2 ^ 64 from by first | assumption | omega | exact ix_nI (by omega) (by omega) | decide) (show n9_3 ≤ 8 from by first | assumption | omega | exact ix_nI (by omega) (by omega) | decide) (show ln + n9_3 ≤ 80 from by first | assumption | omega | exact ix_nI (by omega) (by omega) | decide)) ⟨⟨ini_X5, co_X5_append, ⟨by decide, by decide, by decide +kernel⟩, by decide⟩, ml_X9_194, im_X5_append, se_X5_append⟩ [1, 2] [0] rfl rfl rfl rfl (by decide) rfl rfl rfl rfl (Nat.le_of_ble_eq_true rfl) (by omega) (by omega) dX9_put_35 (fun w_ hw_5 => ?_)
      obtain ⟨pd2_6, hf6_0, hf6_1, rfl⟩ := hw_5
      refine V_to (ws2 := [(f0, .inr (9, [.ref m0, .ref h0, .ref s0, .ref p0, .ref o0, .ref d0])), (p0, .inr (5, [.ref p1, .int (nI (ln + n9_3))])), (p1, .inl (gC g, 80, .inl pd2_6))]) ?_ rfl
      refine V_aload_n C 1 dX9_put_38 rfl rfl ?_
      refine V_get (v := .ref p0) C 0 rfl rfl in_X9 3 (by decide) fl_X9_33 rfl rfl dX9_put_39 ?_
      refine V_get (v := .int (nI (ln + n9_3))) C 1 rfl rfl in_X5 1 (by decide) fl_X9_169 rfl rfl dX9_put_42 ?_
      refine hret _ _ _ _ dX9_put_45 ?_
      exact Or.inr (Or.inr ⟨n9_3, pd2_6, hf3_0, hle, hf6_0, hf6_1, rfl, rfl⟩)
    · refine V_bipush (v := (-4)) C dX9_put_26 (by decide) ?_
      refine hret _ _ _ _ dX9_put_28 ?_
      exact Or.inr (Or.inl ⟨n9_3, hf3_0, fun q9 => c_23 (nI_le (by omega) (by omega)), rfl, rfl⟩)
set_option maxRecDepth 100000 in
set_option maxHeartbeats 4000000 in
theorem c_X9_fault (g : Gd) (f0 : Nat) (m0 : Nat) (h0 : Nat) (s0 : Nat) (d0 : Nat) (o0 : Nat) (o1 : Int32) (o2 : Int32) (o3 : Int32) (o4 : Int32) (p0 : Nat) (p1 : Nat) (ln : Nat) (pd : Nat → Int32) (hln : ln ≤ 80) (hpd : PDok pd ln) : Ki g yX9_fault cX9_fault 1 (some .int) 7 0 0 [.ref f0] [(f0, .inr (9, [.ref m0, .ref h0, .ref s0, .ref p0, .ref o0, .ref d0])), (o0, .inr (4, [.int o1, .int o2, .int o3, .int o4])), (p0, .inr (5, [.ref p1, .int (nI ln)])), (p1, .inl (gC g, 80, .inl pd))] (fun (r : Int32) (w : va_W) => ∃ (l2 : Int32) (f2 : Int32) (n2 : Int32) (q2 : Int32), r = flt pd ln 0 (o1, o2, -1, 0) ∧ w = [(f0, .inr (9, [.ref m0, .ref h0, .ref s0, .ref p0, .ref o0, .ref d0])), (o0, .inr (4, [.int l2, .int f2, .int n2, .int q2])), (p0, .inr (5, [.ref p1, .int (nI ln)])), (p1, .inl (gC g, 80, .inl pd))]) := by
  refine Ki.of (by decide) (Nat.le_of_ble_eq_true rfl) (fun X C hI hret => ?_)
  show V g X 0 0 [(f0, .inr (9, [.ref m0, .ref h0, .ref s0, .ref p0, .ref o0, .ref d0])), (o0, .inr (4, [.int o1, .int o2, .int o3, .int o4])), (p0, .inr (5, [.ref p1, .int (nI ln)])), (p1, .inl (gC g, 80, .inl pd))] 0 [(0, .ref f0)] []
  refine V_aload_n C 0 dX9_fault_0 rfl rfl ?_
  refine V_get (v := .ref o0) C 0 rfl rfl in_X9 4 (by decide) fl_X9_40 rfl rfl dX9_fault_1 ?_
  refine V_aload_n C 0 dX9_fault_4 rfl rfl ?_
  refine V_get (v := .ref p0) C 0 rfl rfl in_X9 3 (by decide) fl_X9_33 rfl rfl dX9_fault_5 ?_
  refine V_callVi (q0 := 1) (na := 1) (As := [.ref p0]) (rest := []) (wr := [(f0, .inr (9, [.ref m0, .ref h0, .ref s0, .ref p0, .ref o0, .ref d0]))]) C (c_X4_faultOf g o0 o1 o2 o3 o4 p0 p1 ln pd (show ln ≤ 80 from by first | assumption | omega | exact ix_nI (by omega) (by omega) | decide) (show PDok pd ln from by first | assumption | omega | exact ix_nI (by omega) (by omega) | decide)) ⟨⟨ini_X4, co_X4_faultOf, ⟨by decide, by decide, by decide +kernel⟩, by decide⟩, ml_X9_198, im_X4_faultOf, se_X4_faultOf⟩ [1, 2, 3] [0] rfl rfl rfl rfl (by decide) rfl rfl rfl rfl (Nat.le_of_ble_eq_true rfl) (by omega) (by omega) dX9_fault_8 (fun r_1 w_ hw_2 => ?_)
  obtain ⟨l2_3, f2_4, n2_5, q2_6, rfl, rfl⟩ := hw_2
  refine V_to (ws2 := [(f0, .inr (9, [.ref m0, .ref h0, .ref s0, .ref p0, .ref o0, .ref d0])), (o0, .inr (4, [.int l2_3, .int f2_4, .int n2_5, .int q2_6])), (p0, .inr (5, [.ref p1, .int (nI ln)])), (p1, .inl (gC g, 80, .inl pd))]) ?_ rfl
  refine hret _ _ _ _ dX9_fault_11 ?_
  exact ⟨l2_3, f2_4, n2_5, q2_6, rfl, rfl⟩
