
set_option maxRecDepth 100000 in
set_option maxHeartbeats 4000000 in
theorem c_X0_run (g : Gd) (d0 : Nat) (fa : Int32) (re : Int32) (me : Int32) (bw : Int32) (bt : Int32) (tk : Int32) (pu : Int32) (se : Int32) (dp : Int32) (wy : Int32) (ti : Int32) (h0 : Nat) (h1 : Nat) (h2 : Nat) (N : Nat → Int32) (H : Nat → Int32) (z : Zt) (c : Nat) (P : Nat) (S : Nat) (f : Nat) (r : Nat) (hd : DV z) (hTV : TV z) (hN : ∀ k, k < 12 → N k = z k) (hH : ∀ k, k < 24 → H k = z (12 + k)) (hc : c < 86400) (hz : z 37 = nI c) (hP : P ≤ 9999) (hS1 : 1 ≤ S) (hS2 : S ≤ 9999) (h39 : z 39 = nI f) (hf : f ≤ 9999999) (h47 : z 47 = nI r) (h48 : ∃ m0, 1 ≤ m0 ∧ m0 ≤ 998001 ∧ r < m0 ∧ z 48 = nI m0) (hme : me = z 48 ∨ (me = 0 ∧ z 47 = 0)) : Kv g yX0_run cX0_run 9 none 3 0 0 [.ref d0, .ref h0, .int (nI c), .int (nI P), .int (nI S)] [(d0, .inr (0, [.int (nI f), .int (nI r), .int me, .int bw, .int bt, .int tk, .int pu, .int se, .int dp, .int wy, .int ti])), (h0, .inr (8, [.ref h1, .ref h2])), (h1, .inl (gI g, 12, .inl N)), (h2, .inl (gI g, 24, .inl H))] (fun (w : va_W) => ∃ (fa2 : Int32) (re2 : Int32) (me2 : Int32) (bw2 : Int32) (bt2 : Int32) (dp2 : Int32) (wy2 : Int32) (ti2 : Int32), fa2 = (drvZ z P S S).1 39 ∧ re2 = (drvZ z P S S).1 47 ∧ me2 = (drvZ z P S S).1 48 ∧ (¬ tk = 0 → (drvZ z P S S).1 44 = z 44 + bw2 ∧ (drvZ z P S S).1 45 = z 45 + bt2) ∧ w = [(d0, .inr (0, [.int fa2, .int re2, .int me2, .int bw2, .int bt2, .int tk, .int (nI P), .int (nI S), .int dp2, .int wy2, .int ti2])), (h0, .inr (8, [.ref h1, .ref h2])), (h1, .inl (gI g, 12, .inl N)), (h2, .inl (gI g, 24, .inl H))]) := by
  refine Kv.of (by decide) (Nat.le_of_ble_eq_true rfl) (fun X C hI hret => ?_)
  show V g X 0 0 [(d0, .inr (0, [.int (nI f), .int (nI r), .int me, .int bw, .int bt, .int tk, .int pu, .int se, .int dp, .int wy, .int ti])), (h0, .inr (8, [.ref h1, .ref h2])), (h1, .inl (gI g, 12, .inl N)), (h2, .inl (gI g, 24, .inl H))] 0 [(0, .ref d0), (1, .ref h0), (2, .int (nI c)), (3, .int (nI P)), (4, .int (nI S))] []
  refine V_aload_n C 0 dX0_run_0 rfl rfl ?_
  refine V_iload_n C 3 dX0_run_1 rfl rfl ?_
  refine V_put (ty := .int) (ws2 := [(d0, .inr (0, [.int (nI f), .int (nI r), .int me, .int bw, .int bt, .int tk, .int (nI P), .int se, .int dp, .int wy, .int ti])), (h0, .inr (8, [.ref h1, .ref h2])), (h1, .inl (gI g, 12, .inl N)), (h2, .inl (gI g, 24, .inl H))]) C 0 rfl rfl in_X0 tyX0 tyX0_ok nmX0 6 (by decide) fl_X0_40 rfl rfl (by decide +kernel) rfl rfl (Nat.le_of_ble_eq_true rfl) dX0_run_2 rfl ?_
  refine V_aload_n C 0 dX0_run_5 rfl rfl ?_
  refine V_iload C 4 dX0_run_6 rfl ?_
  refine V_put (ty := .int) (ws2 := [(d0, .inr (0, [.int (nI f), .int (nI r), .int me, .int bw, .int bt, .int tk, .int (nI P), .int (nI S), .int dp, .int wy, .int ti])), (h0, .inr (8, [.ref h1, .ref h2])), (h1, .inl (gI g, 12, .inl N)), (h2, .inl (gI g, 24, .inl H))]) C 0 rfl rfl in_X0 tyX0 tyX0_ok nmX0 7 (by decide) fl_X0_43 rfl rfl (by decide +kernel) rfl rfl (Nat.le_of_ble_eq_true rfl) dX0_run_8 rfl ?_
  refine V_aload_n C 0 dX0_run_11 rfl rfl ?_
  refine V_iconst (v := 0) C dX0_run_12 (by decide) ?_
  refine V_put (ty := .int) (ws2 := [(d0, .inr (0, [.int (nI f), .int (nI r), .int me, .int 0, .int bt, .int tk, .int (nI P), .int (nI S), .int dp, .int wy, .int ti])), (h0, .inr (8, [.ref h1, .ref h2])), (h1, .inl (gI g, 12, .inl N)), (h2, .inl (gI g, 24, .inl H))]) C 0 rfl rfl in_X0 tyX0 tyX0_ok nmX0 3 (by decide) fl_X0_46 rfl rfl (by decide +kernel) rfl rfl (Nat.le_of_ble_eq_true rfl) dX0_run_13 rfl ?_
  refine V_aload_n C 0 dX0_run_16 rfl rfl ?_
  refine V_iconst (v := 0) C dX0_run_17 (by decide) ?_
  refine V_put (ty := .int) (ws2 := [(d0, .inr (0, [.int (nI f), .int (nI r), .int me, .int 0, .int 0, .int tk, .int (nI P), .int (nI S), .int dp, .int wy, .int ti])), (h0, .inr (8, [.ref h1, .ref h2])), (h1, .inl (gI g, 12, .inl N)), (h2, .inl (gI g, 24, .inl H))]) C 0 rfl rfl in_X0 tyX0 tyX0_ok nmX0 4 (by decide) fl_X0_49 rfl rfl (by decide +kernel) rfl rfl (Nat.le_of_ble_eq_true rfl) dX0_run_18 rfl ?_
  refine V_iconst (v := 0) C dX0_run_21 (by decide) ?_
  refine V_istore (L2 := [(5, .int 0), (0, .ref d0), (1, .ref h0), (2, .int (nI c)), (3, .int (nI P)), (4, .int (nI S))]) C dX0_run_22 (by decide) rfl ?_
  refine V_iconst (v := 0) C dX0_run_24 (by decide) ?_
  refine V_istore (L2 := [(6, .int 0), (5, .int 0), (0, .ref d0), (1, .ref h0), (2, .int (nI c)), (3, .int (nI P)), (4, .int (nI S))]) C dX0_run_25 (by decide) rfl ?_
  have loop_27 : ∀ (fu_27 : Nat) (a : Nat) (j : Nat) (f9 : Nat) (r9 : Nat) (me9 : Int32) (bw9 : Int32) (bt9 : Int32) (dp9 : Int32) (wy9 : Int32) (ti9 : Int32), (a ≤ S) → (a = S ∨ (j = 0 ∧ a = 0) ∨ (1 ≤ j ∧ 3600 * (j - 1) < a ∧ (c + a) % 3600 = 0)) → (j ≤ 24) → ((drvZ z P S a).1 39 = nI f9) → (f9 ≤ 9999999) → ((drvZ z P S a).1 47 = nI r9) → (∃ m0, 1 ≤ m0 ∧ m0 ≤ 998001 ∧ r9 < m0 ∧ (drvZ z P S a).1 48 = nI m0) → (me9 = (drvZ z P S a).1 48 ∨ (a = 0 ∧ me9 = 0 ∧ (drvZ z P S a).1 47 = 0)) → (¬ tk = 0 → (drvZ z P S a).1 44 = z 44 + bw9 ∧ (drvZ z P S a).1 45 = z 45 + bt9) → 24 - j < fu_27 → V g X 0 0 [(d0, .inr (0, [.int (nI f9), .int (nI r9), .int me9, .int bw9, .int bt9, .int tk, .int (nI P), .int (nI S), .int dp9, .int wy9, .int ti9])), (h0, .inr (8, [.ref h1, .ref h2])), (h1, .inl (gI g, 12, .inl N)), (h2, .inl (gI g, 24, .inl H))] 27 [(0, .ref d0), (1, .ref h0), (2, .int (nI c)), (3, .int (nI P)), (4, .int (nI S)), (5, .int (nI a)), (6, .int (nI j))] [] := by
    intro fu_27
    induction fu_27 with
    | zero => intro a j f9 r9 me9 bw9 bt9 dp9 wy9 ti9 ha hpr hj24 k39 kf k47 k48 kme kk hm; exact absurd hm (by omega)
    | succ fu_27 ih_27 =>
      intro a j f9 r9 me9 bw9 bt9 dp9 wy9 ti9 ha hpr hj24 k39 kf k47 k48 kme kk hm
      refine V_iload C 6 dX0_run_27 rfl ?_
      refine V_bipush (v := 24) C dX0_run_29 (by decide) ?_
      refine V_icmp_ge (tgt := 99) C dX0_run_31 (by decide) (fun c_31 => ?_) (fun c_31 => ?_)
      · refine hret _ _ _ dX0_run_99 ?_
        have haS : a = S := by
          rcases Nat.lt_or_ge a S with q9 | q9
          · have h24 := lp_ge 24 rfl (by omega) (by omega) c_31
            omega
          · omega
        subst haS
        exact ⟨_, _, _, _, _, _, _, _, k39.symm, k47.symm, kme.elim id (fun h => absurd h.1 (by omega)), kk, rfl⟩
      · have hj23 : j < 24 := lp_lt 24 rfl (by omega) (by omega) c_31
        refine V_iload C 5 dX0_run_34 rfl ?_
        refine V_iload C 4 dX0_run_36 rfl ?_
        refine V_icmp_ge (tgt := 99) C dX0_run_38 (by decide) (fun c_38 => ?_) (fun c_38 => ?_)
        · refine hret _ _ _ dX0_run_99 ?_
          have haS : a = S := by
            have q9 := lp_ge S rfl (by omega) (by omega) c_38
            omega
          subst haS
          exact ⟨_, _, _, _, _, _, _, _, k39.symm, k47.symm, kme.elim id (fun h => absurd h.1 (by omega)), kk, rfl⟩
        · have haS : a < S := lp_lt S rfl (by omega) (by omega) c_38
          obtain ⟨n, hn, hn1, hn2, hto, hpr2⟩ := run_n (c := c) hS2 haS hpr
          obtain ⟨t, ht, hzt⟩ := hd.1.2.1 ((c + a) % 86400 / 3600) (by omega)
          obtain ⟨dd, w9, q9, hT⟩ := hTV t ht
          obtain ⟨hNd, hNw, hNq⟩ := TP_N hT ht hN
          obtain ⟨-, hdd, -, hw1, hw2, -, hq1, hq2⟩ := id hT
          obtain ⟨b1, b2, b3, b4⟩ := wq_b hw1 hw2 hq1 hq2
          have hC := run_cut hd hz hc hP hS1 hS2 hn1 hn2 ht hzt
          obtain ⟨m0, k1, k2, k3, k4⟩ := k48
          obtain ⟨r2, hr0, hcar, hr2a, hr2b⟩ := run_carry k47 k4 k1 k2 k3 b1 b2 (kme.elim Or.inl (fun h => Or.inr h.2))
          obtain ⟨-, e39, e48, -, -⟩ := cut_nat hd hC hT k39 kf hcar hr0 n (Nat.le_refl n)
          have hHt : H ((c + a) % 86400 / 3600) = nI t := by rw [hH _ (by omega)]; exact hzt
          refine V_iload_n C 2 dX0_run_41 rfl rfl ?_
          refine V_iload C 5 dX0_run_42 rfl ?_
          refine V_iadd C dX0_run_44 ?_
          refine V_ev (show ((nI c) + (nI a) : Int32) = nI (c + a) from nI_add c a) ?_
          refine V_ldc (v := 86400) C k_X0_52 dX0_run_45 ?_
          refine V_irem C dX0_run_47 (by decide) ?_
          refine V_ev (show ((nI (c + a)) - (nI (c + a)) / 86400 * 86400 : Int32) = nI ((c + a) % 86400) from pk_rem (d := 86400) (by omega) (by omega) (by omega)) ?_
          refine V_istore (L2 := [(7, .int (nI ((c + a) % 86400))), (0, .ref d0), (1, .ref h0), (2, .int (nI c)), (3, .int (nI P)), (4, .int (nI S)), (5, .int (nI a)), (6, .int (nI j))]) C dX0_run_48 (by decide) rfl ?_
          refine V_iload C 5 dX0_run_50 rfl ?_
          refine V_iload C 6 dX0_run_52 rfl ?_
          refine V_sipush (v := 3600) C dX0_run_54 (by decide) ?_
          refine V_iadd C dX0_run_57 ?_
          refine V_ev (show ((nI a) + 3600 : Int32) = nI (a + 3600) from nI_add a 3600) ?_
          refine V_iload C 0 dX0_run_58 rfl ?_
          refine V_sipush (v := 3600) C dX0_run_60 (by decide) ?_
          refine V_irem C dX0_run_63 (by decide) ?_
          refine V_ev (show ((nI ((c + a) % 86400)) - (nI ((c + a) % 86400)) / 3600 * 3600 : Int32) = nI ((c + a) % 86400 % 3600) from pk_rem (d := 3600) (by omega) (by omega) (by omega)) ?_
          refine V_isub C dX0_run_64 ?_
          refine V_ev (show ((nI (a + 3600)) - (nI ((c + a) % 86400 % 3600)) : Int32) = nI (a + 3600 - (c + a) % 86400 % 3600) from pk_sub (by omega)) ?_
          refine V_min C ml_X0_53 sm_math_min ini_math co_math_min (Nat.le_of_ble_eq_true rfl) (by omega) (by omega) dX0_run_65 ?_
          refine V_ev (show (if (nI (a + 3600 - (c + a) % 86400 % 3600)) < (nI S) then (nI (a + 3600 - (c + a) % 86400 % 3600)) else (nI S) : Int32) = nI (a + n) from (min_nI S _ (by omega) (by omega)).trans (by rw [hto])) ?_
          refine V_istore (L2 := [(8, .int (nI (a + n))), (7, .int (nI ((c + a) % 86400))), (0, .ref d0), (1, .ref h0), (2, .int (nI c)), (3, .int (nI P)), (4, .int (nI S)), (5, .int (nI a)), (6, .int (nI j))]) C dX0_run_68 (by decide) rfl ?_
          refine V_aload_n C 2 dX0_run_70 rfl rfl ?_
          refine V_aload_n C 3 dX0_run_71 rfl rfl ?_
          refine V_aload_n C 3 dX0_run_72 rfl rfl ?_
          refine V_iload C 1 dX0_run_73 rfl ?_
          refine V_callVi (q0 := 1) (na := 1) (As := [.int (nI ((c + a) % 86400))]) (rest := [.ref h0, .ref d0]) (wr := [(d0, .inr (0, [.int (nI f9), .int (nI r9), .int me9, .int bw9, .int bt9, .int tk, .int (nI P), .int (nI S), .int dp9, .int wy9, .int ti9])), (h1, .inl (gI g, 12, .inl N))]) C (c_X8_ofSecond g h0 h1 h2 H ((c + a) % 86400) (Nat.mod_lt _ (by omega))) ⟨⟨ini_X8, co_X8_ofSecond, ⟨by decide, by decide, by decide +kernel⟩, by decide⟩, ml_X0_9, im_X8_ofSecond, se_X8_ofSecond⟩ [1, 3] [0, 2] rfl rfl rfl rfl (by decide) rfl rfl rfl rfl (Nat.le_of_ble_eq_true rfl) (by omega) (by omega) dX0_run_75 (fun r_1 w_ hw_2 => ?_)
          obtain ⟨rfl, rfl⟩ := hw_2
          refine V_to (ws2 := [(d0, .inr (0, [.int (nI f9), .int (nI r9), .int me9, .int bw9, .int bt9, .int tk, .int (nI P), .int (nI S), .int dp9, .int wy9, .int ti9])), (h1, .inl (gI g, 12, .inl N)), (h0, .inr (8, [.ref h1, .ref h2])), (h2, .inl (gI g, 24, .inl H))]) ?_ rfl
          refine V_ev (show (H (((c + a) % 86400) / 3600) : Int32) = nI t from hHt) ?_
          refine V_callVv (q0 := 0) (na := 2) (As := [.ref h0, .int (nI t)]) (rest := []) (wr := []) C (c_X0_takeTariff g d0 (nI f9) (nI r9) me9 bw9 bt9 tk (nI P) (nI S) dp9 wy9 ti9 h0 h1 h2 N H t w9 q9 (show t < 3 from by first | assumption | omega | exact ix_nI (by omega) (by omega) | decide) hNw (show 1 ≤ w9 from by first | assumption | omega | exact ix_nI (by omega) (by omega) | decide) (show w9 ≤ 999 from by first | assumption | omega | exact ix_nI (by omega) (by omega) | decide) hNq (show 1 ≤ q9 from by first | assumption | omega | exact ix_nI (by omega) (by omega) | decide) (show q9 ≤ 999 from by first | assumption | omega | exact ix_nI (by omega) (by omega) | decide)) ⟨⟨ini_X0, co_X0_takeTariff, ⟨by decide, by decide, by decide +kernel⟩, by decide⟩, ml_X0_58, im_X0_takeTariff, se_X0_takeTariff⟩ [0, 2, 1, 3] [] rfl rfl rfl rfl (by decide) rfl rfl rfl rfl (Nat.le_of_ble_eq_true rfl) (by omega) (by omega) dX0_run_78 (fun w_ hw_4 => ?_)
          rcases hw_4 with ⟨hf4_0, rfl⟩ | ⟨hf4_0, rfl⟩
          · refine V_to (ws2 := [(d0, .inr (0, [.int (nI f9), .int (Int64.toInt32 (Int32.toInt64 (nI r9) * Int32.toInt64 (nI (w9 * q9)) / Int32.toInt64 me9)), .int (nI (w9 * q9)), .int bw9, .int bt9, .int tk, .int (nI P), .int (nI S), .int (N (t * 4 + 1)), .int (nI w9), .int (nI q9)])), (h0, .inr (8, [.ref h1, .ref h2])), (h1, .inl (gI g, 12, .inl N)), (h2, .inl (gI g, 24, .inl H))]) ?_ rfl
            refine V_to (ws2 := [(d0, .inr (0, [.int (nI f9), .int (nI r2), .int (nI (w9 * q9)), .int bw9, .int bt9, .int tk, .int (nI P), .int (nI S), .int (nI dd), .int (nI w9), .int (nI q9)])), (h0, .inr (8, [.ref h1, .ref h2])), (h1, .inl (gI g, 12, .inl N)), (h2, .inl (gI g, 24, .inl H))]) ?_ (by rw [hNd, hr2a hf4_0])
            refine V_aload_n C 2 dX0_run_81 rfl rfl ?_
            refine V_iload C 7 dX0_run_82 rfl ?_
            refine V_iload C 0 dX0_run_84 rfl ?_
            refine V_callVv (q0 := 0) (na := 2) (As := [.int (nI a), .int (nI (a + n))]) (rest := []) (wr := [(h0, .inr (8, [.ref h1, .ref h2])), (h1, .inl (gI g, 12, .inl N)), (h2, .inl (gI g, 24, .inl H))]) C (c_X0_runCut g d0 bw9 bt9 tk z P S a n t f9 r2 dd w9 q9 (show DV z from by first | assumption | omega | exact ix_nI (by omega) (by omega) | decide) (show CUT z P S a n t from by first | assumption | omega | exact ix_nI (by omega) (by omega) | decide) (show 1 ≤ n from by first | assumption | omega | exact ix_nI (by omega) (by omega) | decide) (show TP z t dd w9 q9 from by first | assumption | omega | exact ix_nI (by omega) (by omega) | decide) k39 kf (show carZ (drvZ z P S a).1 (nI (w9 * q9)) 47 = nI r2 from by first | assumption | omega | exact ix_nI (by omega) (by omega) | decide) (show r2 < w9 * q9 from by first | assumption | omega | exact ix_nI (by omega) (by omega) | decide)) ⟨⟨ini_X0, co_X0_runCut, ⟨by decide, by decide, by decide +kernel⟩, by decide⟩, ml_X0_62, im_X0_runCut, se_X0_runCut⟩ [0] [1, 2, 3] rfl rfl rfl rfl (by decide) rfl rfl rfl rfl (Nat.le_of_ble_eq_true rfl) (by omega) (by omega) dX0_run_86 (fun w_ hw_6 => ?_)
            obtain ⟨bw2_7, bt2_8, hf8_0, rfl⟩ := hw_6
            refine V_to (ws2 := [(h0, .inr (8, [.ref h1, .ref h2])), (h1, .inl (gI g, 12, .inl N)), (h2, .inl (gI g, 24, .inl H)), (d0, .inr (0, [.int (nI (min 9999999 (f9 + (r2 + Gm w9 q9 P S a n) / (w9 * q9) * dd))), .int (nI ((r2 + Gm w9 q9 P S a n) % (w9 * q9))), .int (nI (w9 * q9)), .int bw2_7, .int bt2_8, .int tk, .int (nI P), .int (nI S), .int (nI dd), .int (nI w9), .int (nI q9)]))]) ?_ rfl
            refine V_iload C 0 dX0_run_89 rfl ?_
            refine V_istore (L2 := [(5, .int (nI (a + n))), (8, .int (nI (a + n))), (7, .int (nI ((c + a) % 86400))), (0, .ref d0), (1, .ref h0), (2, .int (nI c)), (3, .int (nI P)), (4, .int (nI S)), (6, .int (nI j))]) C dX0_run_91 (by decide) rfl ?_
            refine V_iinc (v := nI (j + 1)) (L2 := [(6, .int (nI (j + 1))), (5, .int (nI (a + n))), (8, .int (nI (a + n))), (7, .int (nI ((c + a) % 86400))), (0, .ref d0), (1, .ref h0), (2, .int (nI c)), (3, .int (nI P)), (4, .int (nI S))]) C 8 dX0_run_93 rfl (nI_add j 1) (by decide) rfl ?_
            refine V_goto (tgt := 27) C dX0_run_96 (by decide) ?_
            refine V_perm (ws2 := [(d0, .inr (0, [.int (nI (min 9999999 (f9 + (r2 + Gm w9 q9 P S a n) / (w9 * q9) * dd))), .int (nI ((r2 + Gm w9 q9 P S a n) % (w9 * q9))), .int (nI (w9 * q9)), .int bw2_7, .int bt2_8, .int tk, .int (nI P), .int (nI S), .int (nI dd), .int (nI w9), .int (nI q9)])), (h0, .inr (8, [.ref h1, .ref h2])), (h1, .inl (gI g, 12, .inl N)), (h2, .inl (gI g, 24, .inl H))]) [3, 0, 1, 2] rfl rfl ?_
            refine V_locs (L2 := [(0, .ref d0), (1, .ref h0), (2, .int (nI c)), (3, .int (nI P)), (4, .int (nI S)), (5, .int (nI (a + n))), (6, .int (nI (j + 1)))]) [4, 5, 6, 7, 8, 1, 0] rfl ?_
            exact ih_27 (a + n) (j + 1) (min 9999999 (f9 + (r2 + Gm w9 q9 P S a n) / (w9 * q9) * dd)) ((r2 + Gm w9 q9 P S a n) % (w9 * q9)) (nI (w9 * q9)) bw2_7 bt2_8 (nI dd) (nI w9) (nI q9) hn1 hpr2 (show (j + 1) ≤ 24 from by first | assumption | omega | rfl) e39 (Nat.min_le_left _ _) ((e48 hn).2) (⟨w9 * q9, b1, b2, Nat.mod_lt _ b1, (e48 hn).1⟩) (Or.inl (e48 hn).1.symm) (fun h => hf8_0 h (z 44) (z 45) (kk h).1 (kk h).2) (by omega)
          · refine V_to (ws2 := [(d0, .inr (0, [.int (nI f9), .int (nI r9), .int (nI (w9 * q9)), .int bw9, .int bt9, .int tk, .int (nI P), .int (nI S), .int (N (t * 4 + 1)), .int (nI w9), .int (nI q9)])), (h0, .inr (8, [.ref h1, .ref h2])), (h1, .inl (gI g, 12, .inl N)), (h2, .inl (gI g, 24, .inl H))]) ?_ rfl
            refine V_to (ws2 := [(d0, .inr (0, [.int (nI f9), .int (nI r2), .int (nI (w9 * q9)), .int bw9, .int bt9, .int tk, .int (nI P), .int (nI S), .int (nI dd), .int (nI w9), .int (nI q9)])), (h0, .inr (8, [.ref h1, .ref h2])), (h1, .inl (gI g, 12, .inl N)), (h2, .inl (gI g, 24, .inl H))]) ?_ (by rw [hNd, hr2b hf4_0])
            refine V_aload_n C 2 dX0_run_81 rfl rfl ?_
            refine V_iload C 7 dX0_run_82 rfl ?_
            refine V_iload C 0 dX0_run_84 rfl ?_
            refine V_callVv (q0 := 0) (na := 2) (As := [.int (nI a), .int (nI (a + n))]) (rest := []) (wr := [(h0, .inr (8, [.ref h1, .ref h2])), (h1, .inl (gI g, 12, .inl N)), (h2, .inl (gI g, 24, .inl H))]) C (c_X0_runCut g d0 bw9 bt9 tk z P S a n t f9 r2 dd w9 q9 (show DV z from by first | assumption | omega | exact ix_nI (by omega) (by omega) | decide) (show CUT z P S a n t from by first | assumption | omega | exact ix_nI (by omega) (by omega) | decide) (show 1 ≤ n from by first | assumption | omega | exact ix_nI (by omega) (by omega) | decide) (show TP z t dd w9 q9 from by first | assumption | omega | exact ix_nI (by omega) (by omega) | decide) k39 kf (show carZ (drvZ z P S a).1 (nI (w9 * q9)) 47 = nI r2 from by first | assumption | omega | exact ix_nI (by omega) (by omega) | decide) (show r2 < w9 * q9 from by first | assumption | omega | exact ix_nI (by omega) (by omega) | decide)) ⟨⟨ini_X0, co_X0_runCut, ⟨by decide, by decide, by decide +kernel⟩, by decide⟩, ml_X0_62, im_X0_runCut, se_X0_runCut⟩ [0] [1, 2, 3] rfl rfl rfl rfl (by decide) rfl rfl rfl rfl (Nat.le_of_ble_eq_true rfl) (by omega) (by omega) dX0_run_86 (fun w_ hw_10 => ?_)
            obtain ⟨bw2_11, bt2_12, hf12_0, rfl⟩ := hw_10
            refine V_to (ws2 := [(h0, .inr (8, [.ref h1, .ref h2])), (h1, .inl (gI g, 12, .inl N)), (h2, .inl (gI g, 24, .inl H)), (d0, .inr (0, [.int (nI (min 9999999 (f9 + (r2 + Gm w9 q9 P S a n) / (w9 * q9) * dd))), .int (nI ((r2 + Gm w9 q9 P S a n) % (w9 * q9))), .int (nI (w9 * q9)), .int bw2_11, .int bt2_12, .int tk, .int (nI P), .int (nI S), .int (nI dd), .int (nI w9), .int (nI q9)]))]) ?_ rfl
            refine V_iload C 0 dX0_run_89 rfl ?_
            refine V_istore (L2 := [(5, .int (nI (a + n))), (8, .int (nI (a + n))), (7, .int (nI ((c + a) % 86400))), (0, .ref d0), (1, .ref h0), (2, .int (nI c)), (3, .int (nI P)), (4, .int (nI S)), (6, .int (nI j))]) C dX0_run_91 (by decide) rfl ?_
            refine V_iinc (v := nI (j + 1)) (L2 := [(6, .int (nI (j + 1))), (5, .int (nI (a + n))), (8, .int (nI (a + n))), (7, .int (nI ((c + a) % 86400))), (0, .ref d0), (1, .ref h0), (2, .int (nI c)), (3, .int (nI P)), (4, .int (nI S))]) C 8 dX0_run_93 rfl (nI_add j 1) (by decide) rfl ?_
            refine V_goto (tgt := 27) C dX0_run_96 (by decide) ?_
            refine V_perm (ws2 := [(d0, .inr (0, [.int (nI (min 9999999 (f9 + (r2 + Gm w9 q9 P S a n) / (w9 * q9) * dd))), .int (nI ((r2 + Gm w9 q9 P S a n) % (w9 * q9))), .int (nI (w9 * q9)), .int bw2_11, .int bt2_12, .int tk, .int (nI P), .int (nI S), .int (nI dd), .int (nI w9), .int (nI q9)])), (h0, .inr (8, [.ref h1, .ref h2])), (h1, .inl (gI g, 12, .inl N)), (h2, .inl (gI g, 24, .inl H))]) [3, 0, 1, 2] rfl rfl ?_
            refine V_locs (L2 := [(0, .ref d0), (1, .ref h0), (2, .int (nI c)), (3, .int (nI P)), (4, .int (nI S)), (5, .int (nI (a + n))), (6, .int (nI (j + 1)))]) [4, 5, 6, 7, 8, 1, 0] rfl ?_
            exact ih_27 (a + n) (j + 1) (min 9999999 (f9 + (r2 + Gm w9 q9 P S a n) / (w9 * q9) * dd)) ((r2 + Gm w9 q9 P S a n) % (w9 * q9)) (nI (w9 * q9)) bw2_11 bt2_12 (nI dd) (nI w9) (nI q9) hn1 hpr2 (show (j + 1) ≤ 24 from by first | assumption | omega | rfl) e39 (Nat.min_le_left _ _) ((e48 hn).2) (⟨w9 * q9, b1, b2, Nat.mod_lt _ b1, (e48 hn).1⟩) (Or.inl (e48 hn).1.symm) (fun h => hf12_0 h (z 44) (z 45) (kk h).1 (kk h).2) (by omega)
  refine V_locs (L2 := [(0, .ref d0), (1, .ref h0), (2, .int (nI c)), (3, .int (nI P)), (4, .int (nI S)), (5, .int 0), (6, .int 0)]) [2, 3, 4, 5, 6, 1, 0] rfl ?_
  exact loop_27 (24 - 0 + 1) 0 0 f r me 0 0 dp wy ti (show 0 ≤ S from by first | assumption | omega | rfl) (Or.inr (Or.inl ⟨rfl, rfl⟩)) (Nat.zero_le _) h39 (show f ≤ 9999999 from by first | assumption | omega | rfl) h47 h48 (hme.elim Or.inl (fun h => Or.inr ⟨rfl, h.1, h.2⟩)) (fun _ => ⟨(Int32.add_zero _).symm, (Int32.add_zero _).symm⟩) (by omega)
