
set_option maxRecDepth 100000 in
set_option maxHeartbeats 4000000 in
theorem c_X0_runCut (g : Gd) (d0 : Nat) (bw : Int32) (bt : Int32) (tk : Int32) (z : Zt) (P : Nat) (S : Nat) (a : Nat) (n : Nat) (t : Nat) (f : Nat) (r : Nat) (dd : Nat) (w9 : Nat) (q9 : Nat) (hd : DV z) (hC : CUT z P S a n t) (hn : 1 ≤ n) (hT : TP z t dd w9 q9) (h39 : (drvZ z P S a).1 39 = nI f) (hf : f ≤ 9999999) (hcar : carZ (drvZ z P S a).1 (nI (w9 * q9)) 47 = nI r) (hr0 : r < w9 * q9) : Kv g yX0_runCut cX0_runCut 7 none 2 0 0 [.ref d0, .int (nI a), .int (nI (a + n))] [(d0, .inr (0, [.int (nI f), .int (nI r), .int (nI (w9 * q9)), .int bw, .int bt, .int tk, .int (nI P), .int (nI S), .int (nI dd), .int (nI w9), .int (nI q9)]))] (fun (w : va_W) => ∃ (bw2 : Int32) (bt2 : Int32), (¬ tk = 0 → ∀ x y : Int32, (drvZ z P S a).1 44 = x + bw → (drvZ z P S a).1 45 = y + bt → (drvZ z P S (a + n)).1 44 = x + bw2 ∧ (drvZ z P S (a + n)).1 45 = y + bt2) ∧ w = [(d0, .inr (0, [.int (nI (min 9999999 (f + (r + Gm w9 q9 P S a n) / (w9 * q9) * dd))), .int (nI ((r + Gm w9 q9 P S a n) % (w9 * q9))), .int (nI (w9 * q9)), .int bw2, .int bt2, .int tk, .int (nI P), .int (nI S), .int (nI dd), .int (nI w9), .int (nI q9)]))]) := by
  refine Kv.of (by decide) (Nat.le_of_ble_eq_true rfl) (fun X C hI hret => ?_)
  show V g X 0 0 [(d0, .inr (0, [.int (nI f), .int (nI r), .int (nI (w9 * q9)), .int bw, .int bt, .int tk, .int (nI P), .int (nI S), .int (nI dd), .int (nI w9), .int (nI q9)]))] 0 [(0, .ref d0), (1, .int (nI a)), (2, .int (nI (a + n)))] []
  obtain ⟨c1, c2, hP, hS1, hS2, ht, -⟩ := id hC
  obtain ⟨-, hdd, -, hw1, hw2, -, hq1, hq2⟩ := id hT
  obtain ⟨b1, b2, b3, b4⟩ := wq_b hw1 hw2 hq1 hq2
  obtain ⟨g1, g2, g3⟩ := Gm_sum (w := w9) (q := q9) (P := P) (S := S) (a := a) hS1 n
  have hpa : ∀ k, k ≤ S → P * k ≤ 9999 * 9999 := fun k hk => Nat.mul_le_mul hP (by omega)
  have hmono : P * a / S ≤ P * (a + n) / S := Nat.div_le_div_right (Nat.mul_le_mul_left P (by omega))
  have hfew : P / S ≤ 9999 := Nat.le_trans (Nat.div_le_self _ _) hP
  obtain ⟨mo, hmo⟩ : ∃ mo, mo = P * (a + n) / S - P * a / S - P / S * n := ⟨_, rfl⟩
  rw [← hmo] at g2 g3
  have hF0 : min 9999999 (f + (r + Gm w9 q9 P S a 0) / (w9 * q9) * dd) = f := cut_f0 hr0 hf
  have hR0 : (r + Gm w9 q9 P S a 0) % (w9 * q9) = r := Nat.mod_eq_of_lt hr0
  refine V_aload_n C 0 dX0_runCut_0 rfl rfl ?_
  refine V_iconst (v := 1) C dX0_runCut_1 (by decide) ?_
  refine V_callVi (q0 := 0) (na := 1) (As := [.int 1]) (rest := []) (wr := []) C (c_X0_behind g d0 (nI f) (nI r) (nI (w9 * q9)) bw bt tk (nI dd) (nI w9) (nI q9) P S 1 (show 1 ≤ S from by first | assumption | omega | exact ix_nI (by omega) (by omega) | decide) (show S ≤ 9999 from by first | assumption | omega | exact ix_nI (by omega) (by omega) | decide) (by have := hpa 1 hS1; omega)) ⟨⟨ini_X0, co_X0_behind, ⟨by decide, by decide, by decide +kernel⟩, by decide⟩, ml_X0_78, im_X0_behind, se_X0_behind⟩ [0] [] rfl rfl rfl rfl (by decide) rfl rfl rfl rfl (Nat.le_of_ble_eq_true rfl) (by omega) (by omega) dX0_runCut_2 (fun r_1 w_ hw_2 => ?_)
  obtain ⟨rfl, rfl⟩ := hw_2
  refine V_to (ws2 := [(d0, .inr (0, [.int (nI f), .int (nI r), .int (nI (w9 * q9)), .int bw, .int bt, .int tk, .int (nI P), .int (nI S), .int (nI dd), .int (nI w9), .int (nI q9)]))]) ?_ rfl
  refine V_ev (show (nI (P * 1 / S) : Int32) = nI (P / S) from by rw [Nat.mul_one]) ?_
  refine V_istore_n (L2 := [(3, .int (nI (P / S))), (0, .ref d0), (1, .int (nI a)), (2, .int (nI (a + n)))]) C dX0_runCut_5 rfl (by decide) rfl ?_
  refine V_aload_n C 1 dX0_runCut_6 rfl rfl ?_
  refine V_iload_n C 3 dX0_runCut_7 rfl rfl ?_
  refine V_callVi (q0 := 0) (na := 1) (As := [.int (nI (a + n))]) (rest := []) (wr := []) C (c_X0_behind g d0 (nI f) (nI r) (nI (w9 * q9)) bw bt tk (nI dd) (nI w9) (nI q9) P S (a + n) (show 1 ≤ S from by first | assumption | omega | exact ix_nI (by omega) (by omega) | decide) (show S ≤ 9999 from by first | assumption | omega | exact ix_nI (by omega) (by omega) | decide) (by have := hpa (a + n) (by omega); omega)) ⟨⟨ini_X0, co_X0_behind, ⟨by decide, by decide, by decide +kernel⟩, by decide⟩, ml_X0_78, im_X0_behind, se_X0_behind⟩ [0] [] rfl rfl rfl rfl (by decide) rfl rfl rfl rfl (Nat.le_of_ble_eq_true rfl) (by omega) (by omega) dX0_runCut_8 (fun r_3 w_ hw_4 => ?_)
  obtain ⟨rfl, rfl⟩ := hw_4
  refine V_to (ws2 := [(d0, .inr (0, [.int (nI f), .int (nI r), .int (nI (w9 * q9)), .int bw, .int bt, .int tk, .int (nI P), .int (nI S), .int (nI dd), .int (nI w9), .int (nI q9)]))]) ?_ rfl
  refine V_aload_n C 1 dX0_runCut_11 rfl rfl ?_
  refine V_iload_n C 2 dX0_runCut_12 rfl rfl ?_
  refine V_callVi (q0 := 0) (na := 1) (As := [.int (nI a)]) (rest := [.int (nI (P * (a + n) / S))]) (wr := []) C (c_X0_behind g d0 (nI f) (nI r) (nI (w9 * q9)) bw bt tk (nI dd) (nI w9) (nI q9) P S a (show 1 ≤ S from by first | assumption | omega | exact ix_nI (by omega) (by omega) | decide) (show S ≤ 9999 from by first | assumption | omega | exact ix_nI (by omega) (by omega) | decide) (by have := hpa a (by omega); omega)) ⟨⟨ini_X0, co_X0_behind, ⟨by decide, by decide, by decide +kernel⟩, by decide⟩, ml_X0_78, im_X0_behind, se_X0_behind⟩ [0] [] rfl rfl rfl rfl (by decide) rfl rfl rfl rfl (Nat.le_of_ble_eq_true rfl) (by omega) (by omega) dX0_runCut_13 (fun r_5 w_ hw_6 => ?_)
  obtain ⟨rfl, rfl⟩ := hw_6
  refine V_to (ws2 := [(d0, .inr (0, [.int (nI f), .int (nI r), .int (nI (w9 * q9)), .int bw, .int bt, .int tk, .int (nI P), .int (nI S), .int (nI dd), .int (nI w9), .int (nI q9)]))]) ?_ rfl
  refine V_isub C dX0_runCut_16 ?_
  refine V_ev (show ((nI (P * (a + n) / S)) - (nI (P * a / S)) : Int32) = nI (P * (a + n) / S - P * a / S) from pk_sub hmono) ?_
  refine V_iload_n C 0 dX0_runCut_17 rfl rfl ?_
  refine V_iload_n C 3 dX0_runCut_18 rfl rfl ?_
  refine V_iload_n C 2 dX0_runCut_19 rfl rfl ?_
  refine V_isub C dX0_runCut_20 ?_
  refine V_ev (show ((nI (a + n)) - (nI a) : Int32) = nI n from (pk_sub (by omega)).trans (by rw [Nat.add_sub_cancel_left])) ?_
  refine V_imul C dX0_runCut_21 ?_
  refine V_ev (show ((nI (P / S)) * (nI n) : Int32) = nI ((P / S) * n) from pk_mul (P / S) n) ?_
  refine V_isub C dX0_runCut_22 ?_
  refine V_ev (show ((nI (P * (a + n) / S - P * a / S)) - (nI ((P / S) * n)) : Int32) = nI mo from by rw [hmo]; exact pk_sub g1) ?_
  refine V_istore (L2 := [(4, .int (nI mo)), (3, .int (nI (P / S))), (0, .ref d0), (1, .int (nI a)), (2, .int (nI (a + n)))]) C dX0_runCut_23 (by decide) rfl ?_
  refine V_aload_n C 2 dX0_runCut_25 rfl rfl ?_
  refine V_get (v := .int tk) C 0 rfl rfl in_X0 5 (by decide) fl_X0_31 rfl rfl dX0_runCut_26 ?_
  refine V_if_eq (tgt := 52) C dX0_runCut_29 (by decide) (fun c_29 => ?_) (fun c_29 => ?_)
  · refine V_aload_n C 2 dX0_runCut_52 rfl rfl ?_
    refine V_iload_n C 4 dX0_runCut_53 rfl rfl ?_
    refine V_iload_n C 3 dX0_runCut_54 rfl rfl ?_
    refine V_isub C dX0_runCut_55 ?_
    refine V_ev (show ((nI (a + n)) - (nI a) : Int32) = nI n from (pk_sub (by omega)).trans (by rw [Nat.add_sub_cancel_left])) ?_
    refine V_iload C 0 dX0_runCut_56 rfl ?_
    refine V_isub C dX0_runCut_58 ?_
    refine V_ev (show ((nI n) - (nI mo) : Int32) = nI (n - mo) from pk_sub g2) ?_
    refine V_aload_n C 2 dX0_runCut_59 rfl rfl ?_
    refine V_iload_n C 1 dX0_runCut_60 rfl rfl ?_
    refine V_callVi (q0 := 0) (na := 1) (As := [.int (nI (P / S))]) (rest := [.int (nI (n - mo)), .ref d0]) (wr := []) C (c_X0_gain g d0 (nI f) (nI r) (nI (w9 * q9)) bw bt tk (nI P) (nI S) (nI dd) w9 q9 (P / S) (show (P / S) ≤ 10000 from by first | assumption | omega | exact ix_nI (by omega) (by omega) | decide) (show w9 ≤ 999 from by first | assumption | omega | exact ix_nI (by omega) (by omega) | decide) (show q9 ≤ 999 from by first | assumption | omega | exact ix_nI (by omega) (by omega) | decide)) ⟨⟨ini_X0, co_X0_gain, ⟨by decide, by decide, by decide +kernel⟩, by decide⟩, ml_X0_85, im_X0_gain, se_X0_gain⟩ [0] [] rfl rfl rfl rfl (by decide) rfl rfl rfl rfl (Nat.le_of_ble_eq_true rfl) (by omega) (by omega) dX0_runCut_61 (fun r_7 w_ hw_8 => ?_)
    obtain ⟨rfl, rfl⟩ := hw_8
    refine V_to (ws2 := [(d0, .inr (0, [.int (nI f), .int (nI r), .int (nI (w9 * q9)), .int bw, .int bt, .int tk, .int (nI P), .int (nI S), .int (nI dd), .int (nI w9), .int (nI q9)]))]) ?_ rfl
    refine V_imul C dX0_runCut_64 ?_
    refine V_ev (show ((nI (n - mo)) * (nI (gn w9 q9 (P / S))) : Int32) = nI ((n - mo) * (gn w9 q9 (P / S))) from pk_mul (n - mo) (gn w9 q9 (P / S))) ?_
    refine V_iload C 0 dX0_runCut_65 rfl ?_
    refine V_aload_n C 2 dX0_runCut_67 rfl rfl ?_
    refine V_iload_n C 1 dX0_runCut_68 rfl rfl ?_
    refine V_iconst (v := 1) C dX0_runCut_69 (by decide) ?_
    refine V_iadd C dX0_runCut_70 ?_
    refine V_ev (show ((nI (P / S)) + 1 : Int32) = nI ((P / S) + 1) from nI_add (P / S) 1) ?_
    refine V_callVi (q0 := 0) (na := 1) (As := [.int (nI ((P / S) + 1))]) (rest := [.int (nI mo), .int (nI ((n - mo) * (gn w9 q9 (P / S)))), .ref d0]) (wr := []) C (c_X0_gain g d0 (nI f) (nI r) (nI (w9 * q9)) bw bt tk (nI P) (nI S) (nI dd) w9 q9 ((P / S) + 1) (show ((P / S) + 1) ≤ 10000 from by first | assumption | omega | exact ix_nI (by omega) (by omega) | decide) (show w9 ≤ 999 from by first | assumption | omega | exact ix_nI (by omega) (by omega) | decide) (show q9 ≤ 999 from by first | assumption | omega | exact ix_nI (by omega) (by omega) | decide)) ⟨⟨ini_X0, co_X0_gain, ⟨by decide, by decide, by decide +kernel⟩, by decide⟩, ml_X0_85, im_X0_gain, se_X0_gain⟩ [0] [] rfl rfl rfl rfl (by decide) rfl rfl rfl rfl (Nat.le_of_ble_eq_true rfl) (by omega) (by omega) dX0_runCut_71 (fun r_9 w_ hw_10 => ?_)
    obtain ⟨rfl, rfl⟩ := hw_10
    refine V_to (ws2 := [(d0, .inr (0, [.int (nI f), .int (nI r), .int (nI (w9 * q9)), .int bw, .int bt, .int tk, .int (nI P), .int (nI S), .int (nI dd), .int (nI w9), .int (nI q9)]))]) ?_ rfl
    refine V_imul C dX0_runCut_74 ?_
    refine V_ev (show ((nI mo) * (nI (gn w9 q9 ((P / S) + 1))) : Int32) = nI (mo * (gn w9 q9 ((P / S) + 1))) from pk_mul mo (gn w9 q9 ((P / S) + 1))) ?_
    refine V_iadd C dX0_runCut_75 ?_
    refine V_ev (show ((nI ((n - mo) * (gn w9 q9 (P / S)))) + (nI (mo * (gn w9 q9 ((P / S) + 1)))) : Int32) = nI (Gm w9 q9 P S a n) from by rw [g3]; exact nI_add _ _) ?_
    refine V_aload_n C 2 dX0_runCut_76 rfl rfl ?_
    refine V_iload_n C 1 dX0_runCut_77 rfl rfl ?_
    refine V_callVi (q0 := 0) (na := 1) (As := [.int (nI (P / S))]) (rest := [.int (nI (Gm w9 q9 P S a n)), .ref d0]) (wr := []) C (c_X0_isByWay g d0 (nI f) (nI r) (nI (w9 * q9)) bw bt tk (nI P) (nI S) (nI dd) w9 q9 (P / S) (show (P / S) ≤ 10000 from by first | assumption | omega | exact ix_nI (by omega) (by omega) | decide) (show w9 ≤ 999 from by first | assumption | omega | exact ix_nI (by omega) (by omega) | decide) (show q9 ≤ 999 from by first | assumption | omega | exact ix_nI (by omega) (by omega) | decide)) ⟨⟨ini_X0, co_X0_isByWay, ⟨by decide, by decide, by decide +kernel⟩, by decide⟩, ml_X0_81, im_X0_isByWay, se_X0_isByWay⟩ [0] [] rfl rfl rfl rfl (by decide) rfl rfl rfl rfl (Nat.le_of_ble_eq_true rfl) (by omega) (by omega) dX0_runCut_78 (fun r_11 w_ hw_12 => ?_)
    rcases hw_12 with ⟨hf12_0, rfl, rfl⟩ | ⟨hf12_0, rfl, rfl⟩
    · refine V_to (ws2 := [(d0, .inr (0, [.int (nI f), .int (nI r), .int (nI (w9 * q9)), .int bw, .int bt, .int tk, .int (nI P), .int (nI S), .int (nI dd), .int (nI w9), .int (nI q9)]))]) ?_ rfl
      refine V_callVv (q0 := 0) (na := 2) (As := [.int (nI (Gm w9 q9 P S a n)), .int 1]) (rest := []) (wr := []) C (c_X0_grow g d0 bw bt tk (nI P) (nI S) (nI w9) (nI q9) f r (w9 * q9) dd (Gm w9 q9 P S a n) 1 ((cut_b1 hC hT hr0).1) b1 (show (w9 * q9) < 2 ^ 31 from by first | assumption | omega | exact ix_nI (by omega) (by omega) | decide) (show f ≤ 9999999 from by first | assumption | omega | exact ix_nI (by omega) (by omega) | decide) ((cut_b1 hC hT hr0).2) (show dd ≤ 99 from by first | assumption | omega | exact ix_nI (by omega) (by omega) | decide)) ⟨⟨ini_X0, co_X0_grow, ⟨by decide, by decide, by decide +kernel⟩, by decide⟩, ml_X0_88, im_X0_grow, se_X0_grow⟩ [0] [] rfl rfl rfl rfl (by decide) rfl rfl rfl rfl (Nat.le_of_ble_eq_true rfl) (by omega) (by omega) dX0_runCut_81 (fun w_ hw_14 => ?_)
      rcases hw_14 with ⟨hf14_0, rfl⟩ | ⟨hf14_0, rfl⟩
      · refine V_to (ws2 := [(d0, .inr (0, [.int (nI (min 9999999 (f + (r + (Gm w9 q9 P S a n)) / (w9 * q9) * dd))), .int (nI ((r + (Gm w9 q9 P S a n)) % (w9 * q9))), .int (nI (w9 * q9)), .int (bw + nI ((r + (Gm w9 q9 P S a n)) / (w9 * q9))), .int bt, .int tk, .int (nI P), .int (nI S), .int (nI dd), .int (nI w9), .int (nI q9)]))]) ?_ rfl
        refine hret _ _ _ dX0_runCut_84 ?_
        exact ⟨bw + nI ((r + (Gm w9 q9 P S a n)) / (w9 * q9)), bt, fun h9 => absurd c_29 h9, rfl⟩
      · refine V_to (ws2 := [(d0, .inr (0, [.int (nI (min 9999999 (f + (r + (Gm w9 q9 P S a n)) / (w9 * q9) * dd))), .int (nI ((r + (Gm w9 q9 P S a n)) % (w9 * q9))), .int (nI (w9 * q9)), .int bw, .int (bt + nI ((r + (Gm w9 q9 P S a n)) / (w9 * q9))), .int tk, .int (nI P), .int (nI S), .int (nI dd), .int (nI w9), .int (nI q9)]))]) ?_ rfl
        exact absurd hf14_0 (by decide)
    · refine V_to (ws2 := [(d0, .inr (0, [.int (nI f), .int (nI r), .int (nI (w9 * q9)), .int bw, .int bt, .int tk, .int (nI P), .int (nI S), .int (nI dd), .int (nI w9), .int (nI q9)]))]) ?_ rfl
      refine V_callVv (q0 := 0) (na := 2) (As := [.int (nI (Gm w9 q9 P S a n)), .int 0]) (rest := []) (wr := []) C (c_X0_grow g d0 bw bt tk (nI P) (nI S) (nI w9) (nI q9) f r (w9 * q9) dd (Gm w9 q9 P S a n) 0 ((cut_b1 hC hT hr0).1) b1 (show (w9 * q9) < 2 ^ 31 from by first | assumption | omega | exact ix_nI (by omega) (by omega) | decide) (show f ≤ 9999999 from by first | assumption | omega | exact ix_nI (by omega) (by omega) | decide) ((cut_b1 hC hT hr0).2) (show dd ≤ 99 from by first | assumption | omega | exact ix_nI (by omega) (by omega) | decide)) ⟨⟨ini_X0, co_X0_grow, ⟨by decide, by decide, by decide +kernel⟩, by decide⟩, ml_X0_88, im_X0_grow, se_X0_grow⟩ [0] [] rfl rfl rfl rfl (by decide) rfl rfl rfl rfl (Nat.le_of_ble_eq_true rfl) (by omega) (by omega) dX0_runCut_81 (fun w_ hw_16 => ?_)
      rcases hw_16 with ⟨hf16_0, rfl⟩ | ⟨hf16_0, rfl⟩
      · refine V_to (ws2 := [(d0, .inr (0, [.int (nI (min 9999999 (f + (r + (Gm w9 q9 P S a n)) / (w9 * q9) * dd))), .int (nI ((r + (Gm w9 q9 P S a n)) % (w9 * q9))), .int (nI (w9 * q9)), .int (bw + nI ((r + (Gm w9 q9 P S a n)) / (w9 * q9))), .int bt, .int tk, .int (nI P), .int (nI S), .int (nI dd), .int (nI w9), .int (nI q9)]))]) ?_ rfl
        exact absurd rfl hf16_0
      · refine V_to (ws2 := [(d0, .inr (0, [.int (nI (min 9999999 (f + (r + (Gm w9 q9 P S a n)) / (w9 * q9) * dd))), .int (nI ((r + (Gm w9 q9 P S a n)) % (w9 * q9))), .int (nI (w9 * q9)), .int bw, .int (bt + nI ((r + (Gm w9 q9 P S a n)) / (w9 * q9))), .int tk, .int (nI P), .int (nI S), .int (nI dd), .int (nI w9), .int (nI q9)]))]) ?_ rfl
        refine hret _ _ _ dX0_runCut_84 ?_
        exact ⟨bw, bt + nI ((r + (Gm w9 q9 P S a n)) / (w9 * q9)), fun h9 => absurd c_29 h9, rfl⟩
  · refine V_iload C 0 dX0_runCut_32 rfl ?_
    refine V_if_eq (tgt := 52) C dX0_runCut_34 (by decide) (fun c_34 => ?_) (fun c_34 => ?_)
    · refine V_aload_n C 2 dX0_runCut_52 rfl rfl ?_
      refine V_iload_n C 4 dX0_runCut_53 rfl rfl ?_
      refine V_iload_n C 3 dX0_runCut_54 rfl rfl ?_
      refine V_isub C dX0_runCut_55 ?_
      refine V_ev (show ((nI (a + n)) - (nI a) : Int32) = nI n from (pk_sub (by omega)).trans (by rw [Nat.add_sub_cancel_left])) ?_
      refine V_iload C 0 dX0_runCut_56 rfl ?_
      refine V_isub C dX0_runCut_58 ?_
      refine V_ev (show ((nI n) - (nI mo) : Int32) = nI (n - mo) from pk_sub g2) ?_
      refine V_aload_n C 2 dX0_runCut_59 rfl rfl ?_
      refine V_iload_n C 1 dX0_runCut_60 rfl rfl ?_
      refine V_callVi (q0 := 0) (na := 1) (As := [.int (nI (P / S))]) (rest := [.int (nI (n - mo)), .ref d0]) (wr := []) C (c_X0_gain g d0 (nI f) (nI r) (nI (w9 * q9)) bw bt tk (nI P) (nI S) (nI dd) w9 q9 (P / S) (show (P / S) ≤ 10000 from by first | assumption | omega | exact ix_nI (by omega) (by omega) | decide) (show w9 ≤ 999 from by first | assumption | omega | exact ix_nI (by omega) (by omega) | decide) (show q9 ≤ 999 from by first | assumption | omega | exact ix_nI (by omega) (by omega) | decide)) ⟨⟨ini_X0, co_X0_gain, ⟨by decide, by decide, by decide +kernel⟩, by decide⟩, ml_X0_85, im_X0_gain, se_X0_gain⟩ [0] [] rfl rfl rfl rfl (by decide) rfl rfl rfl rfl (Nat.le_of_ble_eq_true rfl) (by omega) (by omega) dX0_runCut_61 (fun r_17 w_ hw_18 => ?_)
      obtain ⟨rfl, rfl⟩ := hw_18
      refine V_to (ws2 := [(d0, .inr (0, [.int (nI f), .int (nI r), .int (nI (w9 * q9)), .int bw, .int bt, .int tk, .int (nI P), .int (nI S), .int (nI dd), .int (nI w9), .int (nI q9)]))]) ?_ rfl
      refine V_imul C dX0_runCut_64 ?_
      refine V_ev (show ((nI (n - mo)) * (nI (gn w9 q9 (P / S))) : Int32) = nI ((n - mo) * (gn w9 q9 (P / S))) from pk_mul (n - mo) (gn w9 q9 (P / S))) ?_
      refine V_iload C 0 dX0_runCut_65 rfl ?_
      refine V_aload_n C 2 dX0_runCut_67 rfl rfl ?_
      refine V_iload_n C 1 dX0_runCut_68 rfl rfl ?_
      refine V_iconst (v := 1) C dX0_runCut_69 (by decide) ?_
      refine V_iadd C dX0_runCut_70 ?_
      refine V_ev (show ((nI (P / S)) + 1 : Int32) = nI ((P / S) + 1) from nI_add (P / S) 1) ?_
      refine V_callVi (q0 := 0) (na := 1) (As := [.int (nI ((P / S) + 1))]) (rest := [.int (nI mo), .int (nI ((n - mo) * (gn w9 q9 (P / S)))), .ref d0]) (wr := []) C (c_X0_gain g d0 (nI f) (nI r) (nI (w9 * q9)) bw bt tk (nI P) (nI S) (nI dd) w9 q9 ((P / S) + 1) (show ((P / S) + 1) ≤ 10000 from by first | assumption | omega | exact ix_nI (by omega) (by omega) | decide) (show w9 ≤ 999 from by first | assumption | omega | exact ix_nI (by omega) (by omega) | decide) (show q9 ≤ 999 from by first | assumption | omega | exact ix_nI (by omega) (by omega) | decide)) ⟨⟨ini_X0, co_X0_gain, ⟨by decide, by decide, by decide +kernel⟩, by decide⟩, ml_X0_85, im_X0_gain, se_X0_gain⟩ [0] [] rfl rfl rfl rfl (by decide) rfl rfl rfl rfl (Nat.le_of_ble_eq_true rfl) (by omega) (by omega) dX0_runCut_71 (fun r_19 w_ hw_20 => ?_)
      obtain ⟨rfl, rfl⟩ := hw_20
      refine V_to (ws2 := [(d0, .inr (0, [.int (nI f), .int (nI r), .int (nI (w9 * q9)), .int bw, .int bt, .int tk, .int (nI P), .int (nI S), .int (nI dd), .int (nI w9), .int (nI q9)]))]) ?_ rfl
      refine V_imul C dX0_runCut_74 ?_
      refine V_ev (show ((nI mo) * (nI (gn w9 q9 ((P / S) + 1))) : Int32) = nI (mo * (gn w9 q9 ((P / S) + 1))) from pk_mul mo (gn w9 q9 ((P / S) + 1))) ?_
      refine V_iadd C dX0_runCut_75 ?_
      refine V_ev (show ((nI ((n - mo) * (gn w9 q9 (P / S)))) + (nI (mo * (gn w9 q9 ((P / S) + 1)))) : Int32) = nI (Gm w9 q9 P S a n) from by rw [g3]; exact nI_add _ _) ?_
      refine V_aload_n C 2 dX0_runCut_76 rfl rfl ?_
      refine V_iload_n C 1 dX0_runCut_77 rfl rfl ?_
      refine V_callVi (q0 := 0) (na := 1) (As := [.int (nI (P / S))]) (rest := [.int (nI (Gm w9 q9 P S a n)), .ref d0]) (wr := []) C (c_X0_isByWay g d0 (nI f) (nI r) (nI (w9 * q9)) bw bt tk (nI P) (nI S) (nI dd) w9 q9 (P / S) (show (P / S) ≤ 10000 from by first | assumption | omega | exact ix_nI (by omega) (by omega) | decide) (show w9 ≤ 999 from by first | assumption | omega | exact ix_nI (by omega) (by omega) | decide) (show q9 ≤ 999 from by first | assumption | omega | exact ix_nI (by omega) (by omega) | decide)) ⟨⟨ini_X0, co_X0_isByWay, ⟨by decide, by decide, by decide +kernel⟩, by decide⟩, ml_X0_81, im_X0_isByWay, se_X0_isByWay⟩ [0] [] rfl rfl rfl rfl (by decide) rfl rfl rfl rfl (Nat.le_of_ble_eq_true rfl) (by omega) (by omega) dX0_runCut_78 (fun r_21 w_ hw_22 => ?_)
      rcases hw_22 with ⟨hf22_0, rfl, rfl⟩ | ⟨hf22_0, rfl, rfl⟩
      · refine V_to (ws2 := [(d0, .inr (0, [.int (nI f), .int (nI r), .int (nI (w9 * q9)), .int bw, .int bt, .int tk, .int (nI P), .int (nI S), .int (nI dd), .int (nI w9), .int (nI q9)]))]) ?_ rfl
        refine V_callVv (q0 := 0) (na := 2) (As := [.int (nI (Gm w9 q9 P S a n)), .int 1]) (rest := []) (wr := []) C (c_X0_grow g d0 bw bt tk (nI P) (nI S) (nI w9) (nI q9) f r (w9 * q9) dd (Gm w9 q9 P S a n) 1 ((cut_b1 hC hT hr0).1) b1 (show (w9 * q9) < 2 ^ 31 from by first | assumption | omega | exact ix_nI (by omega) (by omega) | decide) (show f ≤ 9999999 from by first | assumption | omega | exact ix_nI (by omega) (by omega) | decide) ((cut_b1 hC hT hr0).2) (show dd ≤ 99 from by first | assumption | omega | exact ix_nI (by omega) (by omega) | decide)) ⟨⟨ini_X0, co_X0_grow, ⟨by decide, by decide, by decide +kernel⟩, by decide⟩, ml_X0_88, im_X0_grow, se_X0_grow⟩ [0] [] rfl rfl rfl rfl (by decide) rfl rfl rfl rfl (Nat.le_of_ble_eq_true rfl) (by omega) (by omega) dX0_runCut_81 (fun w_ hw_24 => ?_)
        rcases hw_24 with ⟨hf24_0, rfl⟩ | ⟨hf24_0, rfl⟩
        · refine V_to (ws2 := [(d0, .inr (0, [.int (nI (min 9999999 (f + (r + (Gm w9 q9 P S a n)) / (w9 * q9) * dd))), .int (nI ((r + (Gm w9 q9 P S a n)) % (w9 * q9))), .int (nI (w9 * q9)), .int (bw + nI ((r + (Gm w9 q9 P S a n)) / (w9 * q9))), .int bt, .int tk, .int (nI P), .int (nI S), .int (nI dd), .int (nI w9), .int (nI q9)]))]) ?_ rfl
          refine hret _ _ _ dX0_runCut_84 ?_
          exact ⟨bw + nI ((r + (Gm w9 q9 P S a n)) / (w9 * q9)), bt, fun _ x y h44 h45 => cut_way hd hC hT h39 hf hcar hr0 h44 h45 (cut_allW hS1 (Or.inl ⟨hmo.symm.trans ((nI_eq (b := 0) (by omega) (by omega)).mp c_34), hf22_0⟩)), rfl⟩
        · refine V_to (ws2 := [(d0, .inr (0, [.int (nI (min 9999999 (f + (r + (Gm w9 q9 P S a n)) / (w9 * q9) * dd))), .int (nI ((r + (Gm w9 q9 P S a n)) % (w9 * q9))), .int (nI (w9 * q9)), .int bw, .int (bt + nI ((r + (Gm w9 q9 P S a n)) / (w9 * q9))), .int tk, .int (nI P), .int (nI S), .int (nI dd), .int (nI w9), .int (nI q9)]))]) ?_ rfl
          exact absurd hf24_0 (by decide)
      · refine V_to (ws2 := [(d0, .inr (0, [.int (nI f), .int (nI r), .int (nI (w9 * q9)), .int bw, .int bt, .int tk, .int (nI P), .int (nI S), .int (nI dd), .int (nI w9), .int (nI q9)]))]) ?_ rfl
        refine V_callVv (q0 := 0) (na := 2) (As := [.int (nI (Gm w9 q9 P S a n)), .int 0]) (rest := []) (wr := []) C (c_X0_grow g d0 bw bt tk (nI P) (nI S) (nI w9) (nI q9) f r (w9 * q9) dd (Gm w9 q9 P S a n) 0 ((cut_b1 hC hT hr0).1) b1 (show (w9 * q9) < 2 ^ 31 from by first | assumption | omega | exact ix_nI (by omega) (by omega) | decide) (show f ≤ 9999999 from by first | assumption | omega | exact ix_nI (by omega) (by omega) | decide) ((cut_b1 hC hT hr0).2) (show dd ≤ 99 from by first | assumption | omega | exact ix_nI (by omega) (by omega) | decide)) ⟨⟨ini_X0, co_X0_grow, ⟨by decide, by decide, by decide +kernel⟩, by decide⟩, ml_X0_88, im_X0_grow, se_X0_grow⟩ [0] [] rfl rfl rfl rfl (by decide) rfl rfl rfl rfl (Nat.le_of_ble_eq_true rfl) (by omega) (by omega) dX0_runCut_81 (fun w_ hw_26 => ?_)
        rcases hw_26 with ⟨hf26_0, rfl⟩ | ⟨hf26_0, rfl⟩
        · refine V_to (ws2 := [(d0, .inr (0, [.int (nI (min 9999999 (f + (r + (Gm w9 q9 P S a n)) / (w9 * q9) * dd))), .int (nI ((r + (Gm w9 q9 P S a n)) % (w9 * q9))), .int (nI (w9 * q9)), .int (bw + nI ((r + (Gm w9 q9 P S a n)) / (w9 * q9))), .int bt, .int tk, .int (nI P), .int (nI S), .int (nI dd), .int (nI w9), .int (nI q9)]))]) ?_ rfl
          exact absurd rfl hf26_0
        · refine V_to (ws2 := [(d0, .inr (0, [.int (nI (min 9999999 (f + (r + (Gm w9 q9 P S a n)) / (w9 * q9) * dd))), .int (nI ((r + (Gm w9 q9 P S a n)) % (w9 * q9))), .int (nI (w9 * q9)), .int bw, .int (bt + nI ((r + (Gm w9 q9 P S a n)) / (w9 * q9))), .int tk, .int (nI P), .int (nI S), .int (nI dd), .int (nI w9), .int (nI q9)]))]) ?_ rfl
          refine hret _ _ _ dX0_runCut_84 ?_
          exact ⟨bw, bt + nI ((r + (Gm w9 q9 P S a n)) / (w9 * q9)), fun _ x y h44 h45 => cut_time hd hC hT h39 hf hcar hr0 h44 h45 (cut_allT hS1 (Or.inl ⟨hmo.symm.trans ((nI_eq (b := 0) (by omega) (by omega)).mp c_34), hf22_0⟩)), rfl⟩
    · refine V_aload_n C 2 dX0_runCut_37 rfl rfl ?_
      refine V_iload_n C 1 dX0_runCut_38 rfl rfl ?_
      refine V_callVi (q0 := 0) (na := 1) (As := [.int (nI (P / S))]) (rest := []) (wr := []) C (c_X0_isByWay g d0 (nI f) (nI r) (nI (w9 * q9)) bw bt tk (nI P) (nI S) (nI dd) w9 q9 (P / S) (show (P / S) ≤ 10000 from by first | assumption | omega | exact ix_nI (by omega) (by omega) | decide) (show w9 ≤ 999 from by first | assumption | omega | exact ix_nI (by omega) (by omega) | decide) (show q9 ≤ 999 from by first | assumption | omega | exact ix_nI (by omega) (by omega) | decide)) ⟨⟨ini_X0, co_X0_isByWay, ⟨by decide, by decide, by decide +kernel⟩, by decide⟩, ml_X0_81, im_X0_isByWay, se_X0_isByWay⟩ [0] [] rfl rfl rfl rfl (by decide) rfl rfl rfl rfl (Nat.le_of_ble_eq_true rfl) (by omega) (by omega) dX0_runCut_39 (fun r_27 w_ hw_28 => ?_)
      rcases hw_28 with ⟨hf28_0, rfl, rfl⟩ | ⟨hf28_0, rfl, rfl⟩
      · refine V_to (ws2 := [(d0, .inr (0, [.int (nI f), .int (nI r), .int (nI (w9 * q9)), .int bw, .int bt, .int tk, .int (nI P), .int (nI S), .int (nI dd), .int (nI w9), .int (nI q9)]))]) ?_ rfl
        refine V_aload_n C 2 dX0_runCut_42 rfl rfl ?_
        refine V_iload_n C 1 dX0_runCut_43 rfl rfl ?_
        refine V_iconst (v := 1) C dX0_runCut_44 (by decide) ?_
        refine V_iadd C dX0_runCut_45 ?_
        refine V_ev (show ((nI (P / S)) + 1 : Int32) = nI ((P / S) + 1) from nI_add (P / S) 1) ?_
        refine V_callVi (q0 := 0) (na := 1) (As := [.int (nI ((P / S) + 1))]) (rest := [.int 1]) (wr := []) C (c_X0_isByWay g d0 (nI f) (nI r) (nI (w9 * q9)) bw bt tk (nI P) (nI S) (nI dd) w9 q9 ((P / S) + 1) (show ((P / S) + 1) ≤ 10000 from by first | assumption | omega | exact ix_nI (by omega) (by omega) | decide) (show w9 ≤ 999 from by first | assumption | omega | exact ix_nI (by omega) (by omega) | decide) (show q9 ≤ 999 from by first | assumption | omega | exact ix_nI (by omega) (by omega) | decide)) ⟨⟨ini_X0, co_X0_isByWay, ⟨by decide, by decide, by decide +kernel⟩, by decide⟩, ml_X0_81, im_X0_isByWay, se_X0_isByWay⟩ [0] [] rfl rfl rfl rfl (by decide) rfl rfl rfl rfl (Nat.le_of_ble_eq_true rfl) (by omega) (by omega) dX0_runCut_46 (fun r_29 w_ hw_30 => ?_)
        rcases hw_30 with ⟨hf30_0, rfl, rfl⟩ | ⟨hf30_0, rfl, rfl⟩
        · refine V_to (ws2 := [(d0, .inr (0, [.int (nI f), .int (nI r), .int (nI (w9 * q9)), .int bw, .int bt, .int tk, .int (nI P), .int (nI S), .int (nI dd), .int (nI w9), .int (nI q9)]))]) ?_ rfl
          refine V_icmp_ne (tgt := 85) C dX0_runCut_49 (by decide) (fun h => absurd rfl h) (fun _ => ?_)
          refine V_aload_n C 2 dX0_runCut_52 rfl rfl ?_
          refine V_iload_n C 4 dX0_runCut_53 rfl rfl ?_
          refine V_iload_n C 3 dX0_runCut_54 rfl rfl ?_
          refine V_isub C dX0_runCut_55 ?_
          refine V_ev (show ((nI (a + n)) - (nI a) : Int32) = nI n from (pk_sub (by omega)).trans (by rw [Nat.add_sub_cancel_left])) ?_
          refine V_iload C 0 dX0_runCut_56 rfl ?_
          refine V_isub C dX0_runCut_58 ?_
          refine V_ev (show ((nI n) - (nI mo) : Int32) = nI (n - mo) from pk_sub g2) ?_
          refine V_aload_n C 2 dX0_runCut_59 rfl rfl ?_
          refine V_iload_n C 1 dX0_runCut_60 rfl rfl ?_
          refine V_callVi (q0 := 0) (na := 1) (As := [.int (nI (P / S))]) (rest := [.int (nI (n - mo)), .ref d0]) (wr := []) C (c_X0_gain g d0 (nI f) (nI r) (nI (w9 * q9)) bw bt tk (nI P) (nI S) (nI dd) w9 q9 (P / S) (show (P / S) ≤ 10000 from by first | assumption | omega | exact ix_nI (by omega) (by omega) | decide) (show w9 ≤ 999 from by first | assumption | omega | exact ix_nI (by omega) (by omega) | decide) (show q9 ≤ 999 from by first | assumption | omega | exact ix_nI (by omega) (by omega) | decide)) ⟨⟨ini_X0, co_X0_gain, ⟨by decide, by decide, by decide +kernel⟩, by decide⟩, ml_X0_85, im_X0_gain, se_X0_gain⟩ [0] [] rfl rfl rfl rfl (by decide) rfl rfl rfl rfl (Nat.le_of_ble_eq_true rfl) (by omega) (by omega) dX0_runCut_61 (fun r_31 w_ hw_32 => ?_)
          obtain ⟨rfl, rfl⟩ := hw_32
          refine V_to (ws2 := [(d0, .inr (0, [.int (nI f), .int (nI r), .int (nI (w9 * q9)), .int bw, .int bt, .int tk, .int (nI P), .int (nI S), .int (nI dd), .int (nI w9), .int (nI q9)]))]) ?_ rfl
          refine V_imul C dX0_runCut_64 ?_
          refine V_ev (show ((nI (n - mo)) * (nI (gn w9 q9 (P / S))) : Int32) = nI ((n - mo) * (gn w9 q9 (P / S))) from pk_mul (n - mo) (gn w9 q9 (P / S))) ?_
          refine V_iload C 0 dX0_runCut_65 rfl ?_
          refine V_aload_n C 2 dX0_runCut_67 rfl rfl ?_
          refine V_iload_n C 1 dX0_runCut_68 rfl rfl ?_
          refine V_iconst (v := 1) C dX0_runCut_69 (by decide) ?_
          refine V_iadd C dX0_runCut_70 ?_
          refine V_ev (show ((nI (P / S)) + 1 : Int32) = nI ((P / S) + 1) from nI_add (P / S) 1) ?_
          refine V_callVi (q0 := 0) (na := 1) (As := [.int (nI ((P / S) + 1))]) (rest := [.int (nI mo), .int (nI ((n - mo) * (gn w9 q9 (P / S)))), .ref d0]) (wr := []) C (c_X0_gain g d0 (nI f) (nI r) (nI (w9 * q9)) bw bt tk (nI P) (nI S) (nI dd) w9 q9 ((P / S) + 1) (show ((P / S) + 1) ≤ 10000 from by first | assumption | omega | exact ix_nI (by omega) (by omega) | decide) (show w9 ≤ 999 from by first | assumption | omega | exact ix_nI (by omega) (by omega) | decide) (show q9 ≤ 999 from by first | assumption | omega | exact ix_nI (by omega) (by omega) | decide)) ⟨⟨ini_X0, co_X0_gain, ⟨by decide, by decide, by decide +kernel⟩, by decide⟩, ml_X0_85, im_X0_gain, se_X0_gain⟩ [0] [] rfl rfl rfl rfl (by decide) rfl rfl rfl rfl (Nat.le_of_ble_eq_true rfl) (by omega) (by omega) dX0_runCut_71 (fun r_33 w_ hw_34 => ?_)
          obtain ⟨rfl, rfl⟩ := hw_34
          refine V_to (ws2 := [(d0, .inr (0, [.int (nI f), .int (nI r), .int (nI (w9 * q9)), .int bw, .int bt, .int tk, .int (nI P), .int (nI S), .int (nI dd), .int (nI w9), .int (nI q9)]))]) ?_ rfl
          refine V_imul C dX0_runCut_74 ?_
          refine V_ev (show ((nI mo) * (nI (gn w9 q9 ((P / S) + 1))) : Int32) = nI (mo * (gn w9 q9 ((P / S) + 1))) from pk_mul mo (gn w9 q9 ((P / S) + 1))) ?_
          refine V_iadd C dX0_runCut_75 ?_
          refine V_ev (show ((nI ((n - mo) * (gn w9 q9 (P / S)))) + (nI (mo * (gn w9 q9 ((P / S) + 1)))) : Int32) = nI (Gm w9 q9 P S a n) from by rw [g3]; exact nI_add _ _) ?_
          refine V_aload_n C 2 dX0_runCut_76 rfl rfl ?_
          refine V_iload_n C 1 dX0_runCut_77 rfl rfl ?_
          refine V_callVi (q0 := 0) (na := 1) (As := [.int (nI (P / S))]) (rest := [.int (nI (Gm w9 q9 P S a n)), .ref d0]) (wr := []) C (c_X0_isByWay g d0 (nI f) (nI r) (nI (w9 * q9)) bw bt tk (nI P) (nI S) (nI dd) w9 q9 (P / S) (show (P / S) ≤ 10000 from by first | assumption | omega | exact ix_nI (by omega) (by omega) | decide) (show w9 ≤ 999 from by first | assumption | omega | exact ix_nI (by omega) (by omega) | decide) (show q9 ≤ 999 from by first | assumption | omega | exact ix_nI (by omega) (by omega) | decide)) ⟨⟨ini_X0, co_X0_isByWay, ⟨by decide, by decide, by decide +kernel⟩, by decide⟩, ml_X0_81, im_X0_isByWay, se_X0_isByWay⟩ [0] [] rfl rfl rfl rfl (by decide) rfl rfl rfl rfl (Nat.le_of_ble_eq_true rfl) (by omega) (by omega) dX0_runCut_78 (fun r_35 w_ hw_36 => ?_)
          rcases hw_36 with ⟨hf36_0, rfl, rfl⟩ | ⟨hf36_0, rfl, rfl⟩
          · refine V_to (ws2 := [(d0, .inr (0, [.int (nI f), .int (nI r), .int (nI (w9 * q9)), .int bw, .int bt, .int tk, .int (nI P), .int (nI S), .int (nI dd), .int (nI w9), .int (nI q9)]))]) ?_ rfl
            refine V_callVv (q0 := 0) (na := 2) (As := [.int (nI (Gm w9 q9 P S a n)), .int 1]) (rest := []) (wr := []) C (c_X0_grow g d0 bw bt tk (nI P) (nI S) (nI w9) (nI q9) f r (w9 * q9) dd (Gm w9 q9 P S a n) 1 ((cut_b1 hC hT hr0).1) b1 (show (w9 * q9) < 2 ^ 31 from by first | assumption | omega | exact ix_nI (by omega) (by omega) | decide) (show f ≤ 9999999 from by first | assumption | omega | exact ix_nI (by omega) (by omega) | decide) ((cut_b1 hC hT hr0).2) (show dd ≤ 99 from by first | assumption | omega | exact ix_nI (by omega) (by omega) | decide)) ⟨⟨ini_X0, co_X0_grow, ⟨by decide, by decide, by decide +kernel⟩, by decide⟩, ml_X0_88, im_X0_grow, se_X0_grow⟩ [0] [] rfl rfl rfl rfl (by decide) rfl rfl rfl rfl (Nat.le_of_ble_eq_true rfl) (by omega) (by omega) dX0_runCut_81 (fun w_ hw_38 => ?_)
            rcases hw_38 with ⟨hf38_0, rfl⟩ | ⟨hf38_0, rfl⟩
            · refine V_to (ws2 := [(d0, .inr (0, [.int (nI (min 9999999 (f + (r + (Gm w9 q9 P S a n)) / (w9 * q9) * dd))), .int (nI ((r + (Gm w9 q9 P S a n)) % (w9 * q9))), .int (nI (w9 * q9)), .int (bw + nI ((r + (Gm w9 q9 P S a n)) / (w9 * q9))), .int bt, .int tk, .int (nI P), .int (nI S), .int (nI dd), .int (nI w9), .int (nI q9)]))]) ?_ rfl
              refine hret _ _ _ dX0_runCut_84 ?_
              exact ⟨bw + nI ((r + (Gm w9 q9 P S a n)) / (w9 * q9)), bt, fun _ x y h44 h45 => cut_way hd hC hT h39 hf hcar hr0 h44 h45 (cut_allW hS1 (Or.inr ⟨hf28_0, hf30_0⟩)), rfl⟩
            · refine V_to (ws2 := [(d0, .inr (0, [.int (nI (min 9999999 (f + (r + (Gm w9 q9 P S a n)) / (w9 * q9) * dd))), .int (nI ((r + (Gm w9 q9 P S a n)) % (w9 * q9))), .int (nI (w9 * q9)), .int bw, .int (bt + nI ((r + (Gm w9 q9 P S a n)) / (w9 * q9))), .int tk, .int (nI P), .int (nI S), .int (nI dd), .int (nI w9), .int (nI q9)]))]) ?_ rfl
              exact absurd hf38_0 (by decide)
          · refine V_to (ws2 := [(d0, .inr (0, [.int (nI f), .int (nI r), .int (nI (w9 * q9)), .int bw, .int bt, .int tk, .int (nI P), .int (nI S), .int (nI dd), .int (nI w9), .int (nI q9)]))]) ?_ rfl
            exact absurd hf36_0 hf28_0
        · refine V_to (ws2 := [(d0, .inr (0, [.int (nI f), .int (nI r), .int (nI (w9 * q9)), .int bw, .int bt, .int tk, .int (nI P), .int (nI S), .int (nI dd), .int (nI w9), .int (nI q9)]))]) ?_ rfl
          refine V_icmp_ne (tgt := 85) C dX0_runCut_49 (by decide) (fun _ => ?_) (fun h => absurd h (by decide))
          refine V_iload_n C 3 dX0_runCut_85 rfl rfl ?_
          refine V_istore (L2 := [(5, .int (nI a)), (4, .int (nI mo)), (3, .int (nI (P / S))), (0, .ref d0), (1, .int (nI a)), (2, .int (nI (a + n)))]) C dX0_runCut_86 (by decide) rfl ?_
          refine V_to (ws2 := [(d0, .inr (0, [.int (nI (min 9999999 (f + (r + Gm w9 q9 P S a 0) / (w9 * q9) * dd))), .int (nI ((r + Gm w9 q9 P S a 0) % (w9 * q9))), .int (nI (w9 * q9)), .int bw, .int bt, .int tk, .int (nI P), .int (nI S), .int (nI dd), .int (nI w9), .int (nI q9)]))]) ?_ (by rw [hF0, hR0])
          have loop_88 : ∀ (fu_88 : Nat) (i : Nat) (bwi : Int32) (bti : Int32), (i ≤ n) → ((∀ x y : Int32, (drvZ z P S a).1 44 = x + bw → (drvZ z P S a).1 45 = y + bt → (drvZ z P S (a + i)).1 44 = x + bwi ∧ (drvZ z P S (a + i)).1 45 = y + bti)) → n - i < fu_88 → V g X 0 0 [(d0, .inr (0, [.int (nI (min 9999999 (f + (r + Gm w9 q9 P S a i) / (w9 * q9) * dd))), .int (nI ((r + Gm w9 q9 P S a i) % (w9 * q9))), .int (nI (w9 * q9)), .int bwi, .int bti, .int tk, .int (nI P), .int (nI S), .int (nI dd), .int (nI w9), .int (nI q9)]))] 88 [(0, .ref d0), (1, .int (nI a)), (2, .int (nI (a + n))), (5, .int (nI (a + i)))] [] := by
            intro fu_88
            induction fu_88 with
            | zero => intro i bwi bti hi hki0 hm; exact absurd hm (by omega)
            | succ fu_88 ih_88 =>
              intro i bwi bti hi hki0 hm
              refine V_iload C 3 dX0_runCut_88 rfl ?_
              refine V_iload_n C 2 dX0_runCut_90 rfl rfl ?_
              refine V_icmp_ge (tgt := 133) C dX0_runCut_91 (by decide) (fun c_91 => ?_) (fun c_91 => ?_)
              · have hi2 : i = n := by
                  have q9 := lp_ge (a + n) rfl (by omega) (by omega) c_91
                  omega
                have hki := fun (_ : ¬ tk = 0) => hki0
                refine hret _ _ _ dX0_runCut_133 ?_
                subst hi2
                exact ⟨bwi, bti, hki, rfl⟩
              · have hi2 : i < n := by
                  have q9 := lp_lt (a + n) rfl (by omega) (by omega) c_91
                  omega
                have hh9 : hr P S (a + i) ≤ 9999 := hr_b hP hS1 (by omega)
                refine V_aload_n C 0 dX0_runCut_94 rfl rfl ?_
                refine V_iload C 3 dX0_runCut_95 rfl ?_
                refine V_iconst (v := 1) C dX0_runCut_97 (by decide) ?_
                refine V_iadd C dX0_runCut_98 ?_
                refine V_ev (show ((nI (a + i)) + 1 : Int32) = nI ((a + i) + 1) from nI_add (a + i) 1) ?_
                refine V_callVi (q0 := 0) (na := 1) (As := [.int (nI ((a + i) + 1))]) (rest := []) (wr := []) C (c_X0_behind g d0 (nI (min 9999999 (f + (r + Gm w9 q9 P S a i) / (w9 * q9) * dd))) (nI ((r + Gm w9 q9 P S a i) % (w9 * q9))) (nI (w9 * q9)) bwi bti tk (nI dd) (nI w9) (nI q9) P S ((a + i) + 1) (show 1 ≤ S from by first | assumption | omega | exact ix_nI (by omega) (by omega) | decide) (show S ≤ 9999 from by first | assumption | omega | exact ix_nI (by omega) (by omega) | decide) (by have := hpa (a + i + 1) (by omega); omega)) ⟨⟨ini_X0, co_X0_behind, ⟨by decide, by decide, by decide +kernel⟩, by decide⟩, ml_X0_78, im_X0_behind, se_X0_behind⟩ [0] [] rfl rfl rfl rfl (by decide) rfl rfl rfl rfl (Nat.le_of_ble_eq_true rfl) (by omega) (by omega) dX0_runCut_99 (fun r_39 w_ hw_40 => ?_)
                obtain ⟨rfl, rfl⟩ := hw_40
                refine V_to (ws2 := [(d0, .inr (0, [.int (nI (min 9999999 (f + (r + Gm w9 q9 P S a i) / (w9 * q9) * dd))), .int (nI ((r + Gm w9 q9 P S a i) % (w9 * q9))), .int (nI (w9 * q9)), .int bwi, .int bti, .int tk, .int (nI P), .int (nI S), .int (nI dd), .int (nI w9), .int (nI q9)]))]) ?_ rfl
                refine V_aload_n C 0 dX0_runCut_102 rfl rfl ?_
                refine V_iload C 3 dX0_runCut_103 rfl ?_
                refine V_callVi (q0 := 0) (na := 1) (As := [.int (nI (a + i))]) (rest := [.int (nI (P * ((a + i) + 1) / S))]) (wr := []) C (c_X0_behind g d0 (nI (min 9999999 (f + (r + Gm w9 q9 P S a i) / (w9 * q9) * dd))) (nI ((r + Gm w9 q9 P S a i) % (w9 * q9))) (nI (w9 * q9)) bwi bti tk (nI dd) (nI w9) (nI q9) P S (a + i) (show 1 ≤ S from by first | assumption | omega | exact ix_nI (by omega) (by omega) | decide) (show S ≤ 9999 from by first | assumption | omega | exact ix_nI (by omega) (by omega) | decide) (by have := hpa (a + i) (by omega); omega)) ⟨⟨ini_X0, co_X0_behind, ⟨by decide, by decide, by decide +kernel⟩, by decide⟩, ml_X0_78, im_X0_behind, se_X0_behind⟩ [0] [] rfl rfl rfl rfl (by decide) rfl rfl rfl rfl (Nat.le_of_ble_eq_true rfl) (by omega) (by omega) dX0_runCut_105 (fun r_41 w_ hw_42 => ?_)
                obtain ⟨rfl, rfl⟩ := hw_42
                refine V_to (ws2 := [(d0, .inr (0, [.int (nI (min 9999999 (f + (r + Gm w9 q9 P S a i) / (w9 * q9) * dd))), .int (nI ((r + Gm w9 q9 P S a i) % (w9 * q9))), .int (nI (w9 * q9)), .int bwi, .int bti, .int tk, .int (nI P), .int (nI S), .int (nI dd), .int (nI w9), .int (nI q9)]))]) ?_ rfl
                refine V_isub C dX0_runCut_108 ?_
                refine V_ev (show ((nI (P * ((a + i) + 1) / S)) - (nI (P * (a + i) / S)) : Int32) = nI (hr P S (a + i)) from hr_I) ?_
                refine V_istore (L2 := [(6, .int (nI (hr P S (a + i)))), (0, .ref d0), (1, .int (nI a)), (2, .int (nI (a + n))), (5, .int (nI (a + i)))]) C dX0_runCut_109 (by decide) rfl ?_
                refine V_aload_n C 1 dX0_runCut_111 rfl rfl ?_
                refine V_aload_n C 1 dX0_runCut_112 rfl rfl ?_
                refine V_iload C 0 dX0_runCut_113 rfl ?_
                refine V_callVi (q0 := 0) (na := 1) (As := [.int (nI (hr P S (a + i)))]) (rest := [.ref d0]) (wr := []) C (c_X0_gain g d0 (nI (min 9999999 (f + (r + Gm w9 q9 P S a i) / (w9 * q9) * dd))) (nI ((r + Gm w9 q9 P S a i) % (w9 * q9))) (nI (w9 * q9)) bwi bti tk (nI P) (nI S) (nI dd) w9 q9 (hr P S (a + i)) (show (hr P S (a + i)) ≤ 10000 from by first | assumption | omega | exact ix_nI (by omega) (by omega) | decide) (show w9 ≤ 999 from by first | assumption | omega | exact ix_nI (by omega) (by omega) | decide) (show q9 ≤ 999 from by first | assumption | omega | exact ix_nI (by omega) (by omega) | decide)) ⟨⟨ini_X0, co_X0_gain, ⟨by decide, by decide, by decide +kernel⟩, by decide⟩, ml_X0_85, im_X0_gain, se_X0_gain⟩ [0] [] rfl rfl rfl rfl (by decide) rfl rfl rfl rfl (Nat.le_of_ble_eq_true rfl) (by omega) (by omega) dX0_runCut_115 (fun r_43 w_ hw_44 => ?_)
                obtain ⟨rfl, rfl⟩ := hw_44
                refine V_to (ws2 := [(d0, .inr (0, [.int (nI (min 9999999 (f + (r + Gm w9 q9 P S a i) / (w9 * q9) * dd))), .int (nI ((r + Gm w9 q9 P S a i) % (w9 * q9))), .int (nI (w9 * q9)), .int bwi, .int bti, .int tk, .int (nI P), .int (nI S), .int (nI dd), .int (nI w9), .int (nI q9)]))]) ?_ rfl
                refine V_aload_n C 1 dX0_runCut_118 rfl rfl ?_
                refine V_iload C 0 dX0_runCut_119 rfl ?_
                refine V_callVi (q0 := 0) (na := 1) (As := [.int (nI (hr P S (a + i)))]) (rest := [.int (nI (gn w9 q9 (hr P S (a + i)))), .ref d0]) (wr := []) C (c_X0_isByWay g d0 (nI (min 9999999 (f + (r + Gm w9 q9 P S a i) / (w9 * q9) * dd))) (nI ((r + Gm w9 q9 P S a i) % (w9 * q9))) (nI (w9 * q9)) bwi bti tk (nI P) (nI S) (nI dd) w9 q9 (hr P S (a + i)) (show (hr P S (a + i)) ≤ 10000 from by first | assumption | omega | exact ix_nI (by omega) (by omega) | decide) (show w9 ≤ 999 from by first | assumption | omega | exact ix_nI (by omega) (by omega) | decide) (show q9 ≤ 999 from by first | assumption | omega | exact ix_nI (by omega) (by omega) | decide)) ⟨⟨ini_X0, co_X0_isByWay, ⟨by decide, by decide, by decide +kernel⟩, by decide⟩, ml_X0_81, im_X0_isByWay, se_X0_isByWay⟩ [0] [] rfl rfl rfl rfl (by decide) rfl rfl rfl rfl (Nat.le_of_ble_eq_true rfl) (by omega) (by omega) dX0_runCut_121 (fun r_45 w_ hw_46 => ?_)
                rcases hw_46 with ⟨hf46_0, rfl, rfl⟩ | ⟨hf46_0, rfl, rfl⟩
                · refine V_to (ws2 := [(d0, .inr (0, [.int (nI (min 9999999 (f + (r + Gm w9 q9 P S a i) / (w9 * q9) * dd))), .int (nI ((r + Gm w9 q9 P S a i) % (w9 * q9))), .int (nI (w9 * q9)), .int bwi, .int bti, .int tk, .int (nI P), .int (nI S), .int (nI dd), .int (nI w9), .int (nI q9)]))]) ?_ rfl
                  refine V_callVv (q0 := 0) (na := 2) (As := [.int (nI (gn w9 q9 (hr P S (a + i)))), .int 1]) (rest := []) (wr := []) C (c_X0_grow g d0 bwi bti tk (nI P) (nI S) (nI w9) (nI q9) (min 9999999 (f + (r + Gm w9 q9 P S a i) / (w9 * q9) * dd)) ((r + Gm w9 q9 P S a i) % (w9 * q9)) (w9 * q9) dd (gn w9 q9 (hr P S (a + i))) 1 ((cut_b2 hw1 hw2 hq1 hq2 (Nat.mod_lt _ (by omega)) hh9).1) b1 (show (w9 * q9) < 2 ^ 31 from by first | assumption | omega | exact ix_nI (by omega) (by omega) | decide) (Nat.min_le_left _ _) ((cut_b2 hw1 hw2 hq1 hq2 (Nat.mod_lt _ (by omega)) hh9).2) (show dd ≤ 99 from by first | assumption | omega | exact ix_nI (by omega) (by omega) | decide)) ⟨⟨ini_X0, co_X0_grow, ⟨by decide, by decide, by decide +kernel⟩, by decide⟩, ml_X0_88, im_X0_grow, se_X0_grow⟩ [0] [] rfl rfl rfl rfl (by decide) rfl rfl rfl rfl (Nat.le_of_ble_eq_true rfl) (by omega) (by omega) dX0_runCut_124 (fun w_ hw_48 => ?_)
                  rcases hw_48 with ⟨hf48_0, rfl⟩ | ⟨hf48_0, rfl⟩
                  · refine V_to (ws2 := [(d0, .inr (0, [.int (nI (min 9999999 ((min 9999999 (f + (r + Gm w9 q9 P S a i) / (w9 * q9) * dd)) + (((r + Gm w9 q9 P S a i) % (w9 * q9)) + (gn w9 q9 (hr P S (a + i)))) / (w9 * q9) * dd))), .int (nI ((((r + Gm w9 q9 P S a i) % (w9 * q9)) + (gn w9 q9 (hr P S (a + i)))) % (w9 * q9))), .int (nI (w9 * q9)), .int (bwi + nI ((((r + Gm w9 q9 P S a i) % (w9 * q9)) + (gn w9 q9 (hr P S (a + i)))) / (w9 * q9))), .int bti, .int tk, .int (nI P), .int (nI S), .int (nI dd), .int (nI w9), .int (nI q9)]))]) ?_ rfl
                    refine V_to (ws2 := [(d0, .inr (0, [.int (nI (min 9999999 (f + (r + Gm w9 q9 P S a (i + 1)) / (w9 * q9) * dd))), .int (nI ((r + Gm w9 q9 P S a (i + 1)) % (w9 * q9))), .int (nI (w9 * q9)), .int (bwi + nI ((((r + Gm w9 q9 P S a i) % (w9 * q9)) + (gn w9 q9 (hr P S (a + i)))) / (w9 * q9))), .int bti, .int tk, .int (nI P), .int (nI S), .int (nI dd), .int (nI w9), .int (nI q9)]))]) ?_ (by rw [gst_r, gst_f (Nat.mul_pos hw1 hq1)])
                    refine V_iinc (v := nI ((a + i) + 1)) (L2 := [(5, .int (nI ((a + i) + 1))), (6, .int (nI (hr P S (a + i)))), (0, .ref d0), (1, .int (nI a)), (2, .int (nI (a + n)))]) C 4 dX0_runCut_127 rfl (nI_add (a + i) 1) (by decide) rfl ?_
                    refine V_goto (tgt := 88) C dX0_runCut_130 (by decide) ?_
                    refine V_locs (L2 := [(0, .ref d0), (1, .int (nI a)), (2, .int (nI (a + n))), (5, .int (nI ((a + i) + 1)))]) [2, 3, 4, 0] rfl ?_
                    exact ih_88 (i + 1) (bwi + nI ((((r + Gm w9 q9 P S a i) % (w9 * q9)) + (gn w9 q9 (hr P S (a + i)))) / (w9 * q9))) bti (show (i + 1) ≤ n from by first | assumption | omega | rfl) (fun x y h1 h2 => by
                        obtain ⟨k1, k2⟩ := hki0 x y h1 h2
                        obtain ⟨e1, e2⟩ := (cut_kind hd hC hT h39 hf hcar hr0 i hi2).2 hf46_0
                        rw [← Nat.add_assoc, e1, e2, k1, k2]
                        exact ⟨by first | rfl | exact Int32.add_assoc _ _ _, by first | rfl | exact Int32.add_assoc _ _ _⟩) (by omega)
                  · refine V_to (ws2 := [(d0, .inr (0, [.int (nI (min 9999999 ((min 9999999 (f + (r + Gm w9 q9 P S a i) / (w9 * q9) * dd)) + (((r + Gm w9 q9 P S a i) % (w9 * q9)) + (gn w9 q9 (hr P S (a + i)))) / (w9 * q9) * dd))), .int (nI ((((r + Gm w9 q9 P S a i) % (w9 * q9)) + (gn w9 q9 (hr P S (a + i)))) % (w9 * q9))), .int (nI (w9 * q9)), .int bwi, .int (bti + nI ((((r + Gm w9 q9 P S a i) % (w9 * q9)) + (gn w9 q9 (hr P S (a + i)))) / (w9 * q9))), .int tk, .int (nI P), .int (nI S), .int (nI dd), .int (nI w9), .int (nI q9)]))]) ?_ rfl
                    exact absurd hf48_0 (by decide)
                · refine V_to (ws2 := [(d0, .inr (0, [.int (nI (min 9999999 (f + (r + Gm w9 q9 P S a i) / (w9 * q9) * dd))), .int (nI ((r + Gm w9 q9 P S a i) % (w9 * q9))), .int (nI (w9 * q9)), .int bwi, .int bti, .int tk, .int (nI P), .int (nI S), .int (nI dd), .int (nI w9), .int (nI q9)]))]) ?_ rfl
                  refine V_callVv (q0 := 0) (na := 2) (As := [.int (nI (gn w9 q9 (hr P S (a + i)))), .int 0]) (rest := []) (wr := []) C (c_X0_grow g d0 bwi bti tk (nI P) (nI S) (nI w9) (nI q9) (min 9999999 (f + (r + Gm w9 q9 P S a i) / (w9 * q9) * dd)) ((r + Gm w9 q9 P S a i) % (w9 * q9)) (w9 * q9) dd (gn w9 q9 (hr P S (a + i))) 0 ((cut_b2 hw1 hw2 hq1 hq2 (Nat.mod_lt _ (by omega)) hh9).1) b1 (show (w9 * q9) < 2 ^ 31 from by first | assumption | omega | exact ix_nI (by omega) (by omega) | decide) (Nat.min_le_left _ _) ((cut_b2 hw1 hw2 hq1 hq2 (Nat.mod_lt _ (by omega)) hh9).2) (show dd ≤ 99 from by first | assumption | omega | exact ix_nI (by omega) (by omega) | decide)) ⟨⟨ini_X0, co_X0_grow, ⟨by decide, by decide, by decide +kernel⟩, by decide⟩, ml_X0_88, im_X0_grow, se_X0_grow⟩ [0] [] rfl rfl rfl rfl (by decide) rfl rfl rfl rfl (Nat.le_of_ble_eq_true rfl) (by omega) (by omega) dX0_runCut_124 (fun w_ hw_50 => ?_)
                  rcases hw_50 with ⟨hf50_0, rfl⟩ | ⟨hf50_0, rfl⟩
                  · refine V_to (ws2 := [(d0, .inr (0, [.int (nI (min 9999999 ((min 9999999 (f + (r + Gm w9 q9 P S a i) / (w9 * q9) * dd)) + (((r + Gm w9 q9 P S a i) % (w9 * q9)) + (gn w9 q9 (hr P S (a + i)))) / (w9 * q9) * dd))), .int (nI ((((r + Gm w9 q9 P S a i) % (w9 * q9)) + (gn w9 q9 (hr P S (a + i)))) % (w9 * q9))), .int (nI (w9 * q9)), .int (bwi + nI ((((r + Gm w9 q9 P S a i) % (w9 * q9)) + (gn w9 q9 (hr P S (a + i)))) / (w9 * q9))), .int bti, .int tk, .int (nI P), .int (nI S), .int (nI dd), .int (nI w9), .int (nI q9)]))]) ?_ rfl
                    exact absurd rfl hf50_0
                  · refine V_to (ws2 := [(d0, .inr (0, [.int (nI (min 9999999 ((min 9999999 (f + (r + Gm w9 q9 P S a i) / (w9 * q9) * dd)) + (((r + Gm w9 q9 P S a i) % (w9 * q9)) + (gn w9 q9 (hr P S (a + i)))) / (w9 * q9) * dd))), .int (nI ((((r + Gm w9 q9 P S a i) % (w9 * q9)) + (gn w9 q9 (hr P S (a + i)))) % (w9 * q9))), .int (nI (w9 * q9)), .int bwi, .int (bti + nI ((((r + Gm w9 q9 P S a i) % (w9 * q9)) + (gn w9 q9 (hr P S (a + i)))) / (w9 * q9))), .int tk, .int (nI P), .int (nI S), .int (nI dd), .int (nI w9), .int (nI q9)]))]) ?_ rfl
                    refine V_to (ws2 := [(d0, .inr (0, [.int (nI (min 9999999 (f + (r + Gm w9 q9 P S a (i + 1)) / (w9 * q9) * dd))), .int (nI ((r + Gm w9 q9 P S a (i + 1)) % (w9 * q9))), .int (nI (w9 * q9)), .int bwi, .int (bti + nI ((((r + Gm w9 q9 P S a i) % (w9 * q9)) + (gn w9 q9 (hr P S (a + i)))) / (w9 * q9))), .int tk, .int (nI P), .int (nI S), .int (nI dd), .int (nI w9), .int (nI q9)]))]) ?_ (by rw [gst_r, gst_f (Nat.mul_pos hw1 hq1)])
                    refine V_iinc (v := nI ((a + i) + 1)) (L2 := [(5, .int (nI ((a + i) + 1))), (6, .int (nI (hr P S (a + i)))), (0, .ref d0), (1, .int (nI a)), (2, .int (nI (a + n)))]) C 4 dX0_runCut_127 rfl (nI_add (a + i) 1) (by decide) rfl ?_
                    refine V_goto (tgt := 88) C dX0_runCut_130 (by decide) ?_
                    refine V_locs (L2 := [(0, .ref d0), (1, .int (nI a)), (2, .int (nI (a + n))), (5, .int (nI ((a + i) + 1)))]) [2, 3, 4, 0] rfl ?_
                    exact ih_88 (i + 1) bwi (bti + nI ((((r + Gm w9 q9 P S a i) % (w9 * q9)) + (gn w9 q9 (hr P S (a + i)))) / (w9 * q9))) (show (i + 1) ≤ n from by first | assumption | omega | rfl) (fun x y h1 h2 => by
                        obtain ⟨k1, k2⟩ := hki0 x y h1 h2
                        obtain ⟨e1, e2⟩ := (cut_kind hd hC hT h39 hf hcar hr0 i hi2).1 hf46_0
                        rw [← Nat.add_assoc, e1, e2, k1, k2]
                        exact ⟨by first | rfl | exact Int32.add_assoc _ _ _, by first | rfl | exact Int32.add_assoc _ _ _⟩) (by omega)
          refine V_locs (L2 := [(0, .ref d0), (1, .int (nI a)), (2, .int (nI (a + n))), (5, .int (nI (a + 0)))]) [3, 4, 5, 0] rfl ?_
          exact loop_88 (n - 0 + 1) 0 bw bt (show 0 ≤ n from by first | assumption | omega | rfl) (fun x y h1 h2 => ⟨h1, h2⟩) (by omega)
      · refine V_to (ws2 := [(d0, .inr (0, [.int (nI f), .int (nI r), .int (nI (w9 * q9)), .int bw, .int bt, .int tk, .int (nI P), .int (nI S), .int (nI dd), .int (nI w9), .int (nI q9)]))]) ?_ rfl
        refine V_aload_n C 2 dX0_runCut_42 rfl rfl ?_
        refine V_iload_n C 1 dX0_runCut_43 rfl rfl ?_
        refine V_iconst (v := 1) C dX0_runCut_44 (by decide) ?_
        refine V_iadd C dX0_runCut_45 ?_
        refine V_ev (show ((nI (P / S)) + 1 : Int32) = nI ((P / S) + 1) from nI_add (P / S) 1) ?_
        refine V_callVi (q0 := 0) (na := 1) (As := [.int (nI ((P / S) + 1))]) (rest := [.int 0]) (wr := []) C (c_X0_isByWay g d0 (nI f) (nI r) (nI (w9 * q9)) bw bt tk (nI P) (nI S) (nI dd) w9 q9 ((P / S) + 1) (show ((P / S) + 1) ≤ 10000 from by first | assumption | omega | exact ix_nI (by omega) (by omega) | decide) (show w9 ≤ 999 from by first | assumption | omega | exact ix_nI (by omega) (by omega) | decide) (show q9 ≤ 999 from by first | assumption | omega | exact ix_nI (by omega) (by omega) | decide)) ⟨⟨ini_X0, co_X0_isByWay, ⟨by decide, by decide, by decide +kernel⟩, by decide⟩, ml_X0_81, im_X0_isByWay, se_X0_isByWay⟩ [0] [] rfl rfl rfl rfl (by decide) rfl rfl rfl rfl (Nat.le_of_ble_eq_true rfl) (by omega) (by omega) dX0_runCut_46 (fun r_51 w_ hw_52 => ?_)
        rcases hw_52 with ⟨hf52_0, rfl, rfl⟩ | ⟨hf52_0, rfl, rfl⟩
        · refine V_to (ws2 := [(d0, .inr (0, [.int (nI f), .int (nI r), .int (nI (w9 * q9)), .int bw, .int bt, .int tk, .int (nI P), .int (nI S), .int (nI dd), .int (nI w9), .int (nI q9)]))]) ?_ rfl
          refine V_icmp_ne (tgt := 85) C dX0_runCut_49 (by decide) (fun _ => ?_) (fun h => absurd h (by decide))
          refine V_iload_n C 3 dX0_runCut_85 rfl rfl ?_
          refine V_istore (L2 := [(5, .int (nI a)), (4, .int (nI mo)), (3, .int (nI (P / S))), (0, .ref d0), (1, .int (nI a)), (2, .int (nI (a + n)))]) C dX0_runCut_86 (by decide) rfl ?_
          refine V_to (ws2 := [(d0, .inr (0, [.int (nI (min 9999999 (f + (r + Gm w9 q9 P S a 0) / (w9 * q9) * dd))), .int (nI ((r + Gm w9 q9 P S a 0) % (w9 * q9))), .int (nI (w9 * q9)), .int bw, .int bt, .int tk, .int (nI P), .int (nI S), .int (nI dd), .int (nI w9), .int (nI q9)]))]) ?_ (by rw [hF0, hR0])
          have loop_88 : ∀ (fu_88 : Nat) (i : Nat) (bwi : Int32) (bti : Int32), (i ≤ n) → ((∀ x y : Int32, (drvZ z P S a).1 44 = x + bw → (drvZ z P S a).1 45 = y + bt → (drvZ z P S (a + i)).1 44 = x + bwi ∧ (drvZ z P S (a + i)).1 45 = y + bti)) → n - i < fu_88 → V g X 0 0 [(d0, .inr (0, [.int (nI (min 9999999 (f + (r + Gm w9 q9 P S a i) / (w9 * q9) * dd))), .int (nI ((r + Gm w9 q9 P S a i) % (w9 * q9))), .int (nI (w9 * q9)), .int bwi, .int bti, .int tk, .int (nI P), .int (nI S), .int (nI dd), .int (nI w9), .int (nI q9)]))] 88 [(0, .ref d0), (1, .int (nI a)), (2, .int (nI (a + n))), (5, .int (nI (a + i)))] [] := by
            intro fu_88
            induction fu_88 with
            | zero => intro i bwi bti hi hki0 hm; exact absurd hm (by omega)
            | succ fu_88 ih_88 =>
              intro i bwi bti hi hki0 hm
              refine V_iload C 3 dX0_runCut_88 rfl ?_
              refine V_iload_n C 2 dX0_runCut_90 rfl rfl ?_
              refine V_icmp_ge (tgt := 133) C dX0_runCut_91 (by decide) (fun c_91 => ?_) (fun c_91 => ?_)
              · have hi2 : i = n := by
                  have q9 := lp_ge (a + n) rfl (by omega) (by omega) c_91
                  omega
                have hki := fun (_ : ¬ tk = 0) => hki0
                refine hret _ _ _ dX0_runCut_133 ?_
                subst hi2
                exact ⟨bwi, bti, hki, rfl⟩
              · have hi2 : i < n := by
                  have q9 := lp_lt (a + n) rfl (by omega) (by omega) c_91
                  omega
                have hh9 : hr P S (a + i) ≤ 9999 := hr_b hP hS1 (by omega)
                refine V_aload_n C 0 dX0_runCut_94 rfl rfl ?_
                refine V_iload C 3 dX0_runCut_95 rfl ?_
                refine V_iconst (v := 1) C dX0_runCut_97 (by decide) ?_
                refine V_iadd C dX0_runCut_98 ?_
                refine V_ev (show ((nI (a + i)) + 1 : Int32) = nI ((a + i) + 1) from nI_add (a + i) 1) ?_
                refine V_callVi (q0 := 0) (na := 1) (As := [.int (nI ((a + i) + 1))]) (rest := []) (wr := []) C (c_X0_behind g d0 (nI (min 9999999 (f + (r + Gm w9 q9 P S a i) / (w9 * q9) * dd))) (nI ((r + Gm w9 q9 P S a i) % (w9 * q9))) (nI (w9 * q9)) bwi bti tk (nI dd) (nI w9) (nI q9) P S ((a + i) + 1) (show 1 ≤ S from by first | assumption | omega | exact ix_nI (by omega) (by omega) | decide) (show S ≤ 9999 from by first | assumption | omega | exact ix_nI (by omega) (by omega) | decide) (by have := hpa (a + i + 1) (by omega); omega)) ⟨⟨ini_X0, co_X0_behind, ⟨by decide, by decide, by decide +kernel⟩, by decide⟩, ml_X0_78, im_X0_behind, se_X0_behind⟩ [0] [] rfl rfl rfl rfl (by decide) rfl rfl rfl rfl (Nat.le_of_ble_eq_true rfl) (by omega) (by omega) dX0_runCut_99 (fun r_53 w_ hw_54 => ?_)
                obtain ⟨rfl, rfl⟩ := hw_54
                refine V_to (ws2 := [(d0, .inr (0, [.int (nI (min 9999999 (f + (r + Gm w9 q9 P S a i) / (w9 * q9) * dd))), .int (nI ((r + Gm w9 q9 P S a i) % (w9 * q9))), .int (nI (w9 * q9)), .int bwi, .int bti, .int tk, .int (nI P), .int (nI S), .int (nI dd), .int (nI w9), .int (nI q9)]))]) ?_ rfl
                refine V_aload_n C 0 dX0_runCut_102 rfl rfl ?_
                refine V_iload C 3 dX0_runCut_103 rfl ?_
                refine V_callVi (q0 := 0) (na := 1) (As := [.int (nI (a + i))]) (rest := [.int (nI (P * ((a + i) + 1) / S))]) (wr := []) C (c_X0_behind g d0 (nI (min 9999999 (f + (r + Gm w9 q9 P S a i) / (w9 * q9) * dd))) (nI ((r + Gm w9 q9 P S a i) % (w9 * q9))) (nI (w9 * q9)) bwi bti tk (nI dd) (nI w9) (nI q9) P S (a + i) (show 1 ≤ S from by first | assumption | omega | exact ix_nI (by omega) (by omega) | decide) (show S ≤ 9999 from by first | assumption | omega | exact ix_nI (by omega) (by omega) | decide) (by have := hpa (a + i) (by omega); omega)) ⟨⟨ini_X0, co_X0_behind, ⟨by decide, by decide, by decide +kernel⟩, by decide⟩, ml_X0_78, im_X0_behind, se_X0_behind⟩ [0] [] rfl rfl rfl rfl (by decide) rfl rfl rfl rfl (Nat.le_of_ble_eq_true rfl) (by omega) (by omega) dX0_runCut_105 (fun r_55 w_ hw_56 => ?_)
                obtain ⟨rfl, rfl⟩ := hw_56
                refine V_to (ws2 := [(d0, .inr (0, [.int (nI (min 9999999 (f + (r + Gm w9 q9 P S a i) / (w9 * q9) * dd))), .int (nI ((r + Gm w9 q9 P S a i) % (w9 * q9))), .int (nI (w9 * q9)), .int bwi, .int bti, .int tk, .int (nI P), .int (nI S), .int (nI dd), .int (nI w9), .int (nI q9)]))]) ?_ rfl
                refine V_isub C dX0_runCut_108 ?_
                refine V_ev (show ((nI (P * ((a + i) + 1) / S)) - (nI (P * (a + i) / S)) : Int32) = nI (hr P S (a + i)) from hr_I) ?_
                refine V_istore (L2 := [(6, .int (nI (hr P S (a + i)))), (0, .ref d0), (1, .int (nI a)), (2, .int (nI (a + n))), (5, .int (nI (a + i)))]) C dX0_runCut_109 (by decide) rfl ?_
                refine V_aload_n C 1 dX0_runCut_111 rfl rfl ?_
                refine V_aload_n C 1 dX0_runCut_112 rfl rfl ?_
                refine V_iload C 0 dX0_runCut_113 rfl ?_
                refine V_callVi (q0 := 0) (na := 1) (As := [.int (nI (hr P S (a + i)))]) (rest := [.ref d0]) (wr := []) C (c_X0_gain g d0 (nI (min 9999999 (f + (r + Gm w9 q9 P S a i) / (w9 * q9) * dd))) (nI ((r + Gm w9 q9 P S a i) % (w9 * q9))) (nI (w9 * q9)) bwi bti tk (nI P) (nI S) (nI dd) w9 q9 (hr P S (a + i)) (show (hr P S (a + i)) ≤ 10000 from by first | assumption | omega | exact ix_nI (by omega) (by omega) | decide) (show w9 ≤ 999 from by first | assumption | omega | exact ix_nI (by omega) (by omega) | decide) (show q9 ≤ 999 from by first | assumption | omega | exact ix_nI (by omega) (by omega) | decide)) ⟨⟨ini_X0, co_X0_gain, ⟨by decide, by decide, by decide +kernel⟩, by decide⟩, ml_X0_85, im_X0_gain, se_X0_gain⟩ [0] [] rfl rfl rfl rfl (by decide) rfl rfl rfl rfl (Nat.le_of_ble_eq_true rfl) (by omega) (by omega) dX0_runCut_115 (fun r_57 w_ hw_58 => ?_)
                obtain ⟨rfl, rfl⟩ := hw_58
                refine V_to (ws2 := [(d0, .inr (0, [.int (nI (min 9999999 (f + (r + Gm w9 q9 P S a i) / (w9 * q9) * dd))), .int (nI ((r + Gm w9 q9 P S a i) % (w9 * q9))), .int (nI (w9 * q9)), .int bwi, .int bti, .int tk, .int (nI P), .int (nI S), .int (nI dd), .int (nI w9), .int (nI q9)]))]) ?_ rfl
                refine V_aload_n C 1 dX0_runCut_118 rfl rfl ?_
                refine V_iload C 0 dX0_runCut_119 rfl ?_
                refine V_callVi (q0 := 0) (na := 1) (As := [.int (nI (hr P S (a + i)))]) (rest := [.int (nI (gn w9 q9 (hr P S (a + i)))), .ref d0]) (wr := []) C (c_X0_isByWay g d0 (nI (min 9999999 (f + (r + Gm w9 q9 P S a i) / (w9 * q9) * dd))) (nI ((r + Gm w9 q9 P S a i) % (w9 * q9))) (nI (w9 * q9)) bwi bti tk (nI P) (nI S) (nI dd) w9 q9 (hr P S (a + i)) (show (hr P S (a + i)) ≤ 10000 from by first | assumption | omega | exact ix_nI (by omega) (by omega) | decide) (show w9 ≤ 999 from by first | assumption | omega | exact ix_nI (by omega) (by omega) | decide) (show q9 ≤ 999 from by first | assumption | omega | exact ix_nI (by omega) (by omega) | decide)) ⟨⟨ini_X0, co_X0_isByWay, ⟨by decide, by decide, by decide +kernel⟩, by decide⟩, ml_X0_81, im_X0_isByWay, se_X0_isByWay⟩ [0] [] rfl rfl rfl rfl (by decide) rfl rfl rfl rfl (Nat.le_of_ble_eq_true rfl) (by omega) (by omega) dX0_runCut_121 (fun r_59 w_ hw_60 => ?_)
                rcases hw_60 with ⟨hf60_0, rfl, rfl⟩ | ⟨hf60_0, rfl, rfl⟩
                · refine V_to (ws2 := [(d0, .inr (0, [.int (nI (min 9999999 (f + (r + Gm w9 q9 P S a i) / (w9 * q9) * dd))), .int (nI ((r + Gm w9 q9 P S a i) % (w9 * q9))), .int (nI (w9 * q9)), .int bwi, .int bti, .int tk, .int (nI P), .int (nI S), .int (nI dd), .int (nI w9), .int (nI q9)]))]) ?_ rfl
                  refine V_callVv (q0 := 0) (na := 2) (As := [.int (nI (gn w9 q9 (hr P S (a + i)))), .int 1]) (rest := []) (wr := []) C (c_X0_grow g d0 bwi bti tk (nI P) (nI S) (nI w9) (nI q9) (min 9999999 (f + (r + Gm w9 q9 P S a i) / (w9 * q9) * dd)) ((r + Gm w9 q9 P S a i) % (w9 * q9)) (w9 * q9) dd (gn w9 q9 (hr P S (a + i))) 1 ((cut_b2 hw1 hw2 hq1 hq2 (Nat.mod_lt _ (by omega)) hh9).1) b1 (show (w9 * q9) < 2 ^ 31 from by first | assumption | omega | exact ix_nI (by omega) (by omega) | decide) (Nat.min_le_left _ _) ((cut_b2 hw1 hw2 hq1 hq2 (Nat.mod_lt _ (by omega)) hh9).2) (show dd ≤ 99 from by first | assumption | omega | exact ix_nI (by omega) (by omega) | decide)) ⟨⟨ini_X0, co_X0_grow, ⟨by decide, by decide, by decide +kernel⟩, by decide⟩, ml_X0_88, im_X0_grow, se_X0_grow⟩ [0] [] rfl rfl rfl rfl (by decide) rfl rfl rfl rfl (Nat.le_of_ble_eq_true rfl) (by omega) (by omega) dX0_runCut_124 (fun w_ hw_62 => ?_)
                  rcases hw_62 with ⟨hf62_0, rfl⟩ | ⟨hf62_0, rfl⟩
                  · refine V_to (ws2 := [(d0, .inr (0, [.int (nI (min 9999999 ((min 9999999 (f + (r + Gm w9 q9 P S a i) / (w9 * q9) * dd)) + (((r + Gm w9 q9 P S a i) % (w9 * q9)) + (gn w9 q9 (hr P S (a + i)))) / (w9 * q9) * dd))), .int (nI ((((r + Gm w9 q9 P S a i) % (w9 * q9)) + (gn w9 q9 (hr P S (a + i)))) % (w9 * q9))), .int (nI (w9 * q9)), .int (bwi + nI ((((r + Gm w9 q9 P S a i) % (w9 * q9)) + (gn w9 q9 (hr P S (a + i)))) / (w9 * q9))), .int bti, .int tk, .int (nI P), .int (nI S), .int (nI dd), .int (nI w9), .int (nI q9)]))]) ?_ rfl
                    refine V_to (ws2 := [(d0, .inr (0, [.int (nI (min 9999999 (f + (r + Gm w9 q9 P S a (i + 1)) / (w9 * q9) * dd))), .int (nI ((r + Gm w9 q9 P S a (i + 1)) % (w9 * q9))), .int (nI (w9 * q9)), .int (bwi + nI ((((r + Gm w9 q9 P S a i) % (w9 * q9)) + (gn w9 q9 (hr P S (a + i)))) / (w9 * q9))), .int bti, .int tk, .int (nI P), .int (nI S), .int (nI dd), .int (nI w9), .int (nI q9)]))]) ?_ (by rw [gst_r, gst_f (Nat.mul_pos hw1 hq1)])
                    refine V_iinc (v := nI ((a + i) + 1)) (L2 := [(5, .int (nI ((a + i) + 1))), (6, .int (nI (hr P S (a + i)))), (0, .ref d0), (1, .int (nI a)), (2, .int (nI (a + n)))]) C 4 dX0_runCut_127 rfl (nI_add (a + i) 1) (by decide) rfl ?_
                    refine V_goto (tgt := 88) C dX0_runCut_130 (by decide) ?_
                    refine V_locs (L2 := [(0, .ref d0), (1, .int (nI a)), (2, .int (nI (a + n))), (5, .int (nI ((a + i) + 1)))]) [2, 3, 4, 0] rfl ?_
                    exact ih_88 (i + 1) (bwi + nI ((((r + Gm w9 q9 P S a i) % (w9 * q9)) + (gn w9 q9 (hr P S (a + i)))) / (w9 * q9))) bti (show (i + 1) ≤ n from by first | assumption | omega | rfl) (fun x y h1 h2 => by
                        obtain ⟨k1, k2⟩ := hki0 x y h1 h2
                        obtain ⟨e1, e2⟩ := (cut_kind hd hC hT h39 hf hcar hr0 i hi2).2 hf60_0
                        rw [← Nat.add_assoc, e1, e2, k1, k2]
                        exact ⟨by first | rfl | exact Int32.add_assoc _ _ _, by first | rfl | exact Int32.add_assoc _ _ _⟩) (by omega)
                  · refine V_to (ws2 := [(d0, .inr (0, [.int (nI (min 9999999 ((min 9999999 (f + (r + Gm w9 q9 P S a i) / (w9 * q9) * dd)) + (((r + Gm w9 q9 P S a i) % (w9 * q9)) + (gn w9 q9 (hr P S (a + i)))) / (w9 * q9) * dd))), .int (nI ((((r + Gm w9 q9 P S a i) % (w9 * q9)) + (gn w9 q9 (hr P S (a + i)))) % (w9 * q9))), .int (nI (w9 * q9)), .int bwi, .int (bti + nI ((((r + Gm w9 q9 P S a i) % (w9 * q9)) + (gn w9 q9 (hr P S (a + i)))) / (w9 * q9))), .int tk, .int (nI P), .int (nI S), .int (nI dd), .int (nI w9), .int (nI q9)]))]) ?_ rfl
                    exact absurd hf62_0 (by decide)
                · refine V_to (ws2 := [(d0, .inr (0, [.int (nI (min 9999999 (f + (r + Gm w9 q9 P S a i) / (w9 * q9) * dd))), .int (nI ((r + Gm w9 q9 P S a i) % (w9 * q9))), .int (nI (w9 * q9)), .int bwi, .int bti, .int tk, .int (nI P), .int (nI S), .int (nI dd), .int (nI w9), .int (nI q9)]))]) ?_ rfl
                  refine V_callVv (q0 := 0) (na := 2) (As := [.int (nI (gn w9 q9 (hr P S (a + i)))), .int 0]) (rest := []) (wr := []) C (c_X0_grow g d0 bwi bti tk (nI P) (nI S) (nI w9) (nI q9) (min 9999999 (f + (r + Gm w9 q9 P S a i) / (w9 * q9) * dd)) ((r + Gm w9 q9 P S a i) % (w9 * q9)) (w9 * q9) dd (gn w9 q9 (hr P S (a + i))) 0 ((cut_b2 hw1 hw2 hq1 hq2 (Nat.mod_lt _ (by omega)) hh9).1) b1 (show (w9 * q9) < 2 ^ 31 from by first | assumption | omega | exact ix_nI (by omega) (by omega) | decide) (Nat.min_le_left _ _) ((cut_b2 hw1 hw2 hq1 hq2 (Nat.mod_lt _ (by omega)) hh9).2) (show dd ≤ 99 from by first | assumption | omega | exact ix_nI (by omega) (by omega) | decide)) ⟨⟨ini_X0, co_X0_grow, ⟨by decide, by decide, by decide +kernel⟩, by decide⟩, ml_X0_88, im_X0_grow, se_X0_grow⟩ [0] [] rfl rfl rfl rfl (by decide) rfl rfl rfl rfl (Nat.le_of_ble_eq_true rfl) (by omega) (by omega) dX0_runCut_124 (fun w_ hw_64 => ?_)
                  rcases hw_64 with ⟨hf64_0, rfl⟩ | ⟨hf64_0, rfl⟩
                  · refine V_to (ws2 := [(d0, .inr (0, [.int (nI (min 9999999 ((min 9999999 (f + (r + Gm w9 q9 P S a i) / (w9 * q9) * dd)) + (((r + Gm w9 q9 P S a i) % (w9 * q9)) + (gn w9 q9 (hr P S (a + i)))) / (w9 * q9) * dd))), .int (nI ((((r + Gm w9 q9 P S a i) % (w9 * q9)) + (gn w9 q9 (hr P S (a + i)))) % (w9 * q9))), .int (nI (w9 * q9)), .int (bwi + nI ((((r + Gm w9 q9 P S a i) % (w9 * q9)) + (gn w9 q9 (hr P S (a + i)))) / (w9 * q9))), .int bti, .int tk, .int (nI P), .int (nI S), .int (nI dd), .int (nI w9), .int (nI q9)]))]) ?_ rfl
                    exact absurd rfl hf64_0
                  · refine V_to (ws2 := [(d0, .inr (0, [.int (nI (min 9999999 ((min 9999999 (f + (r + Gm w9 q9 P S a i) / (w9 * q9) * dd)) + (((r + Gm w9 q9 P S a i) % (w9 * q9)) + (gn w9 q9 (hr P S (a + i)))) / (w9 * q9) * dd))), .int (nI ((((r + Gm w9 q9 P S a i) % (w9 * q9)) + (gn w9 q9 (hr P S (a + i)))) % (w9 * q9))), .int (nI (w9 * q9)), .int bwi, .int (bti + nI ((((r + Gm w9 q9 P S a i) % (w9 * q9)) + (gn w9 q9 (hr P S (a + i)))) / (w9 * q9))), .int tk, .int (nI P), .int (nI S), .int (nI dd), .int (nI w9), .int (nI q9)]))]) ?_ rfl
                    refine V_to (ws2 := [(d0, .inr (0, [.int (nI (min 9999999 (f + (r + Gm w9 q9 P S a (i + 1)) / (w9 * q9) * dd))), .int (nI ((r + Gm w9 q9 P S a (i + 1)) % (w9 * q9))), .int (nI (w9 * q9)), .int bwi, .int (bti + nI ((((r + Gm w9 q9 P S a i) % (w9 * q9)) + (gn w9 q9 (hr P S (a + i)))) / (w9 * q9))), .int tk, .int (nI P), .int (nI S), .int (nI dd), .int (nI w9), .int (nI q9)]))]) ?_ (by rw [gst_r, gst_f (Nat.mul_pos hw1 hq1)])
                    refine V_iinc (v := nI ((a + i) + 1)) (L2 := [(5, .int (nI ((a + i) + 1))), (6, .int (nI (hr P S (a + i)))), (0, .ref d0), (1, .int (nI a)), (2, .int (nI (a + n)))]) C 4 dX0_runCut_127 rfl (nI_add (a + i) 1) (by decide) rfl ?_
                    refine V_goto (tgt := 88) C dX0_runCut_130 (by decide) ?_
                    refine V_locs (L2 := [(0, .ref d0), (1, .int (nI a)), (2, .int (nI (a + n))), (5, .int (nI ((a + i) + 1)))]) [2, 3, 4, 0] rfl ?_
                    exact ih_88 (i + 1) bwi (bti + nI ((((r + Gm w9 q9 P S a i) % (w9 * q9)) + (gn w9 q9 (hr P S (a + i)))) / (w9 * q9))) (show (i + 1) ≤ n from by first | assumption | omega | rfl) (fun x y h1 h2 => by
                        obtain ⟨k1, k2⟩ := hki0 x y h1 h2
                        obtain ⟨e1, e2⟩ := (cut_kind hd hC hT h39 hf hcar hr0 i hi2).1 hf60_0
                        rw [← Nat.add_assoc, e1, e2, k1, k2]
                        exact ⟨by first | rfl | exact Int32.add_assoc _ _ _, by first | rfl | exact Int32.add_assoc _ _ _⟩) (by omega)
          refine V_locs (L2 := [(0, .ref d0), (1, .int (nI a)), (2, .int (nI (a + n))), (5, .int (nI a))]) [3, 4, 5, 0] rfl ?_
          exact loop_88 (n - 0 + 1) 0 bw bt (show 0 ≤ n from by first | assumption | omega | rfl) (fun x y h1 h2 => ⟨h1, h2⟩) (by omega)
        · refine V_to (ws2 := [(d0, .inr (0, [.int (nI f), .int (nI r), .int (nI (w9 * q9)), .int bw, .int bt, .int tk, .int (nI P), .int (nI S), .int (nI dd), .int (nI w9), .int (nI q9)]))]) ?_ rfl
          refine V_icmp_ne (tgt := 85) C dX0_runCut_49 (by decide) (fun h => absurd rfl h) (fun _ => ?_)
          refine V_aload_n C 2 dX0_runCut_52 rfl rfl ?_
          refine V_iload_n C 4 dX0_runCut_53 rfl rfl ?_
          refine V_iload_n C 3 dX0_runCut_54 rfl rfl ?_
          refine V_isub C dX0_runCut_55 ?_
          refine V_ev (show ((nI (a + n)) - (nI a) : Int32) = nI n from (pk_sub (by omega)).trans (by rw [Nat.add_sub_cancel_left])) ?_
          refine V_iload C 0 dX0_runCut_56 rfl ?_
          refine V_isub C dX0_runCut_58 ?_
          refine V_ev (show ((nI n) - (nI mo) : Int32) = nI (n - mo) from pk_sub g2) ?_
          refine V_aload_n C 2 dX0_runCut_59 rfl rfl ?_
          refine V_iload_n C 1 dX0_runCut_60 rfl rfl ?_
          refine V_callVi (q0 := 0) (na := 1) (As := [.int (nI (P / S))]) (rest := [.int (nI (n - mo)), .ref d0]) (wr := []) C (c_X0_gain g d0 (nI f) (nI r) (nI (w9 * q9)) bw bt tk (nI P) (nI S) (nI dd) w9 q9 (P / S) (show (P / S) ≤ 10000 from by first | assumption | omega | exact ix_nI (by omega) (by omega) | decide) (show w9 ≤ 999 from by first | assumption | omega | exact ix_nI (by omega) (by omega) | decide) (show q9 ≤ 999 from by first | assumption | omega | exact ix_nI (by omega) (by omega) | decide)) ⟨⟨ini_X0, co_X0_gain, ⟨by decide, by decide, by decide +kernel⟩, by decide⟩, ml_X0_85, im_X0_gain, se_X0_gain⟩ [0] [] rfl rfl rfl rfl (by decide) rfl rfl rfl rfl (Nat.le_of_ble_eq_true rfl) (by omega) (by omega) dX0_runCut_61 (fun r_65 w_ hw_66 => ?_)
          obtain ⟨rfl, rfl⟩ := hw_66
          refine V_to (ws2 := [(d0, .inr (0, [.int (nI f), .int (nI r), .int (nI (w9 * q9)), .int bw, .int bt, .int tk, .int (nI P), .int (nI S), .int (nI dd), .int (nI w9), .int (nI q9)]))]) ?_ rfl
          refine V_imul C dX0_runCut_64 ?_
          refine V_ev (show ((nI (n - mo)) * (nI (gn w9 q9 (P / S))) : Int32) = nI ((n - mo) * (gn w9 q9 (P / S))) from pk_mul (n - mo) (gn w9 q9 (P / S))) ?_
          refine V_iload C 0 dX0_runCut_65 rfl ?_
          refine V_aload_n C 2 dX0_runCut_67 rfl rfl ?_
          refine V_iload_n C 1 dX0_runCut_68 rfl rfl ?_
          refine V_iconst (v := 1) C dX0_runCut_69 (by decide) ?_
          refine V_iadd C dX0_runCut_70 ?_
          refine V_ev (show ((nI (P / S)) + 1 : Int32) = nI ((P / S) + 1) from nI_add (P / S) 1) ?_
          refine V_callVi (q0 := 0) (na := 1) (As := [.int (nI ((P / S) + 1))]) (rest := [.int (nI mo), .int (nI ((n - mo) * (gn w9 q9 (P / S)))), .ref d0]) (wr := []) C (c_X0_gain g d0 (nI f) (nI r) (nI (w9 * q9)) bw bt tk (nI P) (nI S) (nI dd) w9 q9 ((P / S) + 1) (show ((P / S) + 1) ≤ 10000 from by first | assumption | omega | exact ix_nI (by omega) (by omega) | decide) (show w9 ≤ 999 from by first | assumption | omega | exact ix_nI (by omega) (by omega) | decide) (show q9 ≤ 999 from by first | assumption | omega | exact ix_nI (by omega) (by omega) | decide)) ⟨⟨ini_X0, co_X0_gain, ⟨by decide, by decide, by decide +kernel⟩, by decide⟩, ml_X0_85, im_X0_gain, se_X0_gain⟩ [0] [] rfl rfl rfl rfl (by decide) rfl rfl rfl rfl (Nat.le_of_ble_eq_true rfl) (by omega) (by omega) dX0_runCut_71 (fun r_67 w_ hw_68 => ?_)
          obtain ⟨rfl, rfl⟩ := hw_68
          refine V_to (ws2 := [(d0, .inr (0, [.int (nI f), .int (nI r), .int (nI (w9 * q9)), .int bw, .int bt, .int tk, .int (nI P), .int (nI S), .int (nI dd), .int (nI w9), .int (nI q9)]))]) ?_ rfl
          refine V_imul C dX0_runCut_74 ?_
          refine V_ev (show ((nI mo) * (nI (gn w9 q9 ((P / S) + 1))) : Int32) = nI (mo * (gn w9 q9 ((P / S) + 1))) from pk_mul mo (gn w9 q9 ((P / S) + 1))) ?_
          refine V_iadd C dX0_runCut_75 ?_
          refine V_ev (show ((nI ((n - mo) * (gn w9 q9 (P / S)))) + (nI (mo * (gn w9 q9 ((P / S) + 1)))) : Int32) = nI (Gm w9 q9 P S a n) from by rw [g3]; exact nI_add _ _) ?_
          refine V_aload_n C 2 dX0_runCut_76 rfl rfl ?_
          refine V_iload_n C 1 dX0_runCut_77 rfl rfl ?_
          refine V_callVi (q0 := 0) (na := 1) (As := [.int (nI (P / S))]) (rest := [.int (nI (Gm w9 q9 P S a n)), .ref d0]) (wr := []) C (c_X0_isByWay g d0 (nI f) (nI r) (nI (w9 * q9)) bw bt tk (nI P) (nI S) (nI dd) w9 q9 (P / S) (show (P / S) ≤ 10000 from by first | assumption | omega | exact ix_nI (by omega) (by omega) | decide) (show w9 ≤ 999 from by first | assumption | omega | exact ix_nI (by omega) (by omega) | decide) (show q9 ≤ 999 from by first | assumption | omega | exact ix_nI (by omega) (by omega) | decide)) ⟨⟨ini_X0, co_X0_isByWay, ⟨by decide, by decide, by decide +kernel⟩, by decide⟩, ml_X0_81, im_X0_isByWay, se_X0_isByWay⟩ [0] [] rfl rfl rfl rfl (by decide) rfl rfl rfl rfl (Nat.le_of_ble_eq_true rfl) (by omega) (by omega) dX0_runCut_78 (fun r_69 w_ hw_70 => ?_)
          rcases hw_70 with ⟨hf70_0, rfl, rfl⟩ | ⟨hf70_0, rfl, rfl⟩
          · refine V_to (ws2 := [(d0, .inr (0, [.int (nI f), .int (nI r), .int (nI (w9 * q9)), .int bw, .int bt, .int tk, .int (nI P), .int (nI S), .int (nI dd), .int (nI w9), .int (nI q9)]))]) ?_ rfl
            exact absurd hf28_0 hf70_0
          · refine V_to (ws2 := [(d0, .inr (0, [.int (nI f), .int (nI r), .int (nI (w9 * q9)), .int bw, .int bt, .int tk, .int (nI P), .int (nI S), .int (nI dd), .int (nI w9), .int (nI q9)]))]) ?_ rfl
            refine V_callVv (q0 := 0) (na := 2) (As := [.int (nI (Gm w9 q9 P S a n)), .int 0]) (rest := []) (wr := []) C (c_X0_grow g d0 bw bt tk (nI P) (nI S) (nI w9) (nI q9) f r (w9 * q9) dd (Gm w9 q9 P S a n) 0 ((cut_b1 hC hT hr0).1) b1 (show (w9 * q9) < 2 ^ 31 from by first | assumption | omega | exact ix_nI (by omega) (by omega) | decide) (show f ≤ 9999999 from by first | assumption | omega | exact ix_nI (by omega) (by omega) | decide) ((cut_b1 hC hT hr0).2) (show dd ≤ 99 from by first | assumption | omega | exact ix_nI (by omega) (by omega) | decide)) ⟨⟨ini_X0, co_X0_grow, ⟨by decide, by decide, by decide +kernel⟩, by decide⟩, ml_X0_88, im_X0_grow, se_X0_grow⟩ [0] [] rfl rfl rfl rfl (by decide) rfl rfl rfl rfl (Nat.le_of_ble_eq_true rfl) (by omega) (by omega) dX0_runCut_81 (fun w_ hw_72 => ?_)
            rcases hw_72 with ⟨hf72_0, rfl⟩ | ⟨hf72_0, rfl⟩
            · refine V_to (ws2 := [(d0, .inr (0, [.int (nI (min 9999999 (f + (r + (Gm w9 q9 P S a n)) / (w9 * q9) * dd))), .int (nI ((r + (Gm w9 q9 P S a n)) % (w9 * q9))), .int (nI (w9 * q9)), .int (bw + nI ((r + (Gm w9 q9 P S a n)) / (w9 * q9))), .int bt, .int tk, .int (nI P), .int (nI S), .int (nI dd), .int (nI w9), .int (nI q9)]))]) ?_ rfl
              exact absurd rfl hf72_0
            · refine V_to (ws2 := [(d0, .inr (0, [.int (nI (min 9999999 (f + (r + (Gm w9 q9 P S a n)) / (w9 * q9) * dd))), .int (nI ((r + (Gm w9 q9 P S a n)) % (w9 * q9))), .int (nI (w9 * q9)), .int bw, .int (bt + nI ((r + (Gm w9 q9 P S a n)) / (w9 * q9))), .int tk, .int (nI P), .int (nI S), .int (nI dd), .int (nI w9), .int (nI q9)]))]) ?_ rfl
              refine hret _ _ _ dX0_runCut_84 ?_
              exact ⟨bw, bt + nI ((r + (Gm w9 q9 P S a n)) / (w9 * q9)), fun _ x y h44 h45 => cut_time hd hC hT h39 hf hcar hr0 h44 h45 (cut_allT hS1 (Or.inr ⟨hf28_0, hf52_0⟩)), rfl⟩
