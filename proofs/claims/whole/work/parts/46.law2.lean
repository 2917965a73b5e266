

theorem hcnt_cg {f g2 : Nat → Int32} {t : Int32} : ∀ {n : Nat}, (∀ i, i < n → f i = g2 i) → hcnt f t n = hcnt g2 t n
  | 0, _ => rfl
  | n + 1, h => by
    rw [hcnt, hcnt, hcnt_cg (fun i hi => h i (by omega)), h n (by omega)]

set_option maxRecDepth 100000 in
set_option maxHeartbeats 400000 in
theorem cs_ofTariff {g : Gd} {X : Bd} {d mc ms cs ss : Nat} {f0 h0 s0 p0 o0 d0 h1 p1 : Nat} {rf : Nat → Option Nat} {a0 a1 a2 a3 a4 a5 a6 a7 : Nat} {b nn ii : Nat} {xs : Nat → Int32} (C : Cx g X RL cL_law 4 d mc ms) (hd : 8 ≤ d) (hcs : cs ≤ mc ∧ ss ≤ ms) (hX : SC X b nn xs) (hnn : nn < 2 ^ 31) (hii : ii + 6 ≤ nn) {B : Nat} (hB : B + 82 < 2 ^ 31)  {j : Nat} {r0 : Mt} {r1 : Mt} {r2 : Mt} {r3 : Mt} {r4 : Mt} {r5 : Mt} {r6 : Mt} {mm : Mt} {mu : Mt} {mv : Mt} {f1 : Int32} {f2 : Int32} {hs : Nat} {ln : Nat} {cp : Nat → Int32} {o1 : Int32} {o2 : Int32} {o3 : Int32} {o4 : Int32} {D : Nat → Int32} {z : Zt} {past : Zt} {pm : Nat} {sl : Zt} {sv : Zt} {pd : Zt} {ty : Nat} {y : Zt} {od : Zt} {om : Int32} {sp : Int32} {wr : Int32} (h : REL rf j r0 r1 r2 r3 r4 r5 r6 mm mu mv f1 f2 hs ln cp z past pm sl sv pd ty B) (kk : ∀ (j' : Nat) (r0' : Mt) (r1' : Mt) (r2' : Mt) (r3' : Mt) (r4' : Mt) (r5' : Mt) (r6' : Mt) (mm' : Mt) (mu' : Mt) (mv' : Mt) (f1' : Int32) (f2' : Int32) (hs' : Nat) (ln' : Nat) (cp' : Nat → Int32) (o1' : Int32) (o2' : Int32) (o3' : Int32) (o4' : Int32) (D' : Nat → Int32) (r : Int32), ofTariffR z (xs (ii + 1)) (xs (ii + 2)) = r → REL rf j' r0' r1' r2' r3' r4' r5' r6' mm' mu' mv' f1' f2' hs' ln' cp' z past pm sl sv pd ty (B + 82) → V g X cs ss (SW g f0 h0 s0 p0 o0 d0 h1 p1 rf a0 a1 a2 a3 a4 a5 a6 a7 j' r0' r1' r2' r3' r4' r5' r6' mm' mu' mv' f1' f2' hs' ln' cp' o1' o2' o3' o4' D' z past pm sl sv pd ty y od om sp wr) 385 [(3, .int (nI ii)), (2, .ref a0), (1, .ref f0), (0, .ref b)] [.int r]) : V g X cs ss (SW g f0 h0 s0 p0 o0 d0 h1 p1 rf a0 a1 a2 a3 a4 a5 a6 a7 j r0 r1 r2 r3 r4 r5 r6 mm mu mv f1 f2 hs ln cp o1 o2 o3 o4 D z past pm sl sv pd ty y od om sp wr) 371 [(3, .int (nI ii)), (2, .ref a0), (1, .ref f0), (0, .ref b)] [] := by
  obtain ⟨e0, ⟨hj, hpm, ⟨hr0, -, -, -, -, -, hr6⟩, -⟩, ⟨hRM, hZ⟩, -, -, hPA⟩ := id h
  have hRM : RM mm.2.1 mm.2.2.1 mm.2.2.2.1 mm.2.2.2.2 z := hRM
  obtain ⟨hck, hz37, htN, hzt⟩ := IZ_ck hZ
  have g38 : mm.2.2.2.1 38 = z 38 := hRM.g 38 (by omega) (by omega) (by omega)
  have hhs : hs ≤ 6 := by omega
  refine V_aload_n C 2 dL_law_371 rfl rfl ?_
  refine V_aload_n C 3 dL_law_372 rfl rfl ?_
  refine V_iload_n C 0 dL_law_373 rfl rfl ?_
  refine V_iconst (v := 1) C dL_law_374 (by decide) ?_
  refine V_iadd C dL_law_375 ?_
  refine V_ev (show (nI ii + 1 : Int32) = nI (ii + 1) from nI_add ii 1) ?_
  refine V_sld C hX (ii + 1) (by omega) hnn dL_law_376 ?_
  refine V_aload_n C 3 dL_law_377 rfl rfl ?_
  refine V_iload_n C 0 dL_law_378 rfl rfl ?_
  refine V_iconst (v := 2) C dL_law_379 (by decide) ?_
  refine V_iadd C dL_law_380 ?_
  refine V_ev (show (nI ii + 2 : Int32) = nI (ii + 2) from nI_add ii 2) ?_
  refine V_sld C hX (ii + 2) (by omega) hnn dL_law_381 ?_
  refine V_callB (q0 := 0) (na := 2) (As := [.int (xs (ii + 1)), .int (xs (ii + 2))]) (rest := []) (bs := (SWB g f0 h0 s0 p0 o0 d0 h1 p1 rf a0 a1 a2 a3 a4 a5 a6 a7 j r0 r1 r2 r3 r4 r5 r6 mm mu mv f1 f2 hs ln cp o1 o2 o3 o4 D z past pm sl sv pd ty y od om sp wr)) C (c_X9_ofTariff g f0 h0 s0 p0 o0 d0 h1 (mm.1 0) (mm.1 1) (mm.1 2) (mm.1 3) (mm.1 4) (mm.1 5) (mm.1 6) mm.2.1 mm.2.2.1 mm.2.2.2.1 mm.2.2.2.2 (xs (ii + 1)) (xs (ii + 2)) ) ⟨⟨ini_X9, co_X9_ofTariff, ⟨by decide, by decide, by decide +kernel⟩, by decide⟩, ml_L_53, im_X9_ofTariff, se_X9_ofTariff⟩ [0, 4] [1, 2, 3, 5, 6, 7, 8, 9, 10, 11, 12, 13, 14, 15, 16, 17, 18, 19, 20, 21, 22, 23, 24, 25] (SWB_len ..) rfl rfl rfl rfl rfl rfl (Nat.le_of_ble_eq_true rfl) (by omega) (by omega) dL_law_382 (fun r w_ hw => ?_)
  have hq : w_ = (pkB [0, 4] (SWB g f0 h0 s0 p0 o0 d0 h1 p1 rf a0 a1 a2 a3 a4 a5 a6 a7 j r0 r1 r2 r3 r4 r5 r6 mm mu mv f1 f2 hs ln cp o1 o2 o3 o4 D z past pm sl sv pd ty y od om sp wr)).flatten ∧ ofTariffR z (xs (ii + 1)) (xs (ii + 2)) = r := by
    rcases hw with ⟨u1, rfl, rfl⟩ | ⟨u1, u2, rfl, rfl⟩ | ⟨t0, w1, u1, u2, u3, u4, rfl, rfl⟩ | ⟨t0, u1, u2, u3, rfl, rfl⟩
    · exact ⟨rfl, by unfold ofTariffR; exact cif_f u1⟩
    · exact ⟨rfl, by unfold ofTariffR; rw [cif_t u1, cif_f u2]⟩
    · exact ⟨rfl, by unfold ofTariffR; rw [cif_t (by rw [u3]; exact okT_nI u1), cif_t (by rw [u4]; exact ok4_nI (by omega)), cif_f (by rw [u4]; exact fun q => absurd ((nI_eq (b := 4) (by omega) (by omega)).mp q) (by omega)), cl_of u3 (by omega), cl_of u4 (by omega), hRM.1 (t0 * 4 + w1) (by omega), Nat.mul_comm t0 4]⟩
    · exact ⟨rfl, by unfold ofTariffR; rw [cif_t (by rw [u2]; exact okT_nI u1), cif_t (by rw [u3]; exact ok4_nI (i := 4) (by omega)), cif_t u3, u2]; exact hcnt_cg (fun i hi => (hRM.2.1 i hi).symm)⟩
  obtain ⟨hw9, hr9⟩ := hq
  refine V_Perm (ws2 := SW g f0 h0 s0 p0 o0 d0 h1 p1 rf a0 a1 a2 a3 a4 a5 a6 a7 j r0 r1 r2 r3 r4 r5 r6 mm mu mv f1 f2 hs ln cp o1 o2 o3 o4 D z past pm sl sv pd ty y od om sp wr) (perm_out (bl := [[(h0, .inr (1, [.ref h1, .int (nI j), .int (nI hs)]))], [(h1, .inl (gM g, 7, .inr (.inr (.inr (.inr rf)))))], mW g r0, [(d0, .inr (0, [.int (D 0), .int (D 1), .int (D 2), .int (D 3), .int (D 4), .int (D 5), .int (D 6), .int (D 7), .int (D 8), .int (D 9), .int (D 10)]))], [(o0, .inr (4, [.int o1, .int o2, .int o3, .int o4]))], [(p0, .inr (5, [.ref p1, .int (nI ln)]))], [(p1, .inl (gC g, 80, .inl cp))], [(s0, .inr (7, [.ref (mu.1 0), .ref (mv.1 0), .int f1, .int f2]))], mW g mu, mW g mv, [(a0, .inr (10, [.ref a1, .ref a2, .ref a3, .ref a4, .int (nI pm), .ref a5, .ref a6, .int (nI ty), .ref a7, .int om, .int sp, .int wr]))], [(a1, .inl (gI g, 113, .inl z))], [(a2, .inl (gI g, 678, .inl past))], [(a3, .inl (gI g, 226, .inl sl))], [(a4, .inl (gZ g, 2, .inl sv))], [(a5, .inl (gI g, 113, .inl y))], [(a6, .inl (gC g, 80, .inl pd))], [(a7, .inl (gI g, 123, .inl od))], mW g r1, mW g r2, mW g r3, mW g r4, mW g r5, mW g r6]) [1, 2, 3, 5, 6, 7, 8, 9, 10, 11, 12, 13, 14, 15, 16, 17, 18, 19, 20, 21, 22, 23, 24, 25] [1, 2, 3, 5, 6, 7, 8, 9, 10, 11, 12, 13, 14, 15, 16, 17, 18, 19, 20, 21, 22, 23, 24, 25] [0, 4] (SWB_len ..) rfl hw9 rfl rfl) ?_
  exact kk j r0 r1 r2 r3 r4 r5 r6 mm mu mv f1 f2 hs ln cp o1 o2 o3 o4 D _ hr9 (h.up (by omega))
set_option maxRecDepth 100000 in
set_option maxHeartbeats 400000 in
theorem ms_ofTariff {g : Gd} {X : Bd} {d mc ms cs ss : Nat} {f0 h0 s0 p0 o0 d0 h1 p1 : Nat} {rf : Nat → Option Nat} {a0 a1 a2 a3 a4 a5 a6 a7 : Nat} {b nn ii : Nat} {xs : Nat → Int32} (C : Cx g X RL cL_law 4 d mc ms) (hd : 8 ≤ d) (hcs : cs ≤ mc ∧ ss ≤ ms) (hX : SC X b nn xs) (hnn : nn < 2 ^ 31) (hii : ii + 6 ≤ nn) {B : Nat} (hB : B + 82 < 2 ^ 31)  {j : Nat} {r0 : Mt} {r1 : Mt} {r2 : Mt} {r3 : Mt} {r4 : Mt} {r5 : Mt} {r6 : Mt} {mm : Mt} {mu : Mt} {mv : Mt} {f1 : Int32} {f2 : Int32} {hs : Nat} {ln : Nat} {cp : Nat → Int32} {o1 : Int32} {o2 : Int32} {o3 : Int32} {o4 : Int32} {D : Nat → Int32} {z : Zt} {past : Zt} {pm : Nat} {sl : Zt} {sv : Zt} {pd : Zt} {ty : Nat} {y : Zt} {od : Zt} {om : Int32} {sp : Int32} {wr : Int32} {r : Int32} (hs9 : ofTariffR z (xs (ii + 1)) (xs (ii + 2)) = r) (h : REL rf j r0 r1 r2 r3 r4 r5 r6 mm mu mv f1 f2 hs ln cp z past pm sl sv pd ty (B + 82)) (kk : LPR g X cs ss f0 h0 s0 p0 o0 d0 h1 p1 rf a0 a1 a2 a3 a4 a5 a6 a7 776 [(3, .int (nI ii)), (2, .ref a0), (1, .ref f0), (0, .ref b)] (B + 82)) : V g X cs ss (SW g f0 h0 s0 p0 o0 d0 h1 p1 rf a0 a1 a2 a3 a4 a5 a6 a7 j r0 r1 r2 r3 r4 r5 r6 mm mu mv f1 f2 hs ln cp o1 o2 o3 o4 D z past pm sl sv pd ty y od om sp wr) 385 [(3, .int (nI ii)), (2, .ref a0), (1, .ref f0), (0, .ref b)] [.int r] := by
  obtain ⟨-, ⟨-, hpm, -⟩, ⟨-, hZ⟩, -⟩ := id h
  obtain ⟨hck, hz37, htN, hzt⟩ := IZ_ck hZ
  refine V_aload_n C 1 dL_law_385 rfl rfl ?_
  refine V_aload_n C 3 dL_law_386 rfl rfl ?_
  refine V_iload_n C 0 dL_law_387 rfl rfl ?_
  refine V_iconst (v := 1) C dL_law_388 (by decide) ?_
  refine V_iadd C dL_law_389 ?_
  refine V_ev (show (nI ii + 1 : Int32) = nI (ii + 1) from nI_add ii 1) ?_
  refine V_sld C hX (ii + 1) (by omega) hnn dL_law_390 ?_
  refine V_aload_n C 3 dL_law_391 rfl rfl ?_
  refine V_iload_n C 0 dL_law_392 rfl rfl ?_
  refine V_iconst (v := 2) C dL_law_393 (by decide) ?_
  refine V_iadd C dL_law_394 ?_
  refine V_ev (show (nI ii + 2 : Int32) = nI (ii + 2) from nI_add ii 2) ?_
  refine V_sld C hX (ii + 2) (by omega) hnn dL_law_395 ?_
  refine V_callB (q0 := 0) (na := 2) (As := [.int (xs (ii + 1)), .int (xs (ii + 2))]) (rest := [.int r]) (bs := (SWB g f0 h0 s0 p0 o0 d0 h1 p1 rf a0 a1 a2 a3 a4 a5 a6 a7 j r0 r1 r2 r3 r4 r5 r6 mm mu mv f1 f2 hs ln cp o1 o2 o3 o4 D z past pm sl sv pd ty y od om sp wr)) C (c_X10_ofTariff g a0 a1 a2 a3 a4 a5 a6 a7 (nI pm) (nI ty) om sp wr z (xs (ii + 1)) (xs (ii + 2)) ) ⟨⟨ini_X10, co_X10_ofTariff, ⟨by decide, by decide, by decide +kernel⟩, by decide⟩, ml_L_56, im_X10_ofTariff, se_X10_ofTariff⟩ [12, 13] [0, 1, 2, 3, 4, 5, 6, 7, 8, 9, 10, 11, 14, 15, 16, 17, 18, 19, 20, 21, 22, 23, 24, 25] (SWB_len ..) rfl rfl rfl rfl rfl rfl (Nat.le_of_ble_eq_true rfl) (by omega) (by omega) dL_law_396 (fun rq w_ hw => ?_)
  have hq : w_ = (pkB [12, 13] (SWB g f0 h0 s0 p0 o0 d0 h1 p1 rf a0 a1 a2 a3 a4 a5 a6 a7 j r0 r1 r2 r3 r4 r5 r6 mm mu mv f1 f2 hs ln cp o1 o2 o3 o4 D z past pm sl sv pd ty y od om sp wr)).flatten ∧ ofTariffR z (xs (ii + 1)) (xs (ii + 2)) = rq := by
    rcases hw with ⟨u1, rfl, rfl⟩ | ⟨u1, u2, rfl, rfl⟩ | ⟨t0, w1, u1, u2, u3, u4, rfl, rfl⟩ | ⟨t0, u1, u2, u3, rfl, rfl⟩
    · exact ⟨rfl, by unfold ofTariffR; exact cif_f u1⟩
    · exact ⟨rfl, by unfold ofTariffR; rw [cif_t u1, cif_f u2]⟩
    · exact ⟨rfl, by unfold ofTariffR; rw [cif_t (by rw [u3]; exact okT_nI u1), cif_t (by rw [u4]; exact ok4_nI (by omega)), cif_f (by rw [u4]; exact fun q => absurd ((nI_eq (b := 4) (by omega) (by omega)).mp q) (by omega)), cl_of u3 (by omega), cl_of u4 (by omega)]⟩
    · exact ⟨rfl, by unfold ofTariffR; rw [cif_t (by rw [u2]; exact okT_nI u1), cif_t (by rw [u3]; exact ok4_nI (i := 4) (by omega)), cif_t u3, u2]⟩
  obtain ⟨hw9, hr9⟩ := hq
  refine V_Perm (ws2 := SW g f0 h0 s0 p0 o0 d0 h1 p1 rf a0 a1 a2 a3 a4 a5 a6 a7 j r0 r1 r2 r3 r4 r5 r6 mm mu mv f1 f2 hs ln cp o1 o2 o3 o4 D z past pm sl sv pd ty y od om sp wr) (perm_out (bl := [[(f0, .inr (9, [.ref (mm.1 0), .ref h0, .ref s0, .ref p0, .ref o0, .ref d0]))], [(h0, .inr (1, [.ref h1, .int (nI j), .int (nI hs)]))], [(h1, .inl (gM g, 7, .inr (.inr (.inr (.inr rf)))))], mW g r0, mW g mm, [(d0, .inr (0, [.int (D 0), .int (D 1), .int (D 2), .int (D 3), .int (D 4), .int (D 5), .int (D 6), .int (D 7), .int (D 8), .int (D 9), .int (D 10)]))], [(o0, .inr (4, [.int o1, .int o2, .int o3, .int o4]))], [(p0, .inr (5, [.ref p1, .int (nI ln)]))], [(p1, .inl (gC g, 80, .inl cp))], [(s0, .inr (7, [.ref (mu.1 0), .ref (mv.1 0), .int f1, .int f2]))], mW g mu, mW g mv, [(a2, .inl (gI g, 678, .inl past))], [(a3, .inl (gI g, 226, .inl sl))], [(a4, .inl (gZ g, 2, .inl sv))], [(a5, .inl (gI g, 113, .inl y))], [(a6, .inl (gC g, 80, .inl pd))], [(a7, .inl (gI g, 123, .inl od))], mW g r1, mW g r2, mW g r3, mW g r4, mW g r5, mW g r6]) [0, 1, 2, 3, 4, 5, 6, 7, 8, 9, 10, 11, 14, 15, 16, 17, 18, 19, 20, 21, 22, 23, 24, 25] [0, 1, 2, 3, 4, 5, 6, 7, 8, 9, 10, 11, 14, 15, 16, 17, 18, 19, 20, 21, 22, 23, 24, 25] [12, 13] (SWB_len ..) rfl hw9 rfl rfl) ?_
  refine V_icmp_eq (tgt := 776) C dL_law_399 (by decide) (fun _ => ?_) (fun h9 => absurd (hs9.symm.trans hr9) h9)
  exact kk j r0 r1 r2 r3 r4 r5 r6 mm mu mv f1 f2 hs ln cp o1 o2 o3 o4 D z past pm sl sv pd ty y od om sp wr h
theorem ca_ofTariff {g : Gd} {X : Bd} {d mc ms cs ss : Nat} {f0 h0 s0 p0 o0 d0 h1 p1 : Nat} {rf : Nat → Option Nat} {a0 a1 a2 a3 a4 a5 a6 a7 : Nat} {b nn ii : Nat} {xs : Nat → Int32} (C : Cx g X RL cL_law 4 d mc ms) (hd : 8 ≤ d) (hcs : cs ≤ mc ∧ ss ≤ ms) (hX : SC X b nn xs) (hnn : nn < 2 ^ 31) (hii : ii + 6 ≤ nn) {B : Nat} (hB : B + 82 < 2 ^ 31)  (hk : LPR g X cs ss f0 h0 s0 p0 o0 d0 h1 p1 rf a0 a1 a2 a3 a4 a5 a6 a7 776 [(3, .int (nI ii)), (2, .ref a0), (1, .ref f0), (0, .ref b)] (B + 82)) : LPR g X cs ss f0 h0 s0 p0 o0 d0 h1 p1 rf a0 a1 a2 a3 a4 a5 a6 a7 371 [(3, .int (nI ii)), (2, .ref a0), (1, .ref f0), (0, .ref b)] B := by
  intro j r0 r1 r2 r3 r4 r5 r6 mm mu mv f1 f2 hs ln cp o1 o2 o3 o4 D z past pm sl sv pd ty y od om sp wr h
  exact cs_ofTariff C hd hcs hX hnn hii hB h (fun _ _ _ _ _ _ _ _ _ _ _ _ _ _ _ _ _ _ _ _ _ r hs9 h2 => ms_ofTariff C hd hcs hX hnn hii hB hs9 h2 hk)
set_option maxRecDepth 100000 in
set_option maxHeartbeats 400000 in
theorem cs_ride {g : Gd} {X : Bd} {d mc ms cs ss : Nat} {f0 h0 s0 p0 o0 d0 h1 p1 : Nat} {rf : Nat → Option Nat} {a0 a1 a2 a3 a4 a5 a6 a7 : Nat} {b nn ii : Nat} {xs : Nat → Int32} (C : Cx g X RL cL_law 4 d mc ms) (hd : 8 ≤ d) (hcs : cs ≤ mc ∧ ss ≤ ms) (hX : SC X b nn xs) (hnn : nn < 2 ^ 31) (hii : ii + 6 ≤ nn) {B : Nat} (hB : B + 82 < 2 ^ 31)  {j : Nat} {r0 : Mt} {r1 : Mt} {r2 : Mt} {r3 : Mt} {r4 : Mt} {r5 : Mt} {r6 : Mt} {mm : Mt} {mu : Mt} {mv : Mt} {f1 : Int32} {f2 : Int32} {hs : Nat} {ln : Nat} {cp : Nat → Int32} {o1 : Int32} {o2 : Int32} {o3 : Int32} {o4 : Int32} {D : Nat → Int32} {z : Zt} {past : Zt} {pm : Nat} {sl : Zt} {sv : Zt} {pd : Zt} {ty : Nat} {y : Zt} {od : Zt} {om : Int32} {sp : Int32} {wr : Int32} (h : REL rf j r0 r1 r2 r3 r4 r5 r6 mm mu mv f1 f2 hs ln cp z past pm sl sv pd ty B) (kk : ∀ (j' : Nat) (r0' : Mt) (r1' : Mt) (r2' : Mt) (r3' : Mt) (r4' : Mt) (r5' : Mt) (r6' : Mt) (mm' : Mt) (mu' : Mt) (mv' : Mt) (f1' : Int32) (f2' : Int32) (hs' : Nat) (ln' : Nat) (cp' : Nat → Int32) (o1' : Int32) (o2' : Int32) (o3' : Int32) (o4' : Int32) (D' : Nat → Int32) (r : Int32), rideR z (xs (ii + 1)) = r → REL rf j' r0' r1' r2' r3' r4' r5' r6' mm' mu' mv' f1' f2' hs' ln' cp' z past pm sl sv pd ty (B + 82) → V g X cs ss (SW g f0 h0 s0 p0 o0 d0 h1 p1 rf a0 a1 a2 a3 a4 a5 a6 a7 j' r0' r1' r2' r3' r4' r5' r6' mm' mu' mv' f1' f2' hs' ln' cp' o1' o2' o3' o4' D' z past pm sl sv pd ty y od om sp wr) 413 [(3, .int (nI ii)), (2, .ref a0), (1, .ref f0), (0, .ref b)] [.int r]) : V g X cs ss (SW g f0 h0 s0 p0 o0 d0 h1 p1 rf a0 a1 a2 a3 a4 a5 a6 a7 j r0 r1 r2 r3 r4 r5 r6 mm mu mv f1 f2 hs ln cp o1 o2 o3 o4 D z past pm sl sv pd ty y od om sp wr) 404 [(3, .int (nI ii)), (2, .ref a0), (1, .ref f0), (0, .ref b)] [] := by
  obtain ⟨e0, ⟨hj, hpm, ⟨hr0, -, -, -, -, -, hr6⟩, -⟩, ⟨hRM, hZ⟩, -, -, hPA⟩ := id h
  have hRM : RM mm.2.1 mm.2.2.1 mm.2.2.2.1 mm.2.2.2.2 z := hRM
  obtain ⟨hck, hz37, htN, hzt⟩ := IZ_ck hZ
  have g38 : mm.2.2.2.1 38 = z 38 := hRM.g 38 (by omega) (by omega) (by omega)
  have hhs : hs ≤ 6 := by omega
  refine V_aload_n C 2 dL_law_404 rfl rfl ?_
  refine V_aload_n C 3 dL_law_405 rfl rfl ?_
  refine V_iload_n C 0 dL_law_406 rfl rfl ?_
  refine V_iconst (v := 1) C dL_law_407 (by decide) ?_
  refine V_iadd C dL_law_408 ?_
  refine V_ev (show (nI ii + 1 : Int32) = nI (ii + 1) from nI_add ii 1) ?_
  refine V_sld C hX (ii + 1) (by omega) hnn dL_law_409 ?_
  refine V_callB (q0 := 0) (na := 1) (As := [.int (xs (ii + 1))]) (rest := []) (bs := (SWB g f0 h0 s0 p0 o0 d0 h1 p1 rf a0 a1 a2 a3 a4 a5 a6 a7 j r0 r1 r2 r3 r4 r5 r6 mm mu mv f1 f2 hs ln cp o1 o2 o3 o4 D z past pm sl sv pd ty y od om sp wr)) C (c_X9_ride g f0 h0 s0 p0 o0 d0 h1 (mm.1 0) (mm.1 1) (mm.1 2) (mm.1 3) (mm.1 4) (mm.1 5) (mm.1 6) mm.2.1 mm.2.2.1 mm.2.2.2.1 mm.2.2.2.2 (xs (ii + 1)) ) ⟨⟨ini_X9, co_X9_ride, ⟨by decide, by decide, by decide +kernel⟩, by decide⟩, ml_L_57, im_X9_ride, se_X9_ride⟩ [0, 4] [1, 2, 3, 5, 6, 7, 8, 9, 10, 11, 12, 13, 14, 15, 16, 17, 18, 19, 20, 21, 22, 23, 24, 25] (SWB_len ..) rfl rfl rfl rfl rfl rfl (Nat.le_of_ble_eq_true rfl) (by omega) (by omega) dL_law_410 (fun r w_ hw => ?_)
  have hq : w_ = (pkB [0, 4] (SWB g f0 h0 s0 p0 o0 d0 h1 p1 rf a0 a1 a2 a3 a4 a5 a6 a7 j r0 r1 r2 r3 r4 r5 r6 mm mu mv f1 f2 hs ln cp o1 o2 o3 o4 D z past pm sl sv pd ty y od om sp wr)).flatten ∧ rideR z (xs (ii + 1)) = r := by
    rcases hw with ⟨u1, rfl, rfl⟩ | ⟨u1, rfl, rfl⟩ | ⟨u1, rfl, rfl⟩ | ⟨u1, rfl, rfl⟩ | ⟨u1, rfl, rfl⟩ | ⟨u1, rfl, rfl⟩ | ⟨u1, rfl, rfl⟩ | ⟨u1, rfl, rfl⟩ | ⟨u1, rfl, rfl⟩ | ⟨u1, rfl, rfl⟩
    · exact ⟨rfl, by unfold rideR; rw [u1, show Int32.toNatClampNeg 0 = 0 from by decide]; exact (cif_t (ok8_nI (i := 0) (by omega))).trans (hRM.g 39 (by omega) (by omega) (by omega)).symm⟩
    · exact ⟨rfl, by unfold rideR; rw [u1, show Int32.toNatClampNeg 1 = 1 from by decide]; exact (cif_t (ok8_nI (i := 1) (by omega))).trans (hRM.g 40 (by omega) (by omega) (by omega)).symm⟩
    · exact ⟨rfl, by unfold rideR; rw [u1, show Int32.toNatClampNeg 2 = 2 from by decide]; exact (cif_t (ok8_nI (i := 2) (by omega))).trans (hRM.g 41 (by omega) (by omega) (by omega)).symm⟩
    · exact ⟨rfl, by unfold rideR; rw [u1, show Int32.toNatClampNeg 3 = 3 from by decide]; exact (cif_t (ok8_nI (i := 3) (by omega))).trans (hRM.g 42 (by omega) (by omega) (by omega)).symm⟩
    · exact ⟨rfl, by unfold rideR; rw [u1, show Int32.toNatClampNeg 4 = 4 from by decide]; exact (cif_t (ok8_nI (i := 4) (by omega))).trans (hRM.g 43 (by omega) (by omega) (by omega)).symm⟩
    · exact ⟨rfl, by unfold rideR; rw [u1, show Int32.toNatClampNeg 5 = 5 from by decide]; exact (cif_t (ok8_nI (i := 5) (by omega))).trans (hRM.g 44 (by omega) (by omega) (by omega)).symm⟩
    · exact ⟨rfl, by unfold rideR; rw [u1, show Int32.toNatClampNeg 6 = 6 from by decide]; exact (cif_t (ok8_nI (i := 6) (by omega))).trans (hRM.g 45 (by omega) (by omega) (by omega)).symm⟩
    · exact ⟨rfl, by unfold rideR; rw [u1, show Int32.toNatClampNeg 7 = 7 from by decide]; exact (cif_t (ok8_nI (i := 7) (by omega))).trans (hRM.g 46 (by omega) (by omega) (by omega)).symm⟩
    · exact ⟨rfl, by unfold rideR; rw [u1, show Int32.toNatClampNeg 8 = 8 from by decide]; exact (cif_t (ok8_nI (i := 8) (by omega))).trans (hRM.g 47 (by omega) (by omega) (by omega)).symm⟩
    · exact ⟨rfl, by unfold rideR; exact cif_f u1⟩
  obtain ⟨hw9, hr9⟩ := hq
  refine V_Perm (ws2 := SW g f0 h0 s0 p0 o0 d0 h1 p1 rf a0 a1 a2 a3 a4 a5 a6 a7 j r0 r1 r2 r3 r4 r5 r6 mm mu mv f1 f2 hs ln cp o1 o2 o3 o4 D z past pm sl sv pd ty y od om sp wr) (perm_out (bl := [[(h0, .inr (1, [.ref h1, .int (nI j), .int (nI hs)]))], [(h1, .inl (gM g, 7, .inr (.inr (.inr (.inr rf)))))], mW g r0, [(d0, .inr (0, [.int (D 0), .int (D 1), .int (D 2), .int (D 3), .int (D 4), .int (D 5), .int (D 6), .int (D 7), .int (D 8), .int (D 9), .int (D 10)]))], [(o0, .inr (4, [.int o1, .int o2, .int o3, .int o4]))], [(p0, .inr (5, [.ref p1, .int (nI ln)]))], [(p1, .inl (gC g, 80, .inl cp))], [(s0, .inr (7, [.ref (mu.1 0), .ref (mv.1 0), .int f1, .int f2]))], mW g mu, mW g mv, [(a0, .inr (10, [.ref a1, .ref a2, .ref a3, .ref a4, .int (nI pm), .ref a5, .ref a6, .int (nI ty), .ref a7, .int om, .int sp, .int wr]))], [(a1, .inl (gI g, 113, .inl z))], [(a2, .inl (gI g, 678, .inl past))], [(a3, .inl (gI g, 226, .inl sl))], [(a4, .inl (gZ g, 2, .inl sv))], [(a5, .inl (gI g, 113, .inl y))], [(a6, .inl (gC g, 80, .inl pd))], [(a7, .inl (gI g, 123, .inl od))], mW g r1, mW g r2, mW g r3, mW g r4, mW g r5, mW g r6]) [1, 2, 3, 5, 6, 7, 8, 9, 10, 11, 12, 13, 14, 15, 16, 17, 18, 19, 20, 21, 22, 23, 24, 25] [1, 2, 3, 5, 6, 7, 8, 9, 10, 11, 12, 13, 14, 15, 16, 17, 18, 19, 20, 21, 22, 23, 24, 25] [0, 4] (SWB_len ..) rfl hw9 rfl rfl) ?_
  exact kk j r0 r1 r2 r3 r4 r5 r6 mm mu mv f1 f2 hs ln cp o1 o2 o3 o4 D _ hr9 (h.up (by omega))
set_option maxRecDepth 100000 in
set_option maxHeartbeats 400000 in
theorem ms_ride {g : Gd} {X : Bd} {d mc ms cs ss : Nat} {f0 h0 s0 p0 o0 d0 h1 p1 : Nat} {rf : Nat → Option Nat} {a0 a1 a2 a3 a4 a5 a6 a7 : Nat} {b nn ii : Nat} {xs : Nat → Int32} (C : Cx g X RL cL_law 4 d mc ms) (hd : 8 ≤ d) (hcs : cs ≤ mc ∧ ss ≤ ms) (hX : SC X b nn xs) (hnn : nn < 2 ^ 31) (hii : ii + 6 ≤ nn) {B : Nat} (hB : B + 82 < 2 ^ 31)  {j : Nat} {r0 : Mt} {r1 : Mt} {r2 : Mt} {r3 : Mt} {r4 : Mt} {r5 : Mt} {r6 : Mt} {mm : Mt} {mu : Mt} {mv : Mt} {f1 : Int32} {f2 : Int32} {hs : Nat} {ln : Nat} {cp : Nat → Int32} {o1 : Int32} {o2 : Int32} {o3 : Int32} {o4 : Int32} {D : Nat → Int32} {z : Zt} {past : Zt} {pm : Nat} {sl : Zt} {sv : Zt} {pd : Zt} {ty : Nat} {y : Zt} {od : Zt} {om : Int32} {sp : Int32} {wr : Int32} {r : Int32} (hs9 : rideR z (xs (ii + 1)) = r) (h : REL rf j r0 r1 r2 r3 r4 r5 r6 mm mu mv f1 f2 hs ln cp z past pm sl sv pd ty (B + 82)) (kk : LPR g X cs ss f0 h0 s0 p0 o0 d0 h1 p1 rf a0 a1 a2 a3 a4 a5 a6 a7 776 [(3, .int (nI ii)), (2, .ref a0), (1, .ref f0), (0, .ref b)] (B + 82)) : V g X cs ss (SW g f0 h0 s0 p0 o0 d0 h1 p1 rf a0 a1 a2 a3 a4 a5 a6 a7 j r0 r1 r2 r3 r4 r5 r6 mm mu mv f1 f2 hs ln cp o1 o2 o3 o4 D z past pm sl sv pd ty y od om sp wr) 413 [(3, .int (nI ii)), (2, .ref a0), (1, .ref f0), (0, .ref b)] [.int r] := by
  obtain ⟨-, ⟨-, hpm, -⟩, ⟨-, hZ⟩, -⟩ := id h
  obtain ⟨hck, hz37, htN, hzt⟩ := IZ_ck hZ
  refine V_aload_n C 1 dL_law_413 rfl rfl ?_
  refine V_aload_n C 3 dL_law_414 rfl rfl ?_
  refine V_iload_n C 0 dL_law_415 rfl rfl ?_
  refine V_iconst (v := 1) C dL_law_416 (by decide) ?_
  refine V_iadd C dL_law_417 ?_
  refine V_ev (show (nI ii + 1 : Int32) = nI (ii + 1) from nI_add ii 1) ?_
  refine V_sld C hX (ii + 1) (by omega) hnn dL_law_418 ?_
  refine V_callB (q0 := 0) (na := 1) (As := [.int (xs (ii + 1))]) (rest := [.int r]) (bs := (SWB g f0 h0 s0 p0 o0 d0 h1 p1 rf a0 a1 a2 a3 a4 a5 a6 a7 j r0 r1 r2 r3 r4 r5 r6 mm mu mv f1 f2 hs ln cp o1 o2 o3 o4 D z past pm sl sv pd ty y od om sp wr)) C (c_X10_ride g a0 a1 a2 a3 a4 a5 a6 a7 (nI pm) (nI ty) om sp wr z (xs (ii + 1)) ) ⟨⟨ini_X10, co_X10_ride, ⟨by decide, by decide, by decide +kernel⟩, by decide⟩, ml_L_60, im_X10_ride, se_X10_ride⟩ [12, 13] [0, 1, 2, 3, 4, 5, 6, 7, 8, 9, 10, 11, 14, 15, 16, 17, 18, 19, 20, 21, 22, 23, 24, 25] (SWB_len ..) rfl rfl rfl rfl rfl rfl (Nat.le_of_ble_eq_true rfl) (by omega) (by omega) dL_law_419 (fun rq w_ hw => ?_)
  have hq : w_ = (pkB [12, 13] (SWB g f0 h0 s0 p0 o0 d0 h1 p1 rf a0 a1 a2 a3 a4 a5 a6 a7 j r0 r1 r2 r3 r4 r5 r6 mm mu mv f1 f2 hs ln cp o1 o2 o3 o4 D z past pm sl sv pd ty y od om sp wr)).flatten ∧ rideR z (xs (ii + 1)) = rq := by
    rcases hw with ⟨u1, rfl, rfl⟩ | ⟨w1, u1, u2, rfl, rfl⟩
    · exact ⟨rfl, by unfold rideR; exact cif_f u1⟩
    · exact ⟨rfl, by unfold rideR; rw [cif_t (by rw [u2]; exact ok8_nI (by omega)), cl_of u2 (by omega)]⟩
  obtain ⟨hw9, hr9⟩ := hq
  refine V_Perm (ws2 := SW g f0 h0 s0 p0 o0 d0 h1 p1 rf a0 a1 a2 a3 a4 a5 a6 a7 j r0 r1 r2 r3 r4 r5 r6 mm mu mv f1 f2 hs ln cp o1 o2 o3 o4 D z past pm sl sv pd ty y od om sp wr) (perm_out (bl := [[(f0, .inr (9, [.ref (mm.1 0), .ref h0, .ref s0, .ref p0, .ref o0, .ref d0]))], [(h0, .inr (1, [.ref h1, .int (nI j), .int (nI hs)]))], [(h1, .inl (gM g, 7, .inr (.inr (.inr (.inr rf)))))], mW g r0, mW g mm, [(d0, .inr (0, [.int (D 0), .int (D 1), .int (D 2), .int (D 3), .int (D 4), .int (D 5), .int (D 6), .int (D 7), .int (D 8), .int (D 9), .int (D 10)]))], [(o0, .inr (4, [.int o1, .int o2, .int o3, .int o4]))], [(p0, .inr (5, [.ref p1, .int (nI ln)]))], [(p1, .inl (gC g, 80, .inl cp))], [(s0, .inr (7, [.ref (mu.1 0), .ref (mv.1 0), .int f1, .int f2]))], mW g mu, mW g mv, [(a2, .inl (gI g, 678, .inl past))], [(a3, .inl (gI g, 226, .inl sl))], [(a4, .inl (gZ g, 2, .inl sv))], [(a5, .inl (gI g, 113, .inl y))], [(a6, .inl (gC g, 80, .inl pd))], [(a7, .inl (gI g, 123, .inl od))], mW g r1, mW g r2, mW g r3, mW g r4, mW g r5, mW g r6]) [0, 1, 2, 3, 4, 5, 6, 7, 8, 9, 10, 11, 14, 15, 16, 17, 18, 19, 20, 21, 22, 23, 24, 25] [0, 1, 2, 3, 4, 5, 6, 7, 8, 9, 10, 11, 14, 15, 16, 17, 18, 19, 20, 21, 22, 23, 24, 25] [12, 13] (SWB_len ..) rfl hw9 rfl rfl) ?_
  refine V_icmp_eq (tgt := 776) C dL_law_422 (by decide) (fun _ => ?_) (fun h9 => absurd (hs9.symm.trans hr9) h9)
  exact kk j r0 r1 r2 r3 r4 r5 r6 mm mu mv f1 f2 hs ln cp o1 o2 o3 o4 D z past pm sl sv pd ty y od om sp wr h
theorem ca_ride {g : Gd} {X : Bd} {d mc ms cs ss : Nat} {f0 h0 s0 p0 o0 d0 h1 p1 : Nat} {rf : Nat → Option Nat} {a0 a1 a2 a3 a4 a5 a6 a7 : Nat} {b nn ii : Nat} {xs : Nat → Int32} (C : Cx g X RL cL_law 4 d mc ms) (hd : 8 ≤ d) (hcs : cs ≤ mc ∧ ss ≤ ms) (hX : SC X b nn xs) (hnn : nn < 2 ^ 31) (hii : ii + 6 ≤ nn) {B : Nat} (hB : B + 82 < 2 ^ 31)  (hk : LPR g X cs ss f0 h0 s0 p0 o0 d0 h1 p1 rf a0 a1 a2 a3 a4 a5 a6 a7 776 [(3, .int (nI ii)), (2, .ref a0), (1, .ref f0), (0, .ref b)] (B + 82)) : LPR g X cs ss f0 h0 s0 p0 o0 d0 h1 p1 rf a0 a1 a2 a3 a4 a5 a6 a7 404 [(3, .int (nI ii)), (2, .ref a0), (1, .ref f0), (0, .ref b)] B := by
  intro j r0 r1 r2 r3 r4 r5 r6 mm mu mv f1 f2 hs ln cp o1 o2 o3 o4 D z past pm sl sv pd ty y od om sp wr h
  exact cs_ride C hd hcs hX hnn hii hB h (fun _ _ _ _ _ _ _ _ _ _ _ _ _ _ _ _ _ _ _ _ _ r hs9 h2 => ms_ride C hd hcs hX hnn hii hB hs9 h2 hk)
set_option maxRecDepth 100000 in
set_option maxHeartbeats 400000 in
theorem cs_log {g : Gd} {X : Bd} {d mc ms cs ss : Nat} {f0 h0 s0 p0 o0 d0 h1 p1 : Nat} {rf : Nat → Option Nat} {a0 a1 a2 a3 a4 a5 a6 a7 : Nat} {b nn ii : Nat} {xs : Nat → Int32} (C : Cx g X RL cL_law 4 d mc ms) (hd : 8 ≤ d) (hcs : cs ≤ mc ∧ ss ≤ ms) (hX : SC X b nn xs) (hnn : nn < 2 ^ 31) (hii : ii + 6 ≤ nn) {B : Nat} (hB : B + 82 < 2 ^ 31)  {j : Nat} {r0 : Mt} {r1 : Mt} {r2 : Mt} {r3 : Mt} {r4 : Mt} {r5 : Mt} {r6 : Mt} {mm : Mt} {mu : Mt} {mv : Mt} {f1 : Int32} {f2 : Int32} {hs : Nat} {ln : Nat} {cp : Nat → Int32} {o1 : Int32} {o2 : Int32} {o3 : Int32} {o4 : Int32} {D : Nat → Int32} {z : Zt} {past : Zt} {pm : Nat} {sl : Zt} {sv : Zt} {pd : Zt} {ty : Nat} {y : Zt} {od : Zt} {om : Int32} {sp : Int32} {wr : Int32} (h : REL rf j r0 r1 r2 r3 r4 r5 r6 mm mu mv f1 f2 hs ln cp z past pm sl sv pd ty B) (kk : ∀ (j' : Nat) (r0' : Mt) (r1' : Mt) (r2' : Mt) (r3' : Mt) (r4' : Mt) (r5' : Mt) (r6' : Mt) (mm' : Mt) (mu' : Mt) (mv' : Mt) (f1' : Int32) (f2' : Int32) (hs' : Nat) (ln' : Nat) (cp' : Nat → Int32) (o1' : Int32) (o2' : Int32) (o3' : Int32) (o4' : Int32) (D' : Nat → Int32) (r : Int32), logR z (xs (ii + 1)) (xs (ii + 2)) = r → REL rf j' r0' r1' r2' r3' r4' r5' r6' mm' mu' mv' f1' f2' hs' ln' cp' z past pm sl sv pd ty (B + 82) → V g X cs ss (SW g f0 h0 s0 p0 o0 d0 h1 p1 rf a0 a1 a2 a3 a4 a5 a6 a7 j' r0' r1' r2' r3' r4' r5' r6' mm' mu' mv' f1' f2' hs' ln' cp' o1' o2' o3' o4' D' z past pm sl sv pd ty y od om sp wr) 441 [(3, .int (nI ii)), (2, .ref a0), (1, .ref f0), (0, .ref b)] [.int r]) : V g X cs ss (SW g f0 h0 s0 p0 o0 d0 h1 p1 rf a0 a1 a2 a3 a4 a5 a6 a7 j r0 r1 r2 r3 r4 r5 r6 mm mu mv f1 f2 hs ln cp o1 o2 o3 o4 D z past pm sl sv pd ty y od om sp wr) 427 [(3, .int (nI ii)), (2, .ref a0), (1, .ref f0), (0, .ref b)] [] := by
  obtain ⟨e0, ⟨hj, hpm, ⟨hr0, -, -, -, -, -, hr6⟩, -⟩, ⟨hRM, hZ⟩, -, -, hPA⟩ := id h
  have hRM : RM mm.2.1 mm.2.2.1 mm.2.2.2.1 mm.2.2.2.2 z := hRM
  obtain ⟨hck, hz37, htN, hzt⟩ := IZ_ck hZ
  have g38 : mm.2.2.2.1 38 = z 38 := hRM.g 38 (by omega) (by omega) (by omega)
  have hhs : hs ≤ 6 := by omega
  obtain ⟨jl, hjl, hgj, hLq⟩ := hRM.2.2.2.2
  obtain ⟨lg, hlg, h52⟩ := hZ.lg
  have g52 : mm.2.2.2.1 52 = z 52 := hRM.g 52 (by omega) (by omega) (by omega)
  refine V_aload_n C 2 dL_law_427 rfl rfl ?_
  refine V_aload_n C 3 dL_law_428 rfl rfl ?_
  refine V_iload_n C 0 dL_law_429 rfl rfl ?_
  refine V_iconst (v := 1) C dL_law_430 (by decide) ?_
  refine V_iadd C dL_law_431 ?_
  refine V_ev (show (nI ii + 1 : Int32) = nI (ii + 1) from nI_add ii 1) ?_
  refine V_sld C hX (ii + 1) (by omega) hnn dL_law_432 ?_
  refine V_aload_n C 3 dL_law_433 rfl rfl ?_
  refine V_iload_n C 0 dL_law_434 rfl rfl ?_
  refine V_iconst (v := 2) C dL_law_435 (by decide) ?_
  refine V_iadd C dL_law_436 ?_
  refine V_ev (show (nI ii + 2 : Int32) = nI (ii + 2) from nI_add ii 2) ?_
  refine V_sld C hX (ii + 2) (by omega) hnn dL_law_437 ?_
  refine V_callB (q0 := 0) (na := 2) (As := [.int (xs (ii + 1)), .int (xs (ii + 2))]) (rest := []) (bs := (SWB g f0 h0 s0 p0 o0 d0 h1 p1 rf a0 a1 a2 a3 a4 a5 a6 a7 j r0 r1 r2 r3 r4 r5 r6 mm mu mv f1 f2 hs ln cp o1 o2 o3 o4 D z past pm sl sv pd ty y od om sp wr)) C (c_X9_log g f0 h0 s0 p0 o0 d0 h1 (mm.1 0) (mm.1 1) (mm.1 2) (mm.1 3) (mm.1 4) (mm.1 5) (mm.1 6) mm.2.1 mm.2.2.1 mm.2.2.2.1 mm.2.2.2.2 lg jl (xs (ii + 1)) (xs (ii + 2)) hlg (g52.trans h52) hgj hjl) ⟨⟨ini_X9, co_X9_log, ⟨by decide, by decide, by decide +kernel⟩, by decide⟩, ml_L_61, im_X9_log, se_X9_log⟩ [0, 4] [1, 2, 3, 5, 6, 7, 8, 9, 10, 11, 12, 13, 14, 15, 16, 17, 18, 19, 20, 21, 22, 23, 24, 25] (SWB_len ..) rfl rfl rfl rfl rfl rfl (Nat.le_of_ble_eq_true rfl) (by omega) (by omega) dL_law_438 (fun r w_ hw => ?_)
  have hq : w_ = (pkB [0, 4] (SWB g f0 h0 s0 p0 o0 d0 h1 p1 rf a0 a1 a2 a3 a4 a5 a6 a7 j r0 r1 r2 r3 r4 r5 r6 mm mu mv f1 f2 hs ln cp o1 o2 o3 o4 D z past pm sl sv pd ty y od om sp wr)).flatten ∧ logR z (xs (ii + 1)) (xs (ii + 2)) = r := by
    rcases hw with ⟨u1, rfl, rfl⟩ | ⟨u1, u2, rfl, rfl⟩ | ⟨a9, w1, u1, u2, u3, u4, rfl, rfl⟩
    · exact ⟨rfl, by unfold logR; rw [h52]; exact cif_f u1⟩
    · exact ⟨rfl, by unfold logR; rw [h52, cif_t u1, cif_f u2]⟩
    · exact ⟨rfl, by unfold logR; rw [h52, cif_t (by rw [u3]; exact okL_nI u1 hlg), cif_t (by rw [u4]; exact ok4_nI (by omega)), cl_of u3 (by omega), cl_of u4 (by omega)]; exact (hLq a9 w1 (by omega) u2).symm⟩
  obtain ⟨hw9, hr9⟩ := hq
  refine V_Perm (ws2 := SW g f0 h0 s0 p0 o0 d0 h1 p1 rf a0 a1 a2 a3 a4 a5 a6 a7 j r0 r1 r2 r3 r4 r5 r6 mm mu mv f1 f2 hs ln cp o1 o2 o3 o4 D z past pm sl sv pd ty y od om sp wr) (perm_out (bl := [[(h0, .inr (1, [.ref h1, .int (nI j), .int (nI hs)]))], [(h1, .inl (gM g, 7, .inr (.inr (.inr (.inr rf)))))], mW g r0, [(d0, .inr (0, [.int (D 0), .int (D 1), .int (D 2), .int (D 3), .int (D 4), .int (D 5), .int (D 6), .int (D 7), .int (D 8), .int (D 9), .int (D 10)]))], [(o0, .inr (4, [.int o1, .int o2, .int o3, .int o4]))], [(p0, .inr (5, [.ref p1, .int (nI ln)]))], [(p1, .inl (gC g, 80, .inl cp))], [(s0, .inr (7, [.ref (mu.1 0), .ref (mv.1 0), .int f1, .int f2]))], mW g mu, mW g mv, [(a0, .inr (10, [.ref a1, .ref a2, .ref a3, .ref a4, .int (nI pm), .ref a5, .ref a6, .int (nI ty), .ref a7, .int om, .int sp, .int wr]))], [(a1, .inl (gI g, 113, .inl z))], [(a2, .inl (gI g, 678, .inl past))], [(a3, .inl (gI g, 226, .inl sl))], [(a4, .inl (gZ g, 2, .inl sv))], [(a5, .inl (gI g, 113, .inl y))], [(a6, .inl (gC g, 80, .inl pd))], [(a7, .inl (gI g, 123, .inl od))], mW g r1, mW g r2, mW g r3, mW g r4, mW g r5, mW g r6]) [1, 2, 3, 5, 6, 7, 8, 9, 10, 11, 12, 13, 14, 15, 16, 17, 18, 19, 20, 21, 22, 23, 24, 25] [1, 2, 3, 5, 6, 7, 8, 9, 10, 11, 12, 13, 14, 15, 16, 17, 18, 19, 20, 21, 22, 23, 24, 25] [0, 4] (SWB_len ..) rfl hw9 rfl rfl) ?_
  exact kk j r0 r1 r2 r3 r4 r5 r6 mm mu mv f1 f2 hs ln cp o1 o2 o3 o4 D _ hr9 (h.up (by omega))
set_option maxRecDepth 100000 in
set_option maxHeartbeats 400000 in
theorem ms_log {g : Gd} {X : Bd} {d mc ms cs ss : Nat} {f0 h0 s0 p0 o0 d0 h1 p1 : Nat} {rf : Nat → Option Nat} {a0 a1 a2 a3 a4 a5 a6 a7 : Nat} {b nn ii : Nat} {xs : Nat → Int32} (C : Cx g X RL cL_law 4 d mc ms) (hd : 8 ≤ d) (hcs : cs ≤ mc ∧ ss ≤ ms) (hX : SC X b nn xs) (hnn : nn < 2 ^ 31) (hii : ii + 6 ≤ nn) {B : Nat} (hB : B + 82 < 2 ^ 31)  {j : Nat} {r0 : Mt} {r1 : Mt} {r2 : Mt} {r3 : Mt} {r4 : Mt} {r5 : Mt} {r6 : Mt} {mm : Mt} {mu : Mt} {mv : Mt} {f1 : Int32} {f2 : Int32} {hs : Nat} {ln : Nat} {cp : Nat → Int32} {o1 : Int32} {o2 : Int32} {o3 : Int32} {o4 : Int32} {D : Nat → Int32} {z : Zt} {past : Zt} {pm : Nat} {sl : Zt} {sv : Zt} {pd : Zt} {ty : Nat} {y : Zt} {od : Zt} {om : Int32} {sp : Int32} {wr : Int32} {r : Int32} (hs9 : logR z (xs (ii + 1)) (xs (ii + 2)) = r) (h : REL rf j r0 r1 r2 r3 r4 r5 r6 mm mu mv f1 f2 hs ln cp z past pm sl sv pd ty (B + 82)) (kk : LPR g X cs ss f0 h0 s0 p0 o0 d0 h1 p1 rf a0 a1 a2 a3 a4 a5 a6 a7 776 [(3, .int (nI ii)), (2, .ref a0), (1, .ref f0), (0, .ref b)] (B + 82)) : V g X cs ss (SW g f0 h0 s0 p0 o0 d0 h1 p1 rf a0 a1 a2 a3 a4 a5 a6 a7 j r0 r1 r2 r3 r4 r5 r6 mm mu mv f1 f2 hs ln cp o1 o2 o3 o4 D z past pm sl sv pd ty y od om sp wr) 441 [(3, .int (nI ii)), (2, .ref a0), (1, .ref f0), (0, .ref b)] [.int r] := by
  obtain ⟨-, ⟨-, hpm, -⟩, ⟨-, hZ⟩, -⟩ := id h
  obtain ⟨hck, hz37, htN, hzt⟩ := IZ_ck hZ
  obtain ⟨lg, hlg, h52⟩ := hZ.lg
  refine V_aload_n C 1 dL_law_441 rfl rfl ?_
  refine V_aload_n C 3 dL_law_442 rfl rfl ?_
  refine V_iload_n C 0 dL_law_443 rfl rfl ?_
  refine V_iconst (v := 1) C dL_law_444 (by decide) ?_
  refine V_iadd C dL_law_445 ?_
  refine V_ev (show (nI ii + 1 : Int32) = nI (ii + 1) from nI_add ii 1) ?_
  refine V_sld C hX (ii + 1) (by omega) hnn dL_law_446 ?_
  refine V_aload_n C 3 dL_law_447 rfl rfl ?_
  refine V_iload_n C 0 dL_law_448 rfl rfl ?_
  refine V_iconst (v := 2) C dL_law_449 (by decide) ?_
  refine V_iadd C dL_law_450 ?_
  refine V_ev (show (nI ii + 2 : Int32) = nI (ii + 2) from nI_add ii 2) ?_
  refine V_sld C hX (ii + 2) (by omega) hnn dL_law_451 ?_
  refine V_callB (q0 := 0) (na := 2) (As := [.int (xs (ii + 1)), .int (xs (ii + 2))]) (rest := [.int r]) (bs := (SWB g f0 h0 s0 p0 o0 d0 h1 p1 rf a0 a1 a2 a3 a4 a5 a6 a7 j r0 r1 r2 r3 r4 r5 r6 mm mu mv f1 f2 hs ln cp o1 o2 o3 o4 D z past pm sl sv pd ty y od om sp wr)) C (c_X10_log g a0 a1 a2 a3 a4 a5 a6 a7 (nI pm) (nI ty) om sp wr z lg (xs (ii + 1)) (xs (ii + 2)) hlg h52) ⟨⟨ini_X10, co_X10_log, ⟨by decide, by decide, by decide +kernel⟩, by decide⟩, ml_L_64, im_X10_log, se_X10_log⟩ [12, 13] [0, 1, 2, 3, 4, 5, 6, 7, 8, 9, 10, 11, 14, 15, 16, 17, 18, 19, 20, 21, 22, 23, 24, 25] (SWB_len ..) rfl rfl rfl rfl rfl rfl (Nat.le_of_ble_eq_true rfl) (by omega) (by omega) dL_law_452 (fun rq w_ hw => ?_)
  have hq : w_ = (pkB [12, 13] (SWB g f0 h0 s0 p0 o0 d0 h1 p1 rf a0 a1 a2 a3 a4 a5 a6 a7 j r0 r1 r2 r3 r4 r5 r6 mm mu mv f1 f2 hs ln cp o1 o2 o3 o4 D z past pm sl sv pd ty y od om sp wr)).flatten ∧ logR z (xs (ii + 1)) (xs (ii + 2)) = rq := by
    rcases hw with ⟨u1, rfl, rfl⟩ | ⟨u1, u2, rfl, rfl⟩ | ⟨a9, w1, u1, u2, u3, u4, rfl, rfl⟩
    · exact ⟨rfl, by unfold logR; rw [h52]; exact cif_f u1⟩
    · exact ⟨rfl, by unfold logR; rw [h52, cif_t u1, cif_f u2]⟩
    · exact ⟨rfl, by unfold logR; rw [h52, cif_t (by rw [u3]; exact okL_nI u1 hlg), cif_t (by rw [u4]; exact ok4_nI (by omega)), cl_of u3 (by omega), cl_of u4 (by omega)]⟩
  obtain ⟨hw9, hr9⟩ := hq
  refine V_Perm (ws2 := SW g f0 h0 s0 p0 o0 d0 h1 p1 rf a0 a1 a2 a3 a4 a5 a6 a7 j r0 r1 r2 r3 r4 r5 r6 mm mu mv f1 f2 hs ln cp o1 o2 o3 o4 D z past pm sl sv pd ty y od om sp wr) (perm_out (bl := [[(f0, .inr (9, [.ref (mm.1 0), .ref h0, .ref s0, .ref p0, .ref o0, .ref d0]))], [(h0, .inr (1, [.ref h1, .int (nI j), .int (nI hs)]))], [(h1, .inl (gM g, 7, .inr (.inr (.inr (.inr rf)))))], mW g r0, mW g mm, [(d0, .inr (0, [.int (D 0), .int (D 1), .int (D 2), .int (D 3), .int (D 4), .int (D 5), .int (D 6), .int (D 7), .int (D 8), .int (D 9), .int (D 10)]))], [(o0, .inr (4, [.int o1, .int o2, .int o3, .int o4]))], [(p0, .inr (5, [.ref p1, .int (nI ln)]))], [(p1, .inl (gC g, 80, .inl cp))], [(s0, .inr (7, [.ref (mu.1 0), .ref (mv.1 0), .int f1, .int f2]))], mW g mu, mW g mv, [(a2, .inl (gI g, 678, .inl past))], [(a3, .inl (gI g, 226, .inl sl))], [(a4, .inl (gZ g, 2, .inl sv))], [(a5, .inl (gI g, 113, .inl y))], [(a6, .inl (gC g, 80, .inl pd))], [(a7, .inl (gI g, 123, .inl od))], mW g r1, mW g r2, mW g r3, mW g r4, mW g r5, mW g r6]) [0, 1, 2, 3, 4, 5, 6, 7, 8, 9, 10, 11, 14, 15, 16, 17, 18, 19, 20, 21, 22, 23, 24, 25] [0, 1, 2, 3, 4, 5, 6, 7, 8, 9, 10, 11, 14, 15, 16, 17, 18, 19, 20, 21, 22, 23, 24, 25] [12, 13] (SWB_len ..) rfl hw9 rfl rfl) ?_
  refine V_icmp_eq (tgt := 776) C dL_law_455 (by decide) (fun _ => ?_) (fun h9 => absurd (hs9.symm.trans hr9) h9)
  exact kk j r0 r1 r2 r3 r4 r5 r6 mm mu mv f1 f2 hs ln cp o1 o2 o3 o4 D z past pm sl sv pd ty y od om sp wr h
theorem ca_log {g : Gd} {X : Bd} {d mc ms cs ss : Nat} {f0 h0 s0 p0 o0 d0 h1 p1 : Nat} {rf : Nat → Option Nat} {a0 a1 a2 a3 a4 a5 a6 a7 : Nat} {b nn ii : Nat} {xs : Nat → Int32} (C : Cx g X RL cL_law 4 d mc ms) (hd : 8 ≤ d) (hcs : cs ≤ mc ∧ ss ≤ ms) (hX : SC X b nn xs) (hnn : nn < 2 ^ 31) (hii : ii + 6 ≤ nn) {B : Nat} (hB : B + 82 < 2 ^ 31)  (hk : LPR g X cs ss f0 h0 s0 p0 o0 d0 h1 p1 rf a0 a1 a2 a3 a4 a5 a6 a7 776 [(3, .int (nI ii)), (2, .ref a0), (1, .ref f0), (0, .ref b)] (B + 82)) : LPR g X cs ss f0 h0 s0 p0 o0 d0 h1 p1 rf a0 a1 a2 a3 a4 a5 a6 a7 427 [(3, .int (nI ii)), (2, .ref a0), (1, .ref f0), (0, .ref b)] B := by
  intro j r0 r1 r2 r3 r4 r5 r6 mm mu mv f1 f2 hs ln cp o1 o2 o3 o4 D z past pm sl sv pd ty y od om sp wr h
  exact cs_log C hd hcs hX hnn hii hB h (fun _ _ _ _ _ _ _ _ _ _ _ _ _ _ _ _ _ _ _ _ _ r hs9 h2 => ms_log C hd hcs hX hnn hii hB hs9 h2 hk)
set_option maxRecDepth 100000 in
set_option maxHeartbeats 400000 in
theorem cs_count {g : Gd} {X : Bd} {d mc ms cs ss : Nat} {f0 h0 s0 p0 o0 d0 h1 p1 : Nat} {rf : Nat → Option Nat} {a0 a1 a2 a3 a4 a5 a6 a7 : Nat} {b nn ii : Nat} {xs : Nat → Int32} (C : Cx g X RL cL_law 4 d mc ms) (hd : 8 ≤ d) (hcs : cs ≤ mc ∧ ss ≤ ms) (hX : SC X b nn xs) (hnn : nn < 2 ^ 31) (hii : ii + 6 ≤ nn) {B : Nat} (hB : B + 82 < 2 ^ 31)  {j : Nat} {r0 : Mt} {r1 : Mt} {r2 : Mt} {r3 : Mt} {r4 : Mt} {r5 : Mt} {r6 : Mt} {mm : Mt} {mu : Mt} {mv : Mt} {f1 : Int32} {f2 : Int32} {hs : Nat} {ln : Nat} {cp : Nat → Int32} {o1 : Int32} {o2 : Int32} {o3 : Int32} {o4 : Int32} {D : Nat → Int32} {z : Zt} {past : Zt} {pm : Nat} {sl : Zt} {sv : Zt} {pd : Zt} {ty : Nat} {y : Zt} {od : Zt} {om : Int32} {sp : Int32} {wr : Int32} (h : REL rf j r0 r1 r2 r3 r4 r5 r6 mm mu mv f1 f2 hs ln cp z past pm sl sv pd ty B) (kk : ∀ (j' : Nat) (r0' : Mt) (r1' : Mt) (r2' : Mt) (r3' : Mt) (r4' : Mt) (r5' : Mt) (r6' : Mt) (mm' : Mt) (mu' : Mt) (mv' : Mt) (f1' : Int32) (f2' : Int32) (hs' : Nat) (ln' : Nat) (cp' : Nat → Int32) (o1' : Int32) (o2' : Int32) (o3' : Int32) (o4' : Int32) (D' : Nat → Int32) (r : Int32), countR z ty pm (xs (ii + 1)) = r → REL rf j' r0' r1' r2' r3' r4' r5' r6' mm' mu' mv' f1' f2' hs' ln' cp' z past pm sl sv pd ty (B + 82) → V g X cs ss (SW g f0 h0 s0 p0 o0 d0 h1 p1 rf a0 a1 a2 a3 a4 a5 a6 a7 j' r0' r1' r2' r3' r4' r5' r6' mm' mu' mv' f1' f2' hs' ln' cp' o1' o2' o3' o4' D' z past pm sl sv pd ty y od om sp wr) 469 [(3, .int (nI ii)), (2, .ref a0), (1, .ref f0), (0, .ref b)] [.int r]) : V g X cs ss (SW g f0 h0 s0 p0 o0 d0 h1 p1 rf a0 a1 a2 a3 a4 a5 a6 a7 j r0 r1 r2 r3 r4 r5 r6 mm mu mv f1 f2 hs ln cp o1 o2 o3 o4 D z past pm sl sv pd ty y od om sp wr) 460 [(3, .int (nI ii)), (2, .ref a0), (1, .ref f0), (0, .ref b)] [] := by
  obtain ⟨e0, ⟨hj, hpm, ⟨hr0, -, -, -, -, -, hr6⟩, -⟩, ⟨hRM, hZ⟩, -, -, hPA⟩ := id h
  have hRM : RM mm.2.1 mm.2.2.1 mm.2.2.2.1 mm.2.2.2.2 z := hRM
  obtain ⟨hck, hz37, htN, hzt⟩ := IZ_ck hZ
  have g38 : mm.2.2.2.1 38 = z 38 := hRM.g 38 (by omega) (by omega) (by omega)
  have hhs : hs ≤ 6 := by omega
  refine V_aload_n C 2 dL_law_460 rfl rfl ?_
  refine V_aload_n C 3 dL_law_461 rfl rfl ?_
  refine V_iload_n C 0 dL_law_462 rfl rfl ?_
  refine V_iconst (v := 1) C dL_law_463 (by decide) ?_
  refine V_iadd C dL_law_464 ?_
  refine V_ev (show (nI ii + 1 : Int32) = nI (ii + 1) from nI_add ii 1) ?_
  refine V_sld C hX (ii + 1) (by omega) hnn dL_law_465 ?_
  refine V_callB (q0 := 0) (na := 1) (As := [.int (xs (ii + 1))]) (rest := []) (bs := (SWB g f0 h0 s0 p0 o0 d0 h1 p1 rf a0 a1 a2 a3 a4 a5 a6 a7 j r0 r1 r2 r3 r4 r5 r6 mm mu mv f1 f2 hs ln cp o1 o2 o3 o4 D z past pm sl sv pd ty y od om sp wr)) C (c_X9_count g f0 h0 s0 p0 o0 d0 h1 (mm.1 0) (mm.1 1) (mm.1 2) (mm.1 3) (mm.1 4) (mm.1 5) (mm.1 6) mm.2.1 mm.2.2.1 mm.2.2.2.1 mm.2.2.2.2 p1 (nI ln) j hs (clk z) (xs (ii + 1)) hck ((hRM.g 37 (by omega) (by omega) (by omega)).trans hz37)) ⟨⟨ini_X9, co_X9_count, ⟨by decide, by decide, by decide +kernel⟩, by decide⟩, ml_L_65, im_X9_count, se_X9_count⟩ [0, 1, 4, 7] [2, 3, 5, 6, 8, 9, 10, 11, 12, 13, 14, 15, 16, 17, 18, 19, 20, 21, 22, 23, 24, 25] (SWB_len ..) rfl rfl rfl rfl rfl rfl (Nat.le_of_ble_eq_true rfl) (by omega) (by omega) dL_law_466 (fun r w_ hw => ?_)
  have hq : w_ = (pkB [0, 1, 4, 7] (SWB g f0 h0 s0 p0 o0 d0 h1 p1 rf a0 a1 a2 a3 a4 a5 a6 a7 j r0 r1 r2 r3 r4 r5 r6 mm mu mv f1 f2 hs ln cp o1 o2 o3 o4 D z past pm sl sv pd ty y od om sp wr)).flatten ∧ countR z ty pm (xs (ii + 1)) = r := by
    rcases hw with ⟨u1, rfl, rfl⟩ | ⟨u1, rfl, rfl⟩ | ⟨u1, rfl, rfl⟩ | ⟨u1, rfl, rfl⟩ | ⟨u1, rfl, rfl⟩ | ⟨u1, rfl, rfl⟩ | ⟨u1, rfl, rfl⟩ | ⟨u1, rfl, rfl⟩ | ⟨u1, rfl, rfl⟩ | ⟨u1, rfl, rfl⟩
    · exact ⟨rfl, by unfold countR; rw [u1, show Int32.toNatClampNeg 0 = 0 from by decide]; exact (cif_t (ok8_nI (i := 0) (by omega))).trans (hz37)⟩
    · exact ⟨rfl, by unfold countR; rw [u1, show Int32.toNatClampNeg 1 = 1 from by decide]; exact (cif_t (ok8_nI (i := 1) (by omega))).trans (g38.symm)⟩
    · exact ⟨rfl, by unfold countR; rw [u1, show Int32.toNatClampNeg 2 = 2 from by decide]; exact (cif_t (ok8_nI (i := 2) (by omega))).trans ((hRM.2.1 _ (by omega)).symm)⟩
    · exact ⟨rfl, by unfold countR; rw [u1, show Int32.toNatClampNeg 3 = 3 from by decide]; exact (cif_t (ok8_nI (i := 3) (by omega))).trans ((hRM.g 36 (by omega) (by omega) (by omega)).symm)⟩
    · exact ⟨rfl, by unfold countR; rw [u1, show Int32.toNatClampNeg 4 = 4 from by decide]; exact (cif_t (ok8_nI (i := 4) (by omega))).trans ((hRM.g 50 (by omega) (by omega) (by omega)).symm)⟩
    · exact ⟨rfl, by unfold countR; rw [u1, show Int32.toNatClampNeg 5 = 5 from by decide]; exact (cif_t (ok8_nI (i := 5) (by omega))).trans ((hRM.g 51 (by omega) (by omega) (by omega)).symm)⟩
    · exact ⟨rfl, by unfold countR; rw [u1, show Int32.toNatClampNeg 6 = 6 from by decide]; exact (cif_t (ok8_nI (i := 6) (by omega))).trans ((hRM.g 52 (by omega) (by omega) (by omega)).symm)⟩
    · exact ⟨rfl, by unfold countR; rw [u1, show Int32.toNatClampNeg 7 = 7 from by decide]; exact (cif_t (ok8_nI (i := 7) (by omega))).trans (congrArg nI hPA.1.symm)⟩
    · exact ⟨rfl, by unfold countR; rw [u1, show Int32.toNatClampNeg 8 = 8 from by decide]; exact (cif_t (ok8_nI (i := 8) (by omega))).trans (congrArg nI e0.symm)⟩
    · exact ⟨rfl, by unfold countR; exact cif_f u1⟩
  obtain ⟨hw9, hr9⟩ := hq
  refine V_Perm (ws2 := SW g f0 h0 s0 p0 o0 d0 h1 p1 rf a0 a1 a2 a3 a4 a5 a6 a7 j r0 r1 r2 r3 r4 r5 r6 mm mu mv f1 f2 hs ln cp o1 o2 o3 o4 D z past pm sl sv pd ty y od om sp wr) (perm_out (bl := [[(h1, .inl (gM g, 7, .inr (.inr (.inr (.inr rf)))))], mW g r0, [(d0, .inr (0, [.int (D 0), .int (D 1), .int (D 2), .int (D 3), .int (D 4), .int (D 5), .int (D 6), .int (D 7), .int (D 8), .int (D 9), .int (D 10)]))], [(o0, .inr (4, [.int o1, .int o2, .int o3, .int o4]))], [(p1, .inl (gC g, 80, .inl cp))], [(s0, .inr (7, [.ref (mu.1 0), .ref (mv.1 0), .int f1, .int f2]))], mW g mu, mW g mv, [(a0, .inr (10, [.ref a1, .ref a2, .ref a3, .ref a4, .int (nI pm), .ref a5, .ref a6, .int (nI ty), .ref a7, .int om, .int sp, .int wr]))], [(a1, .inl (gI g, 113, .inl z))], [(a2, .inl (gI g, 678, .inl past))], [(a3, .inl (gI g, 226, .inl sl))], [(a4, .inl (gZ g, 2, .inl sv))], [(a5, .inl (gI g, 113, .inl y))], [(a6, .inl (gC g, 80, .inl pd))], [(a7, .inl (gI g, 123, .inl od))], mW g r1, mW g r2, mW g r3, mW g r4, mW g r5, mW g r6]) [2, 3, 5, 6, 8, 9, 10, 11, 12, 13, 14, 15, 16, 17, 18, 19, 20, 21, 22, 23, 24, 25] [2, 3, 5, 6, 8, 9, 10, 11, 12, 13, 14, 15, 16, 17, 18, 19, 20, 21, 22, 23, 24, 25] [0, 1, 4, 7] (SWB_len ..) rfl hw9 rfl rfl) ?_
  exact kk j r0 r1 r2 r3 r4 r5 r6 mm mu mv f1 f2 hs ln cp o1 o2 o3 o4 D _ hr9 (h.up (by omega))
set_option maxRecDepth 100000 in
set_option maxHeartbeats 400000 in
theorem ms_count {g : Gd} {X : Bd} {d mc ms cs ss : Nat} {f0 h0 s0 p0 o0 d0 h1 p1 : Nat} {rf : Nat → Option Nat} {a0 a1 a2 a3 a4 a5 a6 a7 : Nat} {b nn ii : Nat} {xs : Nat → Int32} (C : Cx g X RL cL_law 4 d mc ms) (hd : 8 ≤ d) (hcs : cs ≤ mc ∧ ss ≤ ms) (hX : SC X b nn xs) (hnn : nn < 2 ^ 31) (hii : ii + 6 ≤ nn) {B : Nat} (hB : B + 82 < 2 ^ 31)  {j : Nat} {r0 : Mt} {r1 : Mt} {r2 : Mt} {r3 : Mt} {r4 : Mt} {r5 : Mt} {r6 : Mt} {mm : Mt} {mu : Mt} {mv : Mt} {f1 : Int32} {f2 : Int32} {hs : Nat} {ln : Nat} {cp : Nat → Int32} {o1 : Int32} {o2 : Int32} {o3 : Int32} {o4 : Int32} {D : Nat → Int32} {z : Zt} {past : Zt} {pm : Nat} {sl : Zt} {sv : Zt} {pd : Zt} {ty : Nat} {y : Zt} {od : Zt} {om : Int32} {sp : Int32} {wr : Int32} {r : Int32} (hs9 : countR z ty pm (xs (ii + 1)) = r) (h : REL rf j r0 r1 r2 r3 r4 r5 r6 mm mu mv f1 f2 hs ln cp z past pm sl sv pd ty (B + 82)) (kk : LPR g X cs ss f0 h0 s0 p0 o0 d0 h1 p1 rf a0 a1 a2 a3 a4 a5 a6 a7 776 [(3, .int (nI ii)), (2, .ref a0), (1, .ref f0), (0, .ref b)] (B + 82)) : V g X cs ss (SW g f0 h0 s0 p0 o0 d0 h1 p1 rf a0 a1 a2 a3 a4 a5 a6 a7 j r0 r1 r2 r3 r4 r5 r6 mm mu mv f1 f2 hs ln cp o1 o2 o3 o4 D z past pm sl sv pd ty y od om sp wr) 469 [(3, .int (nI ii)), (2, .ref a0), (1, .ref f0), (0, .ref b)] [.int r] := by
  obtain ⟨-, ⟨-, hpm, -⟩, ⟨-, hZ⟩, -⟩ := id h
  obtain ⟨hck, hz37, htN, hzt⟩ := IZ_ck hZ
  refine V_aload_n C 1 dL_law_469 rfl rfl ?_
  refine V_aload_n C 3 dL_law_470 rfl rfl ?_
  refine V_iload_n C 0 dL_law_471 rfl rfl ?_
  refine V_iconst (v := 1) C dL_law_472 (by decide) ?_
  refine V_iadd C dL_law_473 ?_
  refine V_ev (show (nI ii + 1 : Int32) = nI (ii + 1) from nI_add ii 1) ?_
  refine V_sld C hX (ii + 1) (by omega) hnn dL_law_474 ?_
  refine V_callB (q0 := 0) (na := 1) (As := [.int (xs (ii + 1))]) (rest := [.int r]) (bs := (SWB g f0 h0 s0 p0 o0 d0 h1 p1 rf a0 a1 a2 a3 a4 a5 a6 a7 j r0 r1 r2 r3 r4 r5 r6 mm mu mv f1 f2 hs ln cp o1 o2 o3 o4 D z past pm sl sv pd ty y od om sp wr)) C (c_X10_count g a0 a1 a2 a3 a4 a5 a6 a7 (nI pm) (nI ty) om sp wr z (clk z) (xs (ii + 1)) hck hz37) ⟨⟨ini_X10, co_X10_count, ⟨by decide, by decide, by decide +kernel⟩, by decide⟩, ml_L_68, im_X10_count, se_X10_count⟩ [12, 13] [0, 1, 2, 3, 4, 5, 6, 7, 8, 9, 10, 11, 14, 15, 16, 17, 18, 19, 20, 21, 22, 23, 24, 25] (SWB_len ..) rfl rfl rfl rfl rfl rfl (Nat.le_of_ble_eq_true rfl) (by omega) (by omega) dL_law_475 (fun rq w_ hw => ?_)
  have hq : w_ = (pkB [12, 13] (SWB g f0 h0 s0 p0 o0 d0 h1 p1 rf a0 a1 a2 a3 a4 a5 a6 a7 j r0 r1 r2 r3 r4 r5 r6 mm mu mv f1 f2 hs ln cp o1 o2 o3 o4 D z past pm sl sv pd ty y od om sp wr)).flatten ∧ countR z ty pm (xs (ii + 1)) = rq := by
    rcases hw with ⟨u1, rfl, rfl⟩ | ⟨u1, rfl, rfl⟩ | ⟨u1, rfl, rfl⟩ | ⟨u1, rfl, rfl⟩ | ⟨u1, rfl, rfl⟩ | ⟨u1, rfl, rfl⟩ | ⟨u1, rfl, rfl⟩ | ⟨u1, rfl, rfl⟩ | ⟨u1, rfl, rfl⟩ | ⟨u1, rfl, rfl⟩
    · exact ⟨rfl, by unfold countR; rw [u1, show Int32.toNatClampNeg 0 = 0 from by decide]; exact (cif_t (ok8_nI (i := 0) (by omega))).trans (hz37)⟩
    · exact ⟨rfl, by unfold countR; rw [u1, show Int32.toNatClampNeg 1 = 1 from by decide]; exact (cif_t (ok8_nI (i := 1) (by omega))).trans (rfl)⟩
    · exact ⟨rfl, by unfold countR; rw [u1, show Int32.toNatClampNeg 2 = 2 from by decide]; exact (cif_t (ok8_nI (i := 2) (by omega))).trans (rfl)⟩
    · exact ⟨rfl, by unfold countR; rw [u1, show Int32.toNatClampNeg 3 = 3 from by decide]; exact (cif_t (ok8_nI (i := 3) (by omega))).trans (rfl)⟩
    · exact ⟨rfl, by unfold countR; rw [u1, show Int32.toNatClampNeg 4 = 4 from by decide]; exact (cif_t (ok8_nI (i := 4) (by omega))).trans (rfl)⟩
    · exact ⟨rfl, by unfold countR; rw [u1, show Int32.toNatClampNeg 5 = 5 from by decide]; exact (cif_t (ok8_nI (i := 5) (by omega))).trans (rfl)⟩
    · exact ⟨rfl, by unfold countR; rw [u1, show Int32.toNatClampNeg 6 = 6 from by decide]; exact (cif_t (ok8_nI (i := 6) (by omega))).trans (rfl)⟩
    · exact ⟨rfl, by unfold countR; rw [u1, show Int32.toNatClampNeg 7 = 7 from by decide]; exact (cif_t (ok8_nI (i := 7) (by omega))).trans (rfl)⟩
    · exact ⟨rfl, by unfold countR; rw [u1, show Int32.toNatClampNeg 8 = 8 from by decide]; exact (cif_t (ok8_nI (i := 8) (by omega))).trans (rfl)⟩
    · exact ⟨rfl, by unfold countR; exact cif_f u1⟩
  obtain ⟨hw9, hr9⟩ := hq
  refine V_Perm (ws2 := SW g f0 h0 s0 p0 o0 d0 h1 p1 rf a0 a1 a2 a3 a4 a5 a6 a7 j r0 r1 r2 r3 r4 r5 r6 mm mu mv f1 f2 hs ln cp o1 o2 o3 o4 D z past pm sl sv pd ty y od om sp wr) (perm_out (bl := [[(f0, .inr (9, [.ref (mm.1 0), .ref h0, .ref s0, .ref p0, .ref o0, .ref d0]))], [(h0, .inr (1, [.ref h1, .int (nI j), .int (nI hs)]))], [(h1, .inl (gM g, 7, .inr (.inr (.inr (.inr rf)))))], mW g r0, mW g mm, [(d0, .inr (0, [.int (D 0), .int (D 1), .int (D 2), .int (D 3), .int (D 4), .int (D 5), .int (D 6), .int (D 7), .int (D 8), .int (D 9), .int (D 10)]))], [(o0, .inr (4, [.int o1, .int o2, .int o3, .int o4]))], [(p0, .inr (5, [.ref p1, .int (nI ln)]))], [(p1, .inl (gC g, 80, .inl cp))], [(s0, .inr (7, [.ref (mu.1 0), .ref (mv.1 0), .int f1, .int f2]))], mW g mu, mW g mv, [(a2, .inl (gI g, 678, .inl past))], [(a3, .inl (gI g, 226, .inl sl))], [(a4, .inl (gZ g, 2, .inl sv))], [(a5, .inl (gI g, 113, .inl y))], [(a6, .inl (gC g, 80, .inl pd))], [(a7, .inl (gI g, 123, .inl od))], mW g r1, mW g r2, mW g r3, mW g r4, mW g r5, mW g r6]) [0, 1, 2, 3, 4, 5, 6, 7, 8, 9, 10, 11, 14, 15, 16, 17, 18, 19, 20, 21, 22, 23, 24, 25] [0, 1, 2, 3, 4, 5, 6, 7, 8, 9, 10, 11, 14, 15, 16, 17, 18, 19, 20, 21, 22, 23, 24, 25] [12, 13] (SWB_len ..) rfl hw9 rfl rfl) ?_
  refine V_icmp_eq (tgt := 776) C dL_law_478 (by decide) (fun _ => ?_) (fun h9 => absurd (hs9.symm.trans hr9) h9)
  exact kk j r0 r1 r2 r3 r4 r5 r6 mm mu mv f1 f2 hs ln cp o1 o2 o3 o4 D z past pm sl sv pd ty y od om sp wr h
theorem ca_count {g : Gd} {X : Bd} {d mc ms cs ss : Nat} {f0 h0 s0 p0 o0 d0 h1 p1 : Nat} {rf : Nat → Option Nat} {a0 a1 a2 a3 a4 a5 a6 a7 : Nat} {b nn ii : Nat} {xs : Nat → Int32} (C : Cx g X RL cL_law 4 d mc ms) (hd : 8 ≤ d) (hcs : cs ≤ mc ∧ ss ≤ ms) (hX : SC X b nn xs) (hnn : nn < 2 ^ 31) (hii : ii + 6 ≤ nn) {B : Nat} (hB : B + 82 < 2 ^ 31)  (hk : LPR g X cs ss f0 h0 s0 p0 o0 d0 h1 p1 rf a0 a1 a2 a3 a4 a5 a6 a7 776 [(3, .int (nI ii)), (2, .ref a0), (1, .ref f0), (0, .ref b)] (B + 82)) : LPR g X cs ss f0 h0 s0 p0 o0 d0 h1 p1 rf a0 a1 a2 a3 a4 a5 a6 a7 460 [(3, .int (nI ii)), (2, .ref a0), (1, .ref f0), (0, .ref b)] B := by
  intro j r0 r1 r2 r3 r4 r5 r6 mm mu mv f1 f2 hs ln cp o1 o2 o3 o4 D z past pm sl sv pd ty y od om sp wr h
  exact cs_count C hd hcs hX hnn hii hB h (fun _ _ _ _ _ _ _ _ _ _ _ _ _ _ _ _ _ _ _ _ _ r hs9 h2 => ms_count C hd hcs hX hnn hii hB hs9 h2 hk)
set_option maxRecDepth 100000 in
set_option maxHeartbeats 400000 in
theorem cs_would {g : Gd} {X : Bd} {d mc ms cs ss : Nat} {f0 h0 s0 p0 o0 d0 h1 p1 : Nat} {rf : Nat → Option Nat} {a0 a1 a2 a3 a4 a5 a6 a7 : Nat} {b nn ii : Nat} {xs : Nat → Int32} (C : Cx g X RL cL_law 4 d mc ms) (hd : 8 ≤ d) (hcs : cs ≤ mc ∧ ss ≤ ms) (hX : SC X b nn xs) (hnn : nn < 2 ^ 31) (hii : ii + 6 ≤ nn) {B : Nat} (hB : B + 82 < 2 ^ 31)  {j : Nat} {r0 : Mt} {r1 : Mt} {r2 : Mt} {r3 : Mt} {r4 : Mt} {r5 : Mt} {r6 : Mt} {mm : Mt} {mu : Mt} {mv : Mt} {f1 : Int32} {f2 : Int32} {hs : Nat} {ln : Nat} {cp : Nat → Int32} {o1 : Int32} {o2 : Int32} {o3 : Int32} {o4 : Int32} {D : Nat → Int32} {z : Zt} {past : Zt} {pm : Nat} {sl : Zt} {sv : Zt} {pd : Zt} {ty : Nat} {y : Zt} {od : Zt} {om : Int32} {sp : Int32} {wr : Int32} (h : REL rf j r0 r1 r2 r3 r4 r5 r6 mm mu mv f1 f2 hs ln cp z past pm sl sv pd ty B) (kk : ∀ (j' : Nat) (r0' : Mt) (r1' : Mt) (r2' : Mt) (r3' : Mt) (r4' : Mt) (r5' : Mt) (r6' : Mt) (mm' : Mt) (mu' : Mt) (mv' : Mt) (f1' : Int32) (f2' : Int32) (hs' : Nat) (ln' : Nat) (cp' : Nat → Int32) (o1' : Int32) (o2' : Int32) (o3' : Int32) (o4' : Int32) (D' : Nat → Int32) (r : Int32), wouldR z (xs (ii + 1)) (xs (ii + 2)) = r → REL rf j' r0' r1' r2' r3' r4' r5' r6' mm' mu' mv' f1' f2' hs' ln' cp' z past pm sl sv pd ty (B + 82) → V g X cs ss (SW g f0 h0 s0 p0 o0 d0 h1 p1 rf a0 a1 a2 a3 a4 a5 a6 a7 j' r0' r1' r2' r3' r4' r5' r6' mm' mu' mv' f1' f2' hs' ln' cp' o1' o2' o3' o4' D' z past pm sl sv pd ty y od om sp wr) 497 [(3, .int (nI ii)), (2, .ref a0), (1, .ref f0), (0, .ref b)] [.int r]) : V g X cs ss (SW g f0 h0 s0 p0 o0 d0 h1 p1 rf a0 a1 a2 a3 a4 a5 a6 a7 j r0 r1 r2 r3 r4 r5 r6 mm mu mv f1 f2 hs ln cp o1 o2 o3 o4 D z past pm sl sv pd ty y od om sp wr) 483 [(3, .int (nI ii)), (2, .ref a0), (1, .ref f0), (0, .ref b)] [] := by
  obtain ⟨e0, ⟨hj, hpm, ⟨hr0, -, -, -, -, -, hr6⟩, -⟩, ⟨hRM, hZ⟩, -, -, hPA⟩ := id h
  have hRM : RM mm.2.1 mm.2.2.1 mm.2.2.2.1 mm.2.2.2.2 z := hRM
  obtain ⟨hck, hz37, htN, hzt⟩ := IZ_ck hZ
  have g38 : mm.2.2.2.1 38 = z 38 := hRM.g 38 (by omega) (by omega) (by omega)
  have hhs : hs ≤ 6 := by omega
  have g39 : mm.2.2.2.1 39 = z 39 := hRM.g 39 (by omega) (by omega) (by omega)
  refine V_aload_n C 2 dL_law_483 rfl rfl ?_
  refine V_aload_n C 3 dL_law_484 rfl rfl ?_
  refine V_iload_n C 0 dL_law_485 rfl rfl ?_
  refine V_iconst (v := 1) C dL_law_486 (by decide) ?_
  refine V_iadd C dL_law_487 ?_
  refine V_ev (show (nI ii + 1 : Int32) = nI (ii + 1) from nI_add ii 1) ?_
  refine V_sld C hX (ii + 1) (by omega) hnn dL_law_488 ?_
  refine V_aload_n C 3 dL_law_489 rfl rfl ?_
  refine V_iload_n C 0 dL_law_490 rfl rfl ?_
  refine V_iconst (v := 2) C dL_law_491 (by decide) ?_
  refine V_iadd C dL_law_492 ?_
  refine V_ev (show (nI ii + 2 : Int32) = nI (ii + 2) from nI_add ii 2) ?_
  refine V_sld C hX (ii + 2) (by omega) hnn dL_law_493 ?_
  refine V_callB (q0 := 0) (na := 2) (As := [.int (xs (ii + 1)), .int (xs (ii + 2))]) (rest := []) (bs := (SWB g f0 h0 s0 p0 o0 d0 h1 p1 rf a0 a1 a2 a3 a4 a5 a6 a7 j r0 r1 r2 r3 r4 r5 r6 mm mu mv f1 f2 hs ln cp o1 o2 o3 o4 D z past pm sl sv pd ty y od om sp wr)) C (c_X9_would g f0 h0 s0 p0 o0 d0 h1 (mm.1 0) (mm.1 1) (mm.1 2) (mm.1 3) (mm.1 4) (mm.1 5) (mm.1 6) mm.2.1 mm.2.2.1 mm.2.2.2.1 mm.2.2.2.2 D z (clk z) (xs (ii + 1)) (xs (ii + 2)) (fun h9 => hZ.dv1 (g38.symm.trans h9)) (fun h9 => hZ.iv (by rw [g38.symm.trans h9]; decide)) hZ.tv hRM.1 hRM.2.1 hRM.2.2.1 hck hz37 hRM.2.2.2.1) ⟨⟨ini_X9, co_X9_would, ⟨by decide, by decide, by decide +kernel⟩, by decide⟩, ml_L_69, im_X9_would, se_X9_would⟩ [0, 4, 5] [1, 2, 3, 6, 7, 8, 9, 10, 11, 12, 13, 14, 15, 16, 17, 18, 19, 20, 21, 22, 23, 24, 25] (SWB_len ..) rfl rfl rfl rfl rfl rfl (Nat.le_of_ble_eq_true rfl) (by omega) (by omega) dL_law_494 (fun r w_ hw => ?_)
  have hq : ∃ (D9 : Nat → Int32), w_ = (pkB [0, 4, 5] (SWB g f0 h0 s0 p0 o0 d0 h1 p1 rf a0 a1 a2 a3 a4 a5 a6 a7 j r0 r1 r2 r3 r4 r5 r6 mm mu mv f1 f2 hs ln cp o1 o2 o3 o4 D9 z past pm sl sv pd ty y od om sp wr)).flatten ∧ wouldR z (xs (ii + 1)) (xs (ii + 2)) = r := by
    rcases hw with ⟨u1, rfl, rfl⟩ | ⟨u1, u2, rfl, rfl⟩ | ⟨P, S, D2, u1, u2, u3, u4, u5, u6, rfl, rfl⟩
    · exact ⟨D, rfl, by unfold wouldR; exact cif_f u1⟩
    · exact ⟨D, rfl, by unfold wouldR; rw [cif_t u1, cif_f (fun q => u2 (g38.trans q))]⟩
    · exact ⟨D2, rfl, by unfold wouldR; rw [cif_t (by rw [u4, u5]; exact okD_nI u1 u2 u3), cif_t (g38.symm.trans u6), cl_of u4 (by omega), cl_of u5 (by omega), drvF_39, g39]⟩
  obtain ⟨D9, hw9, hr9⟩ := hq
  refine V_Perm (ws2 := SW g f0 h0 s0 p0 o0 d0 h1 p1 rf a0 a1 a2 a3 a4 a5 a6 a7 j r0 r1 r2 r3 r4 r5 r6 mm mu mv f1 f2 hs ln cp o1 o2 o3 o4 D9 z past pm sl sv pd ty y od om sp wr) (perm_out (bl := [[(h0, .inr (1, [.ref h1, .int (nI j), .int (nI hs)]))], [(h1, .inl (gM g, 7, .inr (.inr (.inr (.inr rf)))))], mW g r0, [(o0, .inr (4, [.int o1, .int o2, .int o3, .int o4]))], [(p0, .inr (5, [.ref p1, .int (nI ln)]))], [(p1, .inl (gC g, 80, .inl cp))], [(s0, .inr (7, [.ref (mu.1 0), .ref (mv.1 0), .int f1, .int f2]))], mW g mu, mW g mv, [(a0, .inr (10, [.ref a1, .ref a2, .ref a3, .ref a4, .int (nI pm), .ref a5, .ref a6, .int (nI ty), .ref a7, .int om, .int sp, .int wr]))], [(a1, .inl (gI g, 113, .inl z))], [(a2, .inl (gI g, 678, .inl past))], [(a3, .inl (gI g, 226, .inl sl))], [(a4, .inl (gZ g, 2, .inl sv))], [(a5, .inl (gI g, 113, .inl y))], [(a6, .inl (gC g, 80, .inl pd))], [(a7, .inl (gI g, 123, .inl od))], mW g r1, mW g r2, mW g r3, mW g r4, mW g r5, mW g r6]) [1, 2, 3, 6, 7, 8, 9, 10, 11, 12, 13, 14, 15, 16, 17, 18, 19, 20, 21, 22, 23, 24, 25] [1, 2, 3, 6, 7, 8, 9, 10, 11, 12, 13, 14, 15, 16, 17, 18, 19, 20, 21, 22, 23, 24, 25] [0, 4, 5] (SWB_len ..) rfl hw9 rfl rfl) ?_
  exact kk j r0 r1 r2 r3 r4 r5 r6 mm mu mv f1 f2 hs ln cp o1 o2 o3 o4 D9 _ hr9 (h.up (by omega))
set_option maxRecDepth 100000 in
set_option maxHeartbeats 400000 in
theorem ms_would {g : Gd} {X : Bd} {d mc ms cs ss : Nat} {f0 h0 s0 p0 o0 d0 h1 p1 : Nat} {rf : Nat → Option Nat} {a0 a1 a2 a3 a4 a5 a6 a7 : Nat} {b nn ii : Nat} {xs : Nat → Int32} (C : Cx g X RL cL_law 4 d mc ms) (hd : 8 ≤ d) (hcs : cs ≤ mc ∧ ss ≤ ms) (hX : SC X b nn xs) (hnn : nn < 2 ^ 31) (hii : ii + 6 ≤ nn) {B : Nat} (hB : B + 82 < 2 ^ 31)  {j : Nat} {r0 : Mt} {r1 : Mt} {r2 : Mt} {r3 : Mt} {r4 : Mt} {r5 : Mt} {r6 : Mt} {mm : Mt} {mu : Mt} {mv : Mt} {f1 : Int32} {f2 : Int32} {hs : Nat} {ln : Nat} {cp : Nat → Int32} {o1 : Int32} {o2 : Int32} {o3 : Int32} {o4 : Int32} {D : Nat → Int32} {z : Zt} {past : Zt} {pm : Nat} {sl : Zt} {sv : Zt} {pd : Zt} {ty : Nat} {y : Zt} {od : Zt} {om : Int32} {sp : Int32} {wr : Int32} {r : Int32} (hs9 : wouldR z (xs (ii + 1)) (xs (ii + 2)) = r) (h : REL rf j r0 r1 r2 r3 r4 r5 r6 mm mu mv f1 f2 hs ln cp z past pm sl sv pd ty (B + 82)) (kk : LPR g X cs ss f0 h0 s0 p0 o0 d0 h1 p1 rf a0 a1 a2 a3 a4 a5 a6 a7 776 [(3, .int (nI ii)), (2, .ref a0), (1, .ref f0), (0, .ref b)] (B + 82)) : V g X cs ss (SW g f0 h0 s0 p0 o0 d0 h1 p1 rf a0 a1 a2 a3 a4 a5 a6 a7 j r0 r1 r2 r3 r4 r5 r6 mm mu mv f1 f2 hs ln cp o1 o2 o3 o4 D z past pm sl sv pd ty y od om sp wr) 497 [(3, .int (nI ii)), (2, .ref a0), (1, .ref f0), (0, .ref b)] [.int r] := by
  obtain ⟨-, ⟨-, hpm, -⟩, ⟨-, hZ⟩, -⟩ := id h
  obtain ⟨hck, hz37, htN, hzt⟩ := IZ_ck hZ
  refine V_aload_n C 1 dL_law_497 rfl rfl ?_
  refine V_aload_n C 3 dL_law_498 rfl rfl ?_
  refine V_iload_n C 0 dL_law_499 rfl rfl ?_
  refine V_iconst (v := 1) C dL_law_500 (by decide) ?_
  refine V_iadd C dL_law_501 ?_
  refine V_ev (show (nI ii + 1 : Int32) = nI (ii + 1) from nI_add ii 1) ?_
  refine V_sld C hX (ii + 1) (by omega) hnn dL_law_502 ?_
  refine V_aload_n C 3 dL_law_503 rfl rfl ?_
  refine V_iload_n C 0 dL_law_504 rfl rfl ?_
  refine V_iconst (v := 2) C dL_law_505 (by decide) ?_
  refine V_iadd C dL_law_506 ?_
  refine V_ev (show (nI ii + 2 : Int32) = nI (ii + 2) from nI_add ii 2) ?_
  refine V_sld C hX (ii + 2) (by omega) hnn dL_law_507 ?_
  refine V_callB (q0 := 0) (na := 2) (As := [.int (xs (ii + 1)), .int (xs (ii + 2))]) (rest := [.int r]) (bs := (SWB g f0 h0 s0 p0 o0 d0 h1 p1 rf a0 a1 a2 a3 a4 a5 a6 a7 j r0 r1 r2 r3 r4 r5 r6 mm mu mv f1 f2 hs ln cp o1 o2 o3 o4 D z past pm sl sv pd ty y od om sp wr)) C (c_X10_would g a0 a1 a2 a3 a4 a5 a6 a7 (nI pm) (nI ty) om sp wr z y (xs (ii + 1)) (xs (ii + 2)) (fun q => hZ.dv1 q)) ⟨⟨ini_X10, co_X10_would, ⟨by decide, by decide, by decide +kernel⟩, by decide⟩, ml_L_72, im_X10_would, se_X10_would⟩ [12, 13, 17] [0, 1, 2, 3, 4, 5, 6, 7, 8, 9, 10, 11, 14, 15, 16, 18, 19, 20, 21, 22, 23, 24, 25] (SWB_len ..) rfl rfl rfl rfl rfl rfl (Nat.le_of_ble_eq_true rfl) (by omega) (by omega) dL_law_508 (fun rq w_ hw => ?_)
  have hq : ∃ (y9 : Zt), w_ = (pkB [12, 13, 17] (SWB g f0 h0 s0 p0 o0 d0 h1 p1 rf a0 a1 a2 a3 a4 a5 a6 a7 j r0 r1 r2 r3 r4 r5 r6 mm mu mv f1 f2 hs ln cp o1 o2 o3 o4 D z past pm sl sv pd ty y9 od om sp wr)).flatten ∧ wouldR z (xs (ii + 1)) (xs (ii + 2)) = rq := by
    rcases hw with ⟨u1, rfl, rfl⟩ | ⟨u1, u2, rfl, rfl⟩ | ⟨P, S, u1, u2, u3, u4, u5, u6, rfl, rfl⟩
    · exact ⟨y, rfl, by unfold wouldR; exact cif_f u1⟩
    · exact ⟨y, rfl, by unfold wouldR; rw [cif_t u1, cif_f u2]⟩
    · exact ⟨z, rfl, by unfold wouldR; rw [cif_t (by rw [u4, u5]; exact okD_nI u1 u2 u3), cif_t u6, cl_of u4 (by omega), cl_of u5 (by omega)]⟩
  obtain ⟨y9, hw9, hr9⟩ := hq
  refine V_Perm (ws2 := SW g f0 h0 s0 p0 o0 d0 h1 p1 rf a0 a1 a2 a3 a4 a5 a6 a7 j r0 r1 r2 r3 r4 r5 r6 mm mu mv f1 f2 hs ln cp o1 o2 o3 o4 D z past pm sl sv pd ty y9 od om sp wr) (perm_out (bl := [[(f0, .inr (9, [.ref (mm.1 0), .ref h0, .ref s0, .ref p0, .ref o0, .ref d0]))], [(h0, .inr (1, [.ref h1, .int (nI j), .int (nI hs)]))], [(h1, .inl (gM g, 7, .inr (.inr (.inr (.inr rf)))))], mW g r0, mW g mm, [(d0, .inr (0, [.int (D 0), .int (D 1), .int (D 2), .int (D 3), .int (D 4), .int (D 5), .int (D 6), .int (D 7), .int (D 8), .int (D 9), .int (D 10)]))], [(o0, .inr (4, [.int o1, .int o2, .int o3, .int o4]))], [(p0, .inr (5, [.ref p1, .int (nI ln)]))], [(p1, .inl (gC g, 80, .inl cp))], [(s0, .inr (7, [.ref (mu.1 0), .ref (mv.1 0), .int f1, .int f2]))], mW g mu, mW g mv, [(a2, .inl (gI g, 678, .inl past))], [(a3, .inl (gI g, 226, .inl sl))], [(a4, .inl (gZ g, 2, .inl sv))], [(a6, .inl (gC g, 80, .inl pd))], [(a7, .inl (gI g, 123, .inl od))], mW g r1, mW g r2, mW g r3, mW g r4, mW g r5, mW g r6]) [0, 1, 2, 3, 4, 5, 6, 7, 8, 9, 10, 11, 14, 15, 16, 18, 19, 20, 21, 22, 23, 24, 25] [0, 1, 2, 3, 4, 5, 6, 7, 8, 9, 10, 11, 14, 15, 16, 18, 19, 20, 21, 22, 23, 24, 25] [12, 13, 17] (SWB_len ..) rfl hw9 rfl rfl) ?_
  refine V_icmp_eq (tgt := 776) C dL_law_511 (by decide) (fun _ => ?_) (fun h9 => absurd (hs9.symm.trans hr9) h9)
  exact kk j r0 r1 r2 r3 r4 r5 r6 mm mu mv f1 f2 hs ln cp o1 o2 o3 o4 D z past pm sl sv pd ty y9 od om sp wr h
theorem ca_would {g : Gd} {X : Bd} {d mc ms cs ss : Nat} {f0 h0 s0 p0 o0 d0 h1 p1 : Nat} {rf : Nat → Option Nat} {a0 a1 a2 a3 a4 a5 a6 a7 : Nat} {b nn ii : Nat} {xs : Nat → Int32} (C : Cx g X RL cL_law 4 d mc ms) (hd : 8 ≤ d) (hcs : cs ≤ mc ∧ ss ≤ ms) (hX : SC X b nn xs) (hnn : nn < 2 ^ 31) (hii : ii + 6 ≤ nn) {B : Nat} (hB : B + 82 < 2 ^ 31)  (hk : LPR g X cs ss f0 h0 s0 p0 o0 d0 h1 p1 rf a0 a1 a2 a3 a4 a5 a6 a7 776 [(3, .int (nI ii)), (2, .ref a0), (1, .ref f0), (0, .ref b)] (B + 82)) : LPR g X cs ss f0 h0 s0 p0 o0 d0 h1 p1 rf a0 a1 a2 a3 a4 a5 a6 a7 483 [(3, .int (nI ii)), (2, .ref a0), (1, .ref f0), (0, .ref b)] B := by
  intro j r0 r1 r2 r3 r4 r5 r6 mm mu mv f1 f2 hs ln cp o1 o2 o3 o4 D z past pm sl sv pd ty y od om sp wr h
  exact cs_would C hd hcs hX hnn hii hB h (fun _ _ _ _ _ _ _ _ _ _ _ _ _ _ _ _ _ _ _ _ _ r hs9 h2 => ms_would C hd hcs hX hnn hii hB hs9 h2 hk)
set_option maxRecDepth 100000 in
set_option maxHeartbeats 400000 in
theorem cs_price {g : Gd} {X : Bd} {d mc ms cs ss : Nat} {f0 h0 s0 p0 o0 d0 h1 p1 : Nat} {rf : Nat → Option Nat} {a0 a1 a2 a3 a4 a5 a6 a7 : Nat} {b nn ii : Nat} {xs : Nat → Int32} (C : Cx g X RL cL_law 4 d mc ms) (hd : 8 ≤ d) (hcs : cs ≤ mc ∧ ss ≤ ms) (hX : SC X b nn xs) (hnn : nn < 2 ^ 31) (hii : ii + 6 ≤ nn) {B : Nat} (hB : B + 82 < 2 ^ 31)  {j : Nat} {r0 : Mt} {r1 : Mt} {r2 : Mt} {r3 : Mt} {r4 : Mt} {r5 : Mt} {r6 : Mt} {mm : Mt} {mu : Mt} {mv : Mt} {f1 : Int32} {f2 : Int32} {hs : Nat} {ln : Nat} {cp : Nat → Int32} {o1 : Int32} {o2 : Int32} {o3 : Int32} {o4 : Int32} {D : Nat → Int32} {z : Zt} {past : Zt} {pm : Nat} {sl : Zt} {sv : Zt} {pd : Zt} {ty : Nat} {y : Zt} {od : Zt} {om : Int32} {sp : Int32} {wr : Int32} (h : REL rf j r0 r1 r2 r3 r4 r5 r6 mm mu mv f1 f2 hs ln cp z past pm sl sv pd ty B) (kk : ∀ (j' : Nat) (r0' : Mt) (r1' : Mt) (r2' : Mt) (r3' : Mt) (r4' : Mt) (r5' : Mt) (r6' : Mt) (mm' : Mt) (mu' : Mt) (mv' : Mt) (f1' : Int32) (f2' : Int32) (hs' : Nat) (ln' : Nat) (cp' : Nat → Int32) (o1' : Int32) (o2' : Int32) (o3' : Int32) (o4' : Int32) (D' : Nat → Int32) (r : Int32), priceR z (xs (ii + 1)) (xs (ii + 2)) = r → REL rf j' r0' r1' r2' r3' r4' r5' r6' mm' mu' mv' f1' f2' hs' ln' cp' z past pm sl sv pd ty (B + 82) → V g X cs ss (SW g f0 h0 s0 p0 o0 d0 h1 p1 rf a0 a1 a2 a3 a4 a5 a6 a7 j' r0' r1' r2' r3' r4' r5' r6' mm' mu' mv' f1' f2' hs' ln' cp' o1' o2' o3' o4' D' z past pm sl sv pd ty y od om sp wr) 530 [(3, .int (nI ii)), (2, .ref a0), (1, .ref f0), (0, .ref b)] [.int r]) : V g X cs ss (SW g f0 h0 s0 p0 o0 d0 h1 p1 rf a0 a1 a2 a3 a4 a5 a6 a7 j r0 r1 r2 r3 r4 r5 r6 mm mu mv f1 f2 hs ln cp o1 o2 o3 o4 D z past pm sl sv pd ty y od om sp wr) 516 [(3, .int (nI ii)), (2, .ref a0), (1, .ref f0), (0, .ref b)] [] := by
  obtain ⟨e0, ⟨hj, hpm, ⟨hr0, -, -, -, -, -, hr6⟩, -⟩, ⟨hRM, hZ⟩, -, -, hPA⟩ := id h
  have hRM : RM mm.2.1 mm.2.2.1 mm.2.2.2.1 mm.2.2.2.2 z := hRM
  obtain ⟨hck, hz37, htN, hzt⟩ := IZ_ck hZ
  have g38 : mm.2.2.2.1 38 = z 38 := hRM.g 38 (by omega) (by omega) (by omega)
  have hhs : hs ≤ 6 := by omega
  refine V_aload_n C 2 dL_law_516 rfl rfl ?_
  refine V_aload_n C 3 dL_law_517 rfl rfl ?_
  refine V_iload_n C 0 dL_law_518 rfl rfl ?_
  refine V_iconst (v := 1) C dL_law_519 (by decide) ?_
  refine V_iadd C dL_law_520 ?_
  refine V_ev (show (nI ii + 1 : Int32) = nI (ii + 1) from nI_add ii 1) ?_
  refine V_sld C hX (ii + 1) (by omega) hnn dL_law_521 ?_
  refine V_aload_n C 3 dL_law_522 rfl rfl ?_
  refine V_iload_n C 0 dL_law_523 rfl rfl ?_
  refine V_iconst (v := 2) C dL_law_524 (by decide) ?_
  refine V_iadd C dL_law_525 ?_
  refine V_ev (show (nI ii + 2 : Int32) = nI (ii + 2) from nI_add ii 2) ?_
  refine V_sld C hX (ii + 2) (by omega) hnn dL_law_526 ?_
  refine V_callB (q0 := 0) (na := 2) (As := [.int (xs (ii + 1)), .int (xs (ii + 2))]) (rest := []) (bs := (SWB g f0 h0 s0 p0 o0 d0 h1 p1 rf a0 a1 a2 a3 a4 a5 a6 a7 j r0 r1 r2 r3 r4 r5 r6 mm mu mv f1 f2 hs ln cp o1 o2 o3 o4 D z past pm sl sv pd ty y od om sp wr)) C (c_X9_price g f0 h0 s0 p0 o0 d0 h1 (mm.1 0) (mm.1 1) (mm.1 2) (mm.1 3) (mm.1 4) (mm.1 5) (mm.1 6) mm.2.1 mm.2.2.1 mm.2.2.2.1 mm.2.2.2.2 D z (clk z) (xs (ii + 1)) (xs (ii + 2)) hZ.bv hZ.tv hZ.tb hRM.1 hRM.2.1 hck ((hRM.g 37 (by omega) (by omega) (by omega)).trans hz37)) ⟨⟨ini_X9, co_X9_price, ⟨by decide, by decide, by decide +kernel⟩, by decide⟩, ml_L_73, im_X9_price, se_X9_price⟩ [0, 4, 5] [1, 2, 3, 6, 7, 8, 9, 10, 11, 12, 13, 14, 15, 16, 17, 18, 19, 20, 21, 22, 23, 24, 25] (SWB_len ..) rfl rfl rfl rfl rfl rfl (Nat.le_of_ble_eq_true rfl) (by omega) (by omega) dL_law_527 (fun r w_ hw => ?_)
  have hq : ∃ (D9 : Nat → Int32), w_ = (pkB [0, 4, 5] (SWB g f0 h0 s0 p0 o0 d0 h1 p1 rf a0 a1 a2 a3 a4 a5 a6 a7 j r0 r1 r2 r3 r4 r5 r6 mm mu mv f1 f2 hs ln cp o1 o2 o3 o4 D9 z past pm sl sv pd ty y od om sp wr)).flatten ∧ priceR z (xs (ii + 1)) (xs (ii + 2)) = r := by
    rcases hw with ⟨u1, rfl, rfl⟩ | ⟨P, S, D2, u1, u2, u3, u4, u5, rfl, rfl⟩
    · exact ⟨D, rfl, by unfold priceR; exact cif_f u1⟩
    · exact ⟨D2, rfl, by unfold priceR; rw [cif_t (by rw [u4, u5]; exact okD_nI u1 u2 u3), cl_of u4 (by omega), cl_of u5 (by omega)]⟩
  obtain ⟨D9, hw9, hr9⟩ := hq
  refine V_Perm (ws2 := SW g f0 h0 s0 p0 o0 d0 h1 p1 rf a0 a1 a2 a3 a4 a5 a6 a7 j r0 r1 r2 r3 r4 r5 r6 mm mu mv f1 f2 hs ln cp o1 o2 o3 o4 D9 z past pm sl sv pd ty y od om sp wr) (perm_out (bl := [[(h0, .inr (1, [.ref h1, .int (nI j), .int (nI hs)]))], [(h1, .inl (gM g, 7, .inr (.inr (.inr (.inr rf)))))], mW g r0, [(o0, .inr (4, [.int o1, .int o2, .int o3, .int o4]))], [(p0, .inr (5, [.ref p1, .int (nI ln)]))], [(p1, .inl (gC g, 80, .inl cp))], [(s0, .inr (7, [.ref (mu.1 0), .ref (mv.1 0), .int f1, .int f2]))], mW g mu, mW g mv, [(a0, .inr (10, [.ref a1, .ref a2, .ref a3, .ref a4, .int (nI pm), .ref a5, .ref a6, .int (nI ty), .ref a7, .int om, .int sp, .int wr]))], [(a1, .inl (gI g, 113, .inl z))], [(a2, .inl (gI g, 678, .inl past))], [(a3, .inl (gI g, 226, .inl sl))], [(a4, .inl (gZ g, 2, .inl sv))], [(a5, .inl (gI g, 113, .inl y))], [(a6, .inl (gC g, 80, .inl pd))], [(a7, .inl (gI g, 123, .inl od))], mW g r1, mW g r2, mW g r3, mW g r4, mW g r5, mW g r6]) [1, 2, 3, 6, 7, 8, 9, 10, 11, 12, 13, 14, 15, 16, 17, 18, 19, 20, 21, 22, 23, 24, 25] [1, 2, 3, 6, 7, 8, 9, 10, 11, 12, 13, 14, 15, 16, 17, 18, 19, 20, 21, 22, 23, 24, 25] [0, 4, 5] (SWB_len ..) rfl hw9 rfl rfl) ?_
  exact kk j r0 r1 r2 r3 r4 r5 r6 mm mu mv f1 f2 hs ln cp o1 o2 o3 o4 D9 _ hr9 (h.up (by omega))
set_option maxRecDepth 100000 in
set_option maxHeartbeats 400000 in
theorem ms_price {g : Gd} {X : Bd} {d mc ms cs ss : Nat} {f0 h0 s0 p0 o0 d0 h1 p1 : Nat} {rf : Nat → Option Nat} {a0 a1 a2 a3 a4 a5 a6 a7 : Nat} {b nn ii : Nat} {xs : Nat → Int32} (C : Cx g X RL cL_law 4 d mc ms) (hd : 8 ≤ d) (hcs : cs ≤ mc ∧ ss ≤ ms) (hX : SC X b nn xs) (hnn : nn < 2 ^ 31) (hii : ii + 6 ≤ nn) {B : Nat} (hB : B + 82 < 2 ^ 31)  {j : Nat} {r0 : Mt} {r1 : Mt} {r2 : Mt} {r3 : Mt} {r4 : Mt} {r5 : Mt} {r6 : Mt} {mm : Mt} {mu : Mt} {mv : Mt} {f1 : Int32} {f2 : Int32} {hs : Nat} {ln : Nat} {cp : Nat → Int32} {o1 : Int32} {o2 : Int32} {o3 : Int32} {o4 : Int32} {D : Nat → Int32} {z : Zt} {past : Zt} {pm : Nat} {sl : Zt} {sv : Zt} {pd : Zt} {ty : Nat} {y : Zt} {od : Zt} {om : Int32} {sp : Int32} {wr : Int32} {r : Int32} (hs9 : priceR z (xs (ii + 1)) (xs (ii + 2)) = r) (h : REL rf j r0 r1 r2 r3 r4 r5 r6 mm mu mv f1 f2 hs ln cp z past pm sl sv pd ty (B + 82)) (kk : LPR g X cs ss f0 h0 s0 p0 o0 d0 h1 p1 rf a0 a1 a2 a3 a4 a5 a6 a7 776 [(3, .int (nI ii)), (2, .ref a0), (1, .ref f0), (0, .ref b)] (B + 82)) : V g X cs ss (SW g f0 h0 s0 p0 o0 d0 h1 p1 rf a0 a1 a2 a3 a4 a5 a6 a7 j r0 r1 r2 r3 r4 r5 r6 mm mu mv f1 f2 hs ln cp o1 o2 o3 o4 D z past pm sl sv pd ty y od om sp wr) 530 [(3, .int (nI ii)), (2, .ref a0), (1, .ref f0), (0, .ref b)] [.int r] := by
  obtain ⟨-, ⟨-, hpm, -⟩, ⟨-, hZ⟩, -⟩ := id h
  obtain ⟨hck, hz37, htN, hzt⟩ := IZ_ck hZ
  refine V_aload_n C 1 dL_law_530 rfl rfl ?_
  refine V_aload_n C 3 dL_law_531 rfl rfl ?_
  refine V_iload_n C 0 dL_law_532 rfl rfl ?_
  refine V_iconst (v := 1) C dL_law_533 (by decide) ?_
  refine V_iadd C dL_law_534 ?_
  refine V_ev (show (nI ii + 1 : Int32) = nI (ii + 1) from nI_add ii 1) ?_
  refine V_sld C hX (ii + 1) (by omega) hnn dL_law_535 ?_
  refine V_aload_n C 3 dL_law_536 rfl rfl ?_
  refine V_iload_n C 0 dL_law_537 rfl rfl ?_
  refine V_iconst (v := 2) C dL_law_538 (by decide) ?_
  refine V_iadd C dL_law_539 ?_
  refine V_ev (show (nI ii + 2 : Int32) = nI (ii + 2) from nI_add ii 2) ?_
  refine V_sld C hX (ii + 2) (by omega) hnn dL_law_540 ?_
  refine V_callB (q0 := 0) (na := 2) (As := [.int (xs (ii + 1)), .int (xs (ii + 2))]) (rest := [.int r]) (bs := (SWB g f0 h0 s0 p0 o0 d0 h1 p1 rf a0 a1 a2 a3 a4 a5 a6 a7 j r0 r1 r2 r3 r4 r5 r6 mm mu mv f1 f2 hs ln cp o1 o2 o3 o4 D z past pm sl sv pd ty y od om sp wr)) C (c_X10_price g a0 a1 a2 a3 a4 a5 a6 a7 (nI pm) (nI ty) om sp wr z y (clk z) (xs (ii + 1)) (xs (ii + 2)) hck hz37 hZ.bv) ⟨⟨ini_X10, co_X10_price, ⟨by decide, by decide, by decide +kernel⟩, by decide⟩, ml_L_76, im_X10_price, se_X10_price⟩ [12, 13, 17] [0, 1, 2, 3, 4, 5, 6, 7, 8, 9, 10, 11, 14, 15, 16, 18, 19, 20, 21, 22, 23, 24, 25] (SWB_len ..) rfl rfl rfl rfl rfl rfl (Nat.le_of_ble_eq_true rfl) (by omega) (by omega) dL_law_541 (fun rq w_ hw => ?_)
  have hq : ∃ (y9 : Zt), w_ = (pkB [12, 13, 17] (SWB g f0 h0 s0 p0 o0 d0 h1 p1 rf a0 a1 a2 a3 a4 a5 a6 a7 j r0 r1 r2 r3 r4 r5 r6 mm mu mv f1 f2 hs ln cp o1 o2 o3 o4 D z past pm sl sv pd ty y9 od om sp wr)).flatten ∧ priceR z (xs (ii + 1)) (xs (ii + 2)) = rq := by
    rcases hw with ⟨u1, rfl, rfl⟩ | ⟨P, S, u1, u2, u3, u4, u5, rfl, rfl⟩
    · exact ⟨y, rfl, by unfold priceR; exact cif_f u1⟩
    · exact ⟨z, rfl, by unfold priceR; rw [cif_t (by rw [u4, u5]; exact okD_nI u1 u2 u3), cl_of u4 (by omega), cl_of u5 (by omega)]⟩
  obtain ⟨y9, hw9, hr9⟩ := hq
  refine V_Perm (ws2 := SW g f0 h0 s0 p0 o0 d0 h1 p1 rf a0 a1 a2 a3 a4 a5 a6 a7 j r0 r1 r2 r3 r4 r5 r6 mm mu mv f1 f2 hs ln cp o1 o2 o3 o4 D z past pm sl sv pd ty y9 od om sp wr) (perm_out (bl := [[(f0, .inr (9, [.ref (mm.1 0), .ref h0, .ref s0, .ref p0, .ref o0, .ref d0]))], [(h0, .inr (1, [.ref h1, .int (nI j), .int (nI hs)]))], [(h1, .inl (gM g, 7, .inr (.inr (.inr (.inr rf)))))], mW g r0, mW g mm, [(d0, .inr (0, [.int (D 0), .int (D 1), .int (D 2), .int (D 3), .int (D 4), .int (D 5), .int (D 6), .int (D 7), .int (D 8), .int (D 9), .int (D 10)]))], [(o0, .inr (4, [.int o1, .int o2, .int o3, .int o4]))], [(p0, .inr (5, [.ref p1, .int (nI ln)]))], [(p1, .inl (gC g, 80, .inl cp))], [(s0, .inr (7, [.ref (mu.1 0), .ref (mv.1 0), .int f1, .int f2]))], mW g mu, mW g mv, [(a2, .inl (gI g, 678, .inl past))], [(a3, .inl (gI g, 226, .inl sl))], [(a4, .inl (gZ g, 2, .inl sv))], [(a6, .inl (gC g, 80, .inl pd))], [(a7, .inl (gI g, 123, .inl od))], mW g r1, mW g r2, mW g r3, mW g r4, mW g r5, mW g r6]) [0, 1, 2, 3, 4, 5, 6, 7, 8, 9, 10, 11, 14, 15, 16, 18, 19, 20, 21, 22, 23, 24, 25] [0, 1, 2, 3, 4, 5, 6, 7, 8, 9, 10, 11, 14, 15, 16, 18, 19, 20, 21, 22, 23, 24, 25] [12, 13, 17] (SWB_len ..) rfl hw9 rfl rfl) ?_
  refine V_icmp_eq (tgt := 776) C dL_law_544 (by decide) (fun _ => ?_) (fun h9 => absurd (hs9.symm.trans hr9) h9)
  exact kk j r0 r1 r2 r3 r4 r5 r6 mm mu mv f1 f2 hs ln cp o1 o2 o3 o4 D z past pm sl sv pd ty y9 od om sp wr h
theorem ca_price {g : Gd} {X : Bd} {d mc ms cs ss : Nat} {f0 h0 s0 p0 o0 d0 h1 p1 : Nat} {rf : Nat → Option Nat} {a0 a1 a2 a3 a4 a5 a6 a7 : Nat} {b nn ii : Nat} {xs : Nat → Int32} (C : Cx g X RL cL_law 4 d mc ms) (hd : 8 ≤ d) (hcs : cs ≤ mc ∧ ss ≤ ms) (hX : SC X b nn xs) (hnn : nn < 2 ^ 31) (hii : ii + 6 ≤ nn) {B : Nat} (hB : B + 82 < 2 ^ 31)  (hk : LPR g X cs ss f0 h0 s0 p0 o0 d0 h1 p1 rf a0 a1 a2 a3 a4 a5 a6 a7 776 [(3, .int (nI ii)), (2, .ref a0), (1, .ref f0), (0, .ref b)] (B + 82)) : LPR g X cs ss f0 h0 s0 p0 o0 d0 h1 p1 rf a0 a1 a2 a3 a4 a5 a6 a7 516 [(3, .int (nI ii)), (2, .ref a0), (1, .ref f0), (0, .ref b)] B := by
  intro j r0 r1 r2 r3 r4 r5 r6 mm mu mv f1 f2 hs ln cp o1 o2 o3 o4 D z past pm sl sv pd ty y od om sp wr h
  exact cs_price C hd hcs hX hnn hii hB h (fun _ _ _ _ _ _ _ _ _ _ _ _ _ _ _ _ _ _ _ _ _ r hs9 h2 => ms_price C hd hcs hX hnn hii hB hs9 h2 hk)
set_option maxRecDepth 100000 in
set_option maxHeartbeats 400000 in
theorem cs_farthest {g : Gd} {X : Bd} {d mc ms cs ss : Nat} {f0 h0 s0 p0 o0 d0 h1 p1 : Nat} {rf : Nat → Option Nat} {a0 a1 a2 a3 a4 a5 a6 a7 : Nat} {b nn ii : Nat} {xs : Nat → Int32} (C : Cx g X RL cL_law 4 d mc ms) (hd : 8 ≤ d) (hcs : cs ≤ mc ∧ ss ≤ ms) (hX : SC X b nn xs) (hnn : nn < 2 ^ 31) (hii : ii + 6 ≤ nn) {B : Nat} (hB : B + 82 < 2 ^ 31)  {j : Nat} {r0 : Mt} {r1 : Mt} {r2 : Mt} {r3 : Mt} {r4 : Mt} {r5 : Mt} {r6 : Mt} {mm : Mt} {mu : Mt} {mv : Mt} {f1 : Int32} {f2 : Int32} {hs : Nat} {ln : Nat} {cp : Nat → Int32} {o1 : Int32} {o2 : Int32} {o3 : Int32} {o4 : Int32} {D : Nat → Int32} {z : Zt} {past : Zt} {pm : Nat} {sl : Zt} {sv : Zt} {pd : Zt} {ty : Nat} {y : Zt} {od : Zt} {om : Int32} {sp : Int32} {wr : Int32} (h : REL rf j r0 r1 r2 r3 r4 r5 r6 mm mu mv f1 f2 hs ln cp z past pm sl sv pd ty B) (kk : ∀ (j' : Nat) (r0' : Mt) (r1' : Mt) (r2' : Mt) (r3' : Mt) (r4' : Mt) (r5' : Mt) (r6' : Mt) (mm' : Mt) (mu' : Mt) (mv' : Mt) (f1' : Int32) (f2' : Int32) (hs' : Nat) (ln' : Nat) (cp' : Nat → Int32) (o1' : Int32) (o2' : Int32) (o3' : Int32) (o4' : Int32) (D' : Nat → Int32) (r : Int32), farthestR z (xs (ii + 1)) (xs (ii + 2)) = r → REL rf j' r0' r1' r2' r3' r4' r5' r6' mm' mu' mv' f1' f2' hs' ln' cp' z past pm sl sv pd ty (B + 82) → V g X cs ss (SW g f0 h0 s0 p0 o0 d0 h1 p1 rf a0 a1 a2 a3 a4 a5 a6 a7 j' r0' r1' r2' r3' r4' r5' r6' mm' mu' mv' f1' f2' hs' ln' cp' o1' o2' o3' o4' D' z past pm sl sv pd ty y od om sp wr) 563 [(3, .int (nI ii)), (2, .ref a0), (1, .ref f0), (0, .ref b)] [.int r]) : V g X cs ss (SW g f0 h0 s0 p0 o0 d0 h1 p1 rf a0 a1 a2 a3 a4 a5 a6 a7 j r0 r1 r2 r3 r4 r5 r6 mm mu mv f1 f2 hs ln cp o1 o2 o3 o4 D z past pm sl sv pd ty y od om sp wr) 549 [(3, .int (nI ii)), (2, .ref a0), (1, .ref f0), (0, .ref b)] [] := by
  obtain ⟨e0, ⟨hj, hpm, ⟨hr0, -, -, -, -, -, hr6⟩, -⟩, ⟨hRM, hZ⟩, -, -, hPA⟩ := id h
  have hRM : RM mm.2.1 mm.2.2.1 mm.2.2.2.1 mm.2.2.2.2 z := hRM
  obtain ⟨hck, hz37, htN, hzt⟩ := IZ_ck hZ
  have g38 : mm.2.2.2.1 38 = z 38 := hRM.g 38 (by omega) (by omega) (by omega)
  have hhs : hs ≤ 6 := by omega
  refine V_aload_n C 2 dL_law_549 rfl rfl ?_
  refine V_aload_n C 3 dL_law_550 rfl rfl ?_
  refine V_iload_n C 0 dL_law_551 rfl rfl ?_
  refine V_iconst (v := 1) C dL_law_552 (by decide) ?_
  refine V_iadd C dL_law_553 ?_
  refine V_ev (show (nI ii + 1 : Int32) = nI (ii + 1) from nI_add ii 1) ?_
  refine V_sld C hX (ii + 1) (by omega) hnn dL_law_554 ?_
  refine V_aload_n C 3 dL_law_555 rfl rfl ?_
  refine V_iload_n C 0 dL_law_556 rfl rfl ?_
  refine V_iconst (v := 2) C dL_law_557 (by decide) ?_
  refine V_iadd C dL_law_558 ?_
  refine V_ev (show (nI ii + 2 : Int32) = nI (ii + 2) from nI_add ii 2) ?_
  refine V_sld C hX (ii + 2) (by omega) hnn dL_law_559 ?_
  refine V_callB (q0 := 0) (na := 2) (As := [.int (xs (ii + 1)), .int (xs (ii + 2))]) (rest := []) (bs := (SWB g f0 h0 s0 p0 o0 d0 h1 p1 rf a0 a1 a2 a3 a4 a5 a6 a7 j r0 r1 r2 r3 r4 r5 r6 mm mu mv f1 f2 hs ln cp o1 o2 o3 o4 D z past pm sl sv pd ty y od om sp wr)) C (c_X9_farthest g f0 h0 s0 p0 o0 d0 h1 (mm.1 0) (mm.1 1) (mm.1 2) (mm.1 3) (mm.1 4) (mm.1 5) (mm.1 6) mm.2.1 mm.2.2.1 mm.2.2.2.1 mm.2.2.2.2 D z (clk z) (xs (ii + 1)) (xs (ii + 2)) hZ.bv hZ.tv hZ.tb hRM.1 hRM.2.1 hck ((hRM.g 37 (by omega) (by omega) (by omega)).trans hz37)) ⟨⟨ini_X9, co_X9_farthest, ⟨by decide, by decide, by decide +kernel⟩, by decide⟩, ml_L_77, im_X9_farthest, se_X9_farthest⟩ [0, 4, 5] [1, 2, 3, 6, 7, 8, 9, 10, 11, 12, 13, 14, 15, 16, 17, 18, 19, 20, 21, 22, 23, 24, 25] (SWB_len ..) rfl rfl rfl rfl rfl rfl (Nat.le_of_ble_eq_true rfl) (by omega) (by omega) dL_law_560 (fun r w_ hw => ?_)
  have hq : ∃ (D9 : Nat → Int32), w_ = (pkB [0, 4, 5] (SWB g f0 h0 s0 p0 o0 d0 h1 p1 rf a0 a1 a2 a3 a4 a5 a6 a7 j r0 r1 r2 r3 r4 r5 r6 mm mu mv f1 f2 hs ln cp o1 o2 o3 o4 D9 z past pm sl sv pd ty y od om sp wr)).flatten ∧ farthestR z (xs (ii + 1)) (xs (ii + 2)) = r := by
    rcases hw with ⟨u1, rfl, rfl⟩ | ⟨S, D2, u1, u2, u3, u4, rfl, rfl⟩
    · exact ⟨D, rfl, by unfold farthestR; exact cif_f u1⟩
    · exact ⟨D2, rfl, by unfold farthestR; rw [cif_t (by rw [u3]; exact okF_nI u1 u2 u4), cl_of u3 (by omega)]⟩
  obtain ⟨D9, hw9, hr9⟩ := hq
  refine V_Perm (ws2 := SW g f0 h0 s0 p0 o0 d0 h1 p1 rf a0 a1 a2 a3 a4 a5 a6 a7 j r0 r1 r2 r3 r4 r5 r6 mm mu mv f1 f2 hs ln cp o1 o2 o3 o4 D9 z past pm sl sv pd ty y od om sp wr) (perm_out (bl := [[(h0, .inr (1, [.ref h1, .int (nI j), .int (nI hs)]))], [(h1, .inl (gM g, 7, .inr (.inr (.inr (.inr rf)))))], mW g r0, [(o0, .inr (4, [.int o1, .int o2, .int o3, .int o4]))], [(p0, .inr (5, [.ref p1, .int (nI ln)]))], [(p1, .inl (gC g, 80, .inl cp))], [(s0, .inr (7, [.ref (mu.1 0), .ref (mv.1 0), .int f1, .int f2]))], mW g mu, mW g mv, [(a0, .inr (10, [.ref a1, .ref a2, .ref a3, .ref a4, .int (nI pm), .ref a5, .ref a6, .int (nI ty), .ref a7, .int om, .int sp, .int wr]))], [(a1, .inl (gI g, 113, .inl z))], [(a2, .inl (gI g, 678, .inl past))], [(a3, .inl (gI g, 226, .inl sl))], [(a4, .inl (gZ g, 2, .inl sv))], [(a5, .inl (gI g, 113, .inl y))], [(a6, .inl (gC g, 80, .inl pd))], [(a7, .inl (gI g, 123, .inl od))], mW g r1, mW g r2, mW g r3, mW g r4, mW g r5, mW g r6]) [1, 2, 3, 6, 7, 8, 9, 10, 11, 12, 13, 14, 15, 16, 17, 18, 19, 20, 21, 22, 23, 24, 25] [1, 2, 3, 6, 7, 8, 9, 10, 11, 12, 13, 14, 15, 16, 17, 18, 19, 20, 21, 22, 23, 24, 25] [0, 4, 5] (SWB_len ..) rfl hw9 rfl rfl) ?_
  exact kk j r0 r1 r2 r3 r4 r5 r6 mm mu mv f1 f2 hs ln cp o1 o2 o3 o4 D9 _ hr9 (h.up (by omega))
set_option maxRecDepth 100000 in
set_option maxHeartbeats 400000 in
theorem ms_farthest {g : Gd} {X : Bd} {d mc ms cs ss : Nat} {f0 h0 s0 p0 o0 d0 h1 p1 : Nat} {rf : Nat → Option Nat} {a0 a1 a2 a3 a4 a5 a6 a7 : Nat} {b nn ii : Nat} {xs : Nat → Int32} (C : Cx g X RL cL_law 4 d mc ms) (hd : 8 ≤ d) (hcs : cs ≤ mc ∧ ss ≤ ms) (hX : SC X b nn xs) (hnn : nn < 2 ^ 31) (hii : ii + 6 ≤ nn) {B : Nat} (hB : B + 82 < 2 ^ 31)  {j : Nat} {r0 : Mt} {r1 : Mt} {r2 : Mt} {r3 : Mt} {r4 : Mt} {r5 : Mt} {r6 : Mt} {mm : Mt} {mu : Mt} {mv : Mt} {f1 : Int32} {f2 : Int32} {hs : Nat} {ln : Nat} {cp : Nat → Int32} {o1 : Int32} {o2 : Int32} {o3 : Int32} {o4 : Int32} {D : Nat → Int32} {z : Zt} {past : Zt} {pm : Nat} {sl : Zt} {sv : Zt} {pd : Zt} {ty : Nat} {y : Zt} {od : Zt} {om : Int32} {sp : Int32} {wr : Int32} {r : Int32} (hs9 : farthestR z (xs (ii + 1)) (xs (ii + 2)) = r) (h : REL rf j r0 r1 r2 r3 r4 r5 r6 mm mu mv f1 f2 hs ln cp z past pm sl sv pd ty (B + 82)) (kk : LPR g X cs ss f0 h0 s0 p0 o0 d0 h1 p1 rf a0 a1 a2 a3 a4 a5 a6 a7 776 [(3, .int (nI ii)), (2, .ref a0), (1, .ref f0), (0, .ref b)] (B + 82)) : V g X cs ss (SW g f0 h0 s0 p0 o0 d0 h1 p1 rf a0 a1 a2 a3 a4 a5 a6 a7 j r0 r1 r2 r3 r4 r5 r6 mm mu mv f1 f2 hs ln cp o1 o2 o3 o4 D z past pm sl sv pd ty y od om sp wr) 563 [(3, .int (nI ii)), (2, .ref a0), (1, .ref f0), (0, .ref b)] [.int r] := by
  obtain ⟨-, ⟨-, hpm, -⟩, ⟨-, hZ⟩, -⟩ := id h
  obtain ⟨hck, hz37, htN, hzt⟩ := IZ_ck hZ
  refine V_aload_n C 1 dL_law_563 rfl rfl ?_
  refine V_aload_n C 3 dL_law_564 rfl rfl ?_
  refine V_iload_n C 0 dL_law_565 rfl rfl ?_
  refine V_iconst (v := 1) C dL_law_566 (by decide) ?_
  refine V_iadd C dL_law_567 ?_
  refine V_ev (show (nI ii + 1 : Int32) = nI (ii + 1) from nI_add ii 1) ?_
  refine V_sld C hX (ii + 1) (by omega) hnn dL_law_568 ?_
  refine V_aload_n C 3 dL_law_569 rfl rfl ?_
  refine V_iload_n C 0 dL_law_570 rfl rfl ?_
  refine V_iconst (v := 2) C dL_law_571 (by decide) ?_
  refine V_iadd C dL_law_572 ?_
  refine V_ev (show (nI ii + 2 : Int32) = nI (ii + 2) from nI_add ii 2) ?_
  refine V_sld C hX (ii + 2) (by omega) hnn dL_law_573 ?_
  refine V_callB (q0 := 0) (na := 2) (As := [.int (xs (ii + 1)), .int (xs (ii + 2))]) (rest := [.int r]) (bs := (SWB g f0 h0 s0 p0 o0 d0 h1 p1 rf a0 a1 a2 a3 a4 a5 a6 a7 j r0 r1 r2 r3 r4 r5 r6 mm mu mv f1 f2 hs ln cp o1 o2 o3 o4 D z past pm sl sv pd ty y od om sp wr)) C (c_X10_farthest g a0 a1 a2 a3 a4 a5 a6 a7 (nI pm) (nI ty) om sp wr z y (clk z) (xs (ii + 1)) (xs (ii + 2)) hck hz37 hZ.bv) ⟨⟨ini_X10, co_X10_farthest, ⟨by decide, by decide, by decide +kernel⟩, by decide⟩, ml_L_80, im_X10_farthest, se_X10_farthest⟩ [12, 13, 17] [0, 1, 2, 3, 4, 5, 6, 7, 8, 9, 10, 11, 14, 15, 16, 18, 19, 20, 21, 22, 23, 24, 25] (SWB_len ..) rfl rfl rfl rfl rfl rfl (Nat.le_of_ble_eq_true rfl) (by omega) (by omega) dL_law_574 (fun rq w_ hw => ?_)
  have hq : ∃ (y9 : Zt), w_ = (pkB [12, 13, 17] (SWB g f0 h0 s0 p0 o0 d0 h1 p1 rf a0 a1 a2 a3 a4 a5 a6 a7 j r0 r1 r2 r3 r4 r5 r6 mm mu mv f1 f2 hs ln cp o1 o2 o3 o4 D z past pm sl sv pd ty y9 od om sp wr)).flatten ∧ farthestR z (xs (ii + 1)) (xs (ii + 2)) = rq := by
    rcases hw with ⟨u1, rfl, rfl⟩ | ⟨S, u1, u2, u3, u4, rfl, rfl⟩
    · exact ⟨y, rfl, by unfold farthestR; exact cif_f u1⟩
    · exact ⟨z, rfl, by unfold farthestR; rw [cif_t (by rw [u3]; exact okF_nI u1 u2 u4), cl_of u3 (by omega)]⟩
  obtain ⟨y9, hw9, hr9⟩ := hq
  refine V_Perm (ws2 := SW g f0 h0 s0 p0 o0 d0 h1 p1 rf a0 a1 a2 a3 a4 a5 a6 a7 j r0 r1 r2 r3 r4 r5 r6 mm mu mv f1 f2 hs ln cp o1 o2 o3 o4 D z past pm sl sv pd ty y9 od om sp wr) (perm_out (bl := [[(f0, .inr (9, [.ref (mm.1 0), .ref h0, .ref s0, .ref p0, .ref o0, .ref d0]))], [(h0, .inr (1, [.ref h1, .int (nI j), .int (nI hs)]))], [(h1, .inl (gM g, 7, .inr (.inr (.inr (.inr rf)))))], mW g r0, mW g mm, [(d0, .inr (0, [.int (D 0), .int (D 1), .int (D 2), .int (D 3), .int (D 4), .int (D 5), .int (D 6), .int (D 7), .int (D 8), .int (D 9), .int (D 10)]))], [(o0, .inr (4, [.int o1, .int o2, .int o3, .int o4]))], [(p0, .inr (5, [.ref p1, .int (nI ln)]))], [(p1, .inl (gC g, 80, .inl cp))], [(s0, .inr (7, [.ref (mu.1 0), .ref (mv.1 0), .int f1, .int f2]))], mW g mu, mW g mv, [(a2, .inl (gI g, 678, .inl past))], [(a3, .inl (gI g, 226, .inl sl))], [(a4, .inl (gZ g, 2, .inl sv))], [(a6, .inl (gC g, 80, .inl pd))], [(a7, .inl (gI g, 123, .inl od))], mW g r1, mW g r2, mW g r3, mW g r4, mW g r5, mW g r6]) [0, 1, 2, 3, 4, 5, 6, 7, 8, 9, 10, 11, 14, 15, 16, 18, 19, 20, 21, 22, 23, 24, 25] [0, 1, 2, 3, 4, 5, 6, 7, 8, 9, 10, 11, 14, 15, 16, 18, 19, 20, 21, 22, 23, 24, 25] [12, 13, 17] (SWB_len ..) rfl hw9 rfl rfl) ?_
  refine V_icmp_eq (tgt := 776) C dL_law_577 (by decide) (fun _ => ?_) (fun h9 => absurd (hs9.symm.trans hr9) h9)
  exact kk j r0 r1 r2 r3 r4 r5 r6 mm mu mv f1 f2 hs ln cp o1 o2 o3 o4 D z past pm sl sv pd ty y9 od om sp wr h
theorem ca_farthest {g : Gd} {X : Bd} {d mc ms cs ss : Nat} {f0 h0 s0 p0 o0 d0 h1 p1 : Nat} {rf : Nat → Option Nat} {a0 a1 a2 a3 a4 a5 a6 a7 : Nat} {b nn ii : Nat} {xs : Nat → Int32} (C : Cx g X RL cL_law 4 d mc ms) (hd : 8 ≤ d) (hcs : cs ≤ mc ∧ ss ≤ ms) (hX : SC X b nn xs) (hnn : nn < 2 ^ 31) (hii : ii + 6 ≤ nn) {B : Nat} (hB : B + 82 < 2 ^ 31)  (hk : LPR g X cs ss f0 h0 s0 p0 o0 d0 h1 p1 rf a0 a1 a2 a3 a4 a5 a6 a7 776 [(3, .int (nI ii)), (2, .ref a0), (1, .ref f0), (0, .ref b)] (B + 82)) : LPR g X cs ss f0 h0 s0 p0 o0 d0 h1 p1 rf a0 a1 a2 a3 a4 a5 a6 a7 549 [(3, .int (nI ii)), (2, .ref a0), (1, .ref f0), (0, .ref b)] B := by
  intro j r0 r1 r2 r3 r4 r5 r6 mm mu mv f1 f2 hs ln cp o1 o2 o3 o4 D z past pm sl sv pd ty y od om sp wr h
  exact cs_farthest C hd hcs hX hnn hii hB h (fun _ _ _ _ _ _ _ _ _ _ _ _ _ _ _ _ _ _ _ _ _ r hs9 h2 => ms_farthest C hd hcs hX hnn hii hB hs9 h2 hk)
set_option maxRecDepth 100000 in
set_option maxHeartbeats 400000 in
theorem cs_cheapest {g : Gd} {X : Bd} {d mc ms cs ss : Nat} {f0 h0 s0 p0 o0 d0 h1 p1 : Nat} {rf : Nat → Option Nat} {a0 a1 a2 a3 a4 a5 a6 a7 : Nat} {b nn ii : Nat} {xs : Nat → Int32} (C : Cx g X RL cL_law 4 d mc ms) (hd : 8 ≤ d) (hcs : cs ≤ mc ∧ ss ≤ ms) (hX : SC X b nn xs) (hnn : nn < 2 ^ 31) (hii : ii + 6 ≤ nn) {B : Nat} (hB : B + 82 < 2 ^ 31)  {j : Nat} {r0 : Mt} {r1 : Mt} {r2 : Mt} {r3 : Mt} {r4 : Mt} {r5 : Mt} {r6 : Mt} {mm : Mt} {mu : Mt} {mv : Mt} {f1 : Int32} {f2 : Int32} {hs : Nat} {ln : Nat} {cp : Nat → Int32} {o1 : Int32} {o2 : Int32} {o3 : Int32} {o4 : Int32} {D : Nat → Int32} {z : Zt} {past : Zt} {pm : Nat} {sl : Zt} {sv : Zt} {pd : Zt} {ty : Nat} {y : Zt} {od : Zt} {om : Int32} {sp : Int32} {wr : Int32} (h : REL rf j r0 r1 r2 r3 r4 r5 r6 mm mu mv f1 f2 hs ln cp z past pm sl sv pd ty B) (kk : ∀ (j' : Nat) (r0' : Mt) (r1' : Mt) (r2' : Mt) (r3' : Mt) (r4' : Mt) (r5' : Mt) (r6' : Mt) (mm' : Mt) (mu' : Mt) (mv' : Mt) (f1' : Int32) (f2' : Int32) (hs' : Nat) (ln' : Nat) (cp' : Nat → Int32) (o1' : Int32) (o2' : Int32) (o3' : Int32) (o4' : Int32) (D' : Nat → Int32) (r : Int32), cheapestR z (xs (ii + 1)) (xs (ii + 2)) (xs (ii + 3)) = r → REL rf j' r0' r1' r2' r3' r4' r5' r6' mm' mu' mv' f1' f2' hs' ln' cp' z past pm sl sv pd ty (B + 82) → V g X cs ss (SW g f0 h0 s0 p0 o0 d0 h1 p1 rf a0 a1 a2 a3 a4 a5 a6 a7 j' r0' r1' r2' r3' r4' r5' r6' mm' mu' mv' f1' f2' hs' ln' cp' o1' o2' o3' o4' D' z past pm sl sv pd ty y od om sp wr) 601 [(3, .int (nI ii)), (2, .ref a0), (1, .ref f0), (0, .ref b)] [.int r]) : V g X cs ss (SW g f0 h0 s0 p0 o0 d0 h1 p1 rf a0 a1 a2 a3 a4 a5 a6 a7 j r0 r1 r2 r3 r4 r5 r6 mm mu mv f1 f2 hs ln cp o1 o2 o3 o4 D z past pm sl sv pd ty y od om sp wr) 582 [(3, .int (nI ii)), (2, .ref a0), (1, .ref f0), (0, .ref b)] [] := by
  obtain ⟨e0, ⟨hj, hpm, ⟨hr0, -, -, -, -, -, hr6⟩, -⟩, ⟨hRM, hZ⟩, -, -, hPA⟩ := id h
  have hRM : RM mm.2.1 mm.2.2.1 mm.2.2.2.1 mm.2.2.2.2 z := hRM
  obtain ⟨hck, hz37, htN, hzt⟩ := IZ_ck hZ
  have g38 : mm.2.2.2.1 38 = z 38 := hRM.g 38 (by omega) (by omega) (by omega)
  have hhs : hs ≤ 6 := by omega
  refine V_aload_n C 2 dL_law_582 rfl rfl ?_
  refine V_aload_n C 3 dL_law_583 rfl rfl ?_
  refine V_iload_n C 0 dL_law_584 rfl rfl ?_
  refine V_iconst (v := 1) C dL_law_585 (by decide) ?_
  refine V_iadd C dL_law_586 ?_
  refine V_ev (show (nI ii + 1 : Int32) = nI (ii + 1) from nI_add ii 1) ?_
  refine V_sld C hX (ii + 1) (by omega) hnn dL_law_587 ?_
  refine V_aload_n C 3 dL_law_588 rfl rfl ?_
  refine V_iload_n C 0 dL_law_589 rfl rfl ?_
  refine V_iconst (v := 2) C dL_law_590 (by decide) ?_
  refine V_iadd C dL_law_591 ?_
  refine V_ev (show (nI ii + 2 : Int32) = nI (ii + 2) from nI_add ii 2) ?_
  refine V_sld C hX (ii + 2) (by omega) hnn dL_law_592 ?_
  refine V_aload_n C 3 dL_law_593 rfl rfl ?_
  refine V_iload_n C 0 dL_law_594 rfl rfl ?_
  refine V_iconst (v := 3) C dL_law_595 (by decide) ?_
  refine V_iadd C dL_law_596 ?_
  refine V_ev (show (nI ii + 3 : Int32) = nI (ii + 3) from nI_add ii 3) ?_
  refine V_sld C hX (ii + 3) (by omega) hnn dL_law_597 ?_
  refine V_callB (q0 := 0) (na := 3) (As := [.int (xs (ii + 1)), .int (xs (ii + 2)), .int (xs (ii + 3))]) (rest := []) (bs := (SWB g f0 h0 s0 p0 o0 d0 h1 p1 rf a0 a1 a2 a3 a4 a5 a6 a7 j r0 r1 r2 r3 r4 r5 r6 mm mu mv f1 f2 hs ln cp o1 o2 o3 o4 D z past pm sl sv pd ty y od om sp wr)) C (c_X9_cheapest g f0 h0 s0 p0 o0 d0 h1 (mm.1 0) (mm.1 1) (mm.1 2) (mm.1 3) (mm.1 4) (mm.1 5) (mm.1 6) mm.2.1 mm.2.2.1 mm.2.2.2.1 mm.2.2.2.2 D z (xs (ii + 1)) (xs (ii + 2)) (xs (ii + 3)) hZ.bv hZ.tv hZ.tb hRM.1 hRM.2.1) ⟨⟨ini_X9, co_X9_cheapest, ⟨by decide, by decide, by decide +kernel⟩, by decide⟩, ml_L_81, im_X9_cheapest, se_X9_cheapest⟩ [0, 4, 5] [1, 2, 3, 6, 7, 8, 9, 10, 11, 12, 13, 14, 15, 16, 17, 18, 19, 20, 21, 22, 23, 24, 25] (SWB_len ..) rfl rfl rfl rfl rfl rfl (Nat.le_of_ble_eq_true rfl) (by omega) (by omega) dL_law_598 (fun r w_ hw => ?_)
  have hq : ∃ (D9 : Nat → Int32), w_ = (pkB [0, 4, 5] (SWB g f0 h0 s0 p0 o0 d0 h1 p1 rf a0 a1 a2 a3 a4 a5 a6 a7 j r0 r1 r2 r3 r4 r5 r6 mm mu mv f1 f2 hs ln cp o1 o2 o3 o4 D9 z past pm sl sv pd ty y od om sp wr)).flatten ∧ cheapestR z (xs (ii + 1)) (xs (ii + 2)) (xs (ii + 3)) = r := by
    rcases hw with ⟨u1, rfl, rfl⟩ | ⟨u1, u2, rfl, rfl⟩ | ⟨P, S, D2, u1, u2, u3, u4, u5, u6, u7, rfl⟩ | ⟨P, S, D2, u1, u2, u3, u4, u5, u6, u7, rfl⟩
    · exact ⟨D, rfl, by unfold cheapestR; exact cif_f u1⟩
    · exact ⟨D, rfl, by unfold cheapestR; rw [cif_t u1, cif_f u2]⟩
    · exact ⟨D2, rfl, by rw [u7]; unfold cheapestR; rw [cif_t (by rw [u4, u5]; exact okD_nI u1 u2 u3), cif_t (by rw [u6]; exact ok1_nI (i := 0) (by omega)), cif_t u6, cl_of u4 (by omega), cl_of u5 (by omega)]⟩
    · exact ⟨D2, rfl, by rw [u7]; unfold cheapestR; rw [cif_t (by rw [u4, u5]; exact okD_nI u1 u2 u3), cif_t (by rw [u6]; exact ok1_nI (i := 1) (by omega)), cif_f (by rw [u6]; decide), cl_of u4 (by omega), cl_of u5 (by omega)]⟩
  obtain ⟨D9, hw9, hr9⟩ := hq
  refine V_Perm (ws2 := SW g f0 h0 s0 p0 o0 d0 h1 p1 rf a0 a1 a2 a3 a4 a5 a6 a7 j r0 r1 r2 r3 r4 r5 r6 mm mu mv f1 f2 hs ln cp o1 o2 o3 o4 D9 z past pm sl sv pd ty y od om sp wr) (perm_out (bl := [[(h0, .inr (1, [.ref h1, .int (nI j), .int (nI hs)]))], [(h1, .inl (gM g, 7, .inr (.inr (.inr (.inr rf)))))], mW g r0, [(o0, .inr (4, [.int o1, .int o2, .int o3, .int o4]))], [(p0, .inr (5, [.ref p1, .int (nI ln)]))], [(p1, .inl (gC g, 80, .inl cp))], [(s0, .inr (7, [.ref (mu.1 0), .ref (mv.1 0), .int f1, .int f2]))], mW g mu, mW g mv, [(a0, .inr (10, [.ref a1, .ref a2, .ref a3, .ref a4, .int (nI pm), .ref a5, .ref a6, .int (nI ty), .ref a7, .int om, .int sp, .int wr]))], [(a1, .inl (gI g, 113, .inl z))], [(a2, .inl (gI g, 678, .inl past))], [(a3, .inl (gI g, 226, .inl sl))], [(a4, .inl (gZ g, 2, .inl sv))], [(a5, .inl (gI g, 113, .inl y))], [(a6, .inl (gC g, 80, .inl pd))], [(a7, .inl (gI g, 123, .inl od))], mW g r1, mW g r2, mW g r3, mW g r4, mW g r5, mW g r6]) [1, 2, 3, 6, 7, 8, 9, 10, 11, 12, 13, 14, 15, 16, 17, 18, 19, 20, 21, 22, 23, 24, 25] [1, 2, 3, 6, 7, 8, 9, 10, 11, 12, 13, 14, 15, 16, 17, 18, 19, 20, 21, 22, 23, 24, 25] [0, 4, 5] (SWB_len ..) rfl hw9 rfl rfl) ?_
  exact kk j r0 r1 r2 r3 r4 r5 r6 mm mu mv f1 f2 hs ln cp o1 o2 o3 o4 D9 _ hr9 (h.up (by omega))
set_option maxRecDepth 100000 in
set_option maxHeartbeats 400000 in
theorem ms_cheapest {g : Gd} {X : Bd} {d mc ms cs ss : Nat} {f0 h0 s0 p0 o0 d0 h1 p1 : Nat} {rf : Nat → Option Nat} {a0 a1 a2 a3 a4 a5 a6 a7 : Nat} {b nn ii : Nat} {xs : Nat → Int32} (C : Cx g X RL cL_law 4 d mc ms) (hd : 8 ≤ d) (hcs : cs ≤ mc ∧ ss ≤ ms) (hX : SC X b nn xs) (hnn : nn < 2 ^ 31) (hii : ii + 6 ≤ nn) {B : Nat} (hB : B + 82 < 2 ^ 31)  {j : Nat} {r0 : Mt} {r1 : Mt} {r2 : Mt} {r3 : Mt} {r4 : Mt} {r5 : Mt} {r6 : Mt} {mm : Mt} {mu : Mt} {mv : Mt} {f1 : Int32} {f2 : Int32} {hs : Nat} {ln : Nat} {cp : Nat → Int32} {o1 : Int32} {o2 : Int32} {o3 : Int32} {o4 : Int32} {D : Nat → Int32} {z : Zt} {past : Zt} {pm : Nat} {sl : Zt} {sv : Zt} {pd : Zt} {ty : Nat} {y : Zt} {od : Zt} {om : Int32} {sp : Int32} {wr : Int32} {r : Int32} (hs9 : cheapestR z (xs (ii + 1)) (xs (ii + 2)) (xs (ii + 3)) = r) (h : REL rf j r0 r1 r2 r3 r4 r5 r6 mm mu mv f1 f2 hs ln cp z past pm sl sv pd ty (B + 82)) (kk : LPR g X cs ss f0 h0 s0 p0 o0 d0 h1 p1 rf a0 a1 a2 a3 a4 a5 a6 a7 776 [(3, .int (nI ii)), (2, .ref a0), (1, .ref f0), (0, .ref b)] (B + 82)) : V g X cs ss (SW g f0 h0 s0 p0 o0 d0 h1 p1 rf a0 a1 a2 a3 a4 a5 a6 a7 j r0 r1 r2 r3 r4 r5 r6 mm mu mv f1 f2 hs ln cp o1 o2 o3 o4 D z past pm sl sv pd ty y od om sp wr) 601 [(3, .int (nI ii)), (2, .ref a0), (1, .ref f0), (0, .ref b)] [.int r] := by
  obtain ⟨-, ⟨-, hpm, -⟩, ⟨-, hZ⟩, -⟩ := id h
  obtain ⟨hck, hz37, htN, hzt⟩ := IZ_ck hZ
  refine V_aload_n C 1 dL_law_601 rfl rfl ?_
  refine V_aload_n C 3 dL_law_602 rfl rfl ?_
  refine V_iload_n C 0 dL_law_603 rfl rfl ?_
  refine V_iconst (v := 1) C dL_law_604 (by decide) ?_
  refine V_iadd C dL_law_605 ?_
  refine V_ev (show (nI ii + 1 : Int32) = nI (ii + 1) from nI_add ii 1) ?_
  refine V_sld C hX (ii + 1) (by omega) hnn dL_law_606 ?_
  refine V_aload_n C 3 dL_law_607 rfl rfl ?_
  refine V_iload_n C 0 dL_law_608 rfl rfl ?_
  refine V_iconst (v := 2) C dL_law_609 (by decide) ?_
  refine V_iadd C dL_law_610 ?_
  refine V_ev (show (nI ii + 2 : Int32) = nI (ii + 2) from nI_add ii 2) ?_
  refine V_sld C hX (ii + 2) (by omega) hnn dL_law_611 ?_
  refine V_aload_n C 3 dL_law_612 rfl rfl ?_
  refine V_iload_n C 0 dL_law_613 rfl rfl ?_
  refine V_iconst (v := 3) C dL_law_614 (by decide) ?_
  refine V_iadd C dL_law_615 ?_
  refine V_ev (show (nI ii + 3 : Int32) = nI (ii + 3) from nI_add ii 3) ?_
  refine V_sld C hX (ii + 3) (by omega) hnn dL_law_616 ?_
  refine V_callB (q0 := 0) (na := 3) (As := [.int (xs (ii + 1)), .int (xs (ii + 2)), .int (xs (ii + 3))]) (rest := [.int r]) (bs := (SWB g f0 h0 s0 p0 o0 d0 h1 p1 rf a0 a1 a2 a3 a4 a5 a6 a7 j r0 r1 r2 r3 r4 r5 r6 mm mu mv f1 f2 hs ln cp o1 o2 o3 o4 D z past pm sl sv pd ty y od om sp wr)) C (c_X10_cheapest g a0 a1 a2 a3 a4 a5 a6 a7 (nI pm) (nI ty) om sp wr z y (xs (ii + 1)) (xs (ii + 2)) (xs (ii + 3)) hZ.bv) ⟨⟨ini_X10, co_X10_cheapest, ⟨by decide, by decide, by decide +kernel⟩, by decide⟩, ml_L_85, im_X10_cheapest, se_X10_cheapest⟩ [12, 13, 17] [0, 1, 2, 3, 4, 5, 6, 7, 8, 9, 10, 11, 14, 15, 16, 18, 19, 20, 21, 22, 23, 24, 25] (SWB_len ..) rfl rfl rfl rfl rfl rfl (Nat.le_of_ble_eq_true rfl) (by omega) (by omega) dL_law_617 (fun rq w_ hw => ?_)
  have hq : ∃ (y9 : Zt), w_ = (pkB [12, 13, 17] (SWB g f0 h0 s0 p0 o0 d0 h1 p1 rf a0 a1 a2 a3 a4 a5 a6 a7 j r0 r1 r2 r3 r4 r5 r6 mm mu mv f1 f2 hs ln cp o1 o2 o3 o4 D z past pm sl sv pd ty y9 od om sp wr)).flatten ∧ cheapestR z (xs (ii + 1)) (xs (ii + 2)) (xs (ii + 3)) = rq := by
    rcases hw with ⟨u1, rfl, rfl⟩ | ⟨u1, u2, rfl, rfl⟩ | ⟨P, S, u1, u2, u3, u4, u5, u6, u7, rfl⟩ | ⟨P, S, u1, u2, u3, u4, u5, u6, u7, rfl⟩
    · exact ⟨y, rfl, by unfold cheapestR; exact cif_f u1⟩
    · exact ⟨y, rfl, by unfold cheapestR; rw [cif_t u1, cif_f u2]⟩
    · exact ⟨z, rfl, by rw [u7]; unfold cheapestR; rw [cif_t (by rw [u4, u5]; exact okD_nI u1 u2 u3), cif_t (by rw [u6]; exact ok1_nI (i := 0) (by omega)), cif_t u6, cl_of u4 (by omega), cl_of u5 (by omega)]⟩
    · exact ⟨z, rfl, by rw [u7]; unfold cheapestR; rw [cif_t (by rw [u4, u5]; exact okD_nI u1 u2 u3), cif_t (by rw [u6]; exact ok1_nI (i := 1) (by omega)), cif_f (by rw [u6]; decide), cl_of u4 (by omega), cl_of u5 (by omega)]⟩
  obtain ⟨y9, hw9, hr9⟩ := hq
  refine V_Perm (ws2 := SW g f0 h0 s0 p0 o0 d0 h1 p1 rf a0 a1 a2 a3 a4 a5 a6 a7 j r0 r1 r2 r3 r4 r5 r6 mm mu mv f1 f2 hs ln cp o1 o2 o3 o4 D z past pm sl sv pd ty y9 od om sp wr) (perm_out (bl := [[(f0, .inr (9, [.ref (mm.1 0), .ref h0, .ref s0, .ref p0, .ref o0, .ref d0]))], [(h0, .inr (1, [.ref h1, .int (nI j), .int (nI hs)]))], [(h1, .inl (gM g, 7, .inr (.inr (.inr (.inr rf)))))], mW g r0, mW g mm, [(d0, .inr (0, [.int (D 0), .int (D 1), .int (D 2), .int (D 3), .int (D 4), .int (D 5), .int (D 6), .int (D 7), .int (D 8), .int (D 9), .int (D 10)]))], [(o0, .inr (4, [.int o1, .int o2, .int o3, .int o4]))], [(p0, .inr (5, [.ref p1, .int (nI ln)]))], [(p1, .inl (gC g, 80, .inl cp))], [(s0, .inr (7, [.ref (mu.1 0), .ref (mv.1 0), .int f1, .int f2]))], mW g mu, mW g mv, [(a2, .inl (gI g, 678, .inl past))], [(a3, .inl (gI g, 226, .inl sl))], [(a4, .inl (gZ g, 2, .inl sv))], [(a6, .inl (gC g, 80, .inl pd))], [(a7, .inl (gI g, 123, .inl od))], mW g r1, mW g r2, mW g r3, mW g r4, mW g r5, mW g r6]) [0, 1, 2, 3, 4, 5, 6, 7, 8, 9, 10, 11, 14, 15, 16, 18, 19, 20, 21, 22, 23, 24, 25] [0, 1, 2, 3, 4, 5, 6, 7, 8, 9, 10, 11, 14, 15, 16, 18, 19, 20, 21, 22, 23, 24, 25] [12, 13, 17] (SWB_len ..) rfl hw9 rfl rfl) ?_
  refine V_icmp_eq (tgt := 776) C dL_law_620 (by decide) (fun _ => ?_) (fun h9 => absurd (hs9.symm.trans hr9) h9)
  exact kk j r0 r1 r2 r3 r4 r5 r6 mm mu mv f1 f2 hs ln cp o1 o2 o3 o4 D z past pm sl sv pd ty y9 od om sp wr h
theorem ca_cheapest {g : Gd} {X : Bd} {d mc ms cs ss : Nat} {f0 h0 s0 p0 o0 d0 h1 p1 : Nat} {rf : Nat → Option Nat} {a0 a1 a2 a3 a4 a5 a6 a7 : Nat} {b nn ii : Nat} {xs : Nat → Int32} (C : Cx g X RL cL_law 4 d mc ms) (hd : 8 ≤ d) (hcs : cs ≤ mc ∧ ss ≤ ms) (hX : SC X b nn xs) (hnn : nn < 2 ^ 31) (hii : ii + 6 ≤ nn) {B : Nat} (hB : B + 82 < 2 ^ 31)  (hk : LPR g X cs ss f0 h0 s0 p0 o0 d0 h1 p1 rf a0 a1 a2 a3 a4 a5 a6 a7 776 [(3, .int (nI ii)), (2, .ref a0), (1, .ref f0), (0, .ref b)] (B + 82)) : LPR g X cs ss f0 h0 s0 p0 o0 d0 h1 p1 rf a0 a1 a2 a3 a4 a5 a6 a7 582 [(3, .int (nI ii)), (2, .ref a0), (1, .ref f0), (0, .ref b)] B := by
  intro j r0 r1 r2 r3 r4 r5 r6 mm mu mv f1 f2 hs ln cp o1 o2 o3 o4 D z past pm sl sv pd ty y od om sp wr h
  exact cs_cheapest C hd hcs hX hnn hii hB h (fun _ _ _ _ _ _ _ _ _ _ _ _ _ _ _ _ _ _ _ _ _ r hs9 h2 => ms_cheapest C hd hcs hX hnn hii hB hs9 h2 hk)
