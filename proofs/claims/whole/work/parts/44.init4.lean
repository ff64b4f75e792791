theorem g0_n {N k f s : Nat} (h : k ≠ 1) : g0F N k f s = fun _ => 0 := by
  funext j
  simp [g0F, h]
theorem g0_1 {N f s : Nat} : g0F N 1 f s = fun j => if j < N then 1 else 0 := by
  funext j
  simp [g0F]
set_option maxHeartbeats 4000000 in
set_option maxRecDepth 100000 in
theorem c_G_init (l : Launch) (D : va_G) (T : Nat → ClassId) (A : Nat → Prop) (M : xM) (sz : Nat) (hA0 : ∀ q, sz ≤ q → A q) (b K N : Nat) (x y : Int32) (hz : zB K N) (hKx : clF x (nI 1) (nI 4) = nI K) (hNx : clF y (nI K) (nI 7) = nI N) (h0 : M b = some (.inr (3, [.int 0, .int 0, .null, .null, .null, .null, .null, .null, .null, .null, .int 0, .int 0]))) : Met l y_G_init (Cond.code y_G_init b_G_init 4 none :: gw) (rmC 3 209 1582) (xPn D T A M sz [.ref b, .int x, .int y]) (xQ D A (fun r M1 => r = none ∧ ∃ ad, bS b (vH N) ad (fun k f s => cG T ad K N (g0F N k f s) k f s) M M1 ∧ ad 0 0 0 = b ∧ M1 b = some (cG T ad K N (g0F N 0 0 0) 0 0 0))) 209 1582 A := by
  refine xMetNv hA0 (by decide) (Nat.le_of_ble_eq_true rfl) ?_
  intro p e s m below meth c Q ls hB hP hS hA hl hret
  obtain ⟨hx, hb, hml, hown, hg, hK0, hnm⟩ := hB
  have hnm : meth.name = "<init>" := hnm
  have hown : s.vm.findClass "ShareGrid" = some m.cls := hown
  have hK := hK0.1
  have hN := hK0.2.1
  have hO := hK0.2.2
  obtain ⟨hz1, hz4, hzn, hz7⟩ := id hz
  have hl : lv_has ls 4 [(0, .ref b), (1, .int x), (2, .int y)] := hl
  have lp2 : ∀ (n i : Nat), 6 < i + n → i ≤ 6 → ∀ (ad : Nat → Nat → Nat → Nat) (Mx : xM) (Hx : Heap) (Lx : List Loc), xW D classes A Mx Hx → va_S A s.heap Hx Lx → iH T b K N i ad M Mx → ∀ (ls : Array Slot), lv_has ls 4 [(0, .ref b), (1, .int x), (2, .int y), (3, .int (nI i))] → W p l e (rmC 3 209 1582) s m [.ref b, .int x, .int y].toArray below meth c Hx Lx (3 + 33 * i) (20 + 250 * i) Q (F0 m 82 ls []) := by
    intro n
    induction n with
    | zero =>
      intro i hi hi2
      exact absurd hi (by omega)
    | succ n ih =>
      intro i hi hi2 ad Mx Hx Lx hP hS hF ls hl
      refine lv_iload_n hx hb d_G_init_82 rfl (lv_at hl 3 rfl) ?_
      refine lv_bipush (v := nI 6) hx hb d_G_init_83 (by decide) ?_
      refine x_nc_ge (tgt := 111) hx hb d_G_init_85 (by decide) (by omega) (by omega) (fun hc => ?_) (fun hc => ?_)
      · have hi6 : i = 6 := by omega
        subst hi6
        obtain ⟨hB, h0⟩ := hF
        have hB := hB.congr (S' := sH N 4) (fun _ _ _ => sH_4) (fun _ _ _ _ => rfl)
        refine lv_aload_n hx hb d_G_init_111 rfl (lv_at hl 0 rfl) ?_
        refine lv_aload_n hx hb d_G_init_112 rfl (lv_at hl 0 rfl) ?_
        refine x_get (v := .int (nI K)) (C := R_G) (T := F_G) (N := 12) hx hb hg i_G hown hK hP h0 rfl 0 (by decide) (hg _ w_110) (fun _ h9 => h9) rfl d_G_init_113 ?_
        refine x_newi (atype := .int) (n := nI K) (N' := K) hx hb (hg _ w_67) rfl hK hP hS hA 0 rfl (nI_pos (by omega)) (nI_clamp (by omega)) (by omega) (by simp only [rmC]; omega) (by simp only [rmC]; omega) d_G_init_116 (fun q4 H_343 hq4 hP hS => ?_)
        obtain ⟨aB_344, cB_344, MB_344, uDB_344, uEB_344, hP, hB, h0⟩ : ∃ z2 z3 z4, z2 = uA ad 4 0 0 q4 ∧ z3 = uA (cI T ad N 6) 4 0 0 (eI (T 0) K (fun _ => 0)) ∧ xW D classes A z4 H_343 ∧ bS b (sH N 5) z2 z3 M z4 ∧ z4 b = some (.inr (3, [.int (nI K), .int (nI N), .ref (ad 1 0 0), .ref (ad 2 0 0), .ref (ad 3 0 0), .null, .null, .null, .null, .null, .int 0, .int 0])) := ⟨_, _, _, rfl, rfl, hP, (hB.add ⟨_, h0⟩ hq4 (sH_n (by omega) (by omega))).congr (sH_1 (by omega) (by omega)) (fun _ _ _ _ => rfl), xU_kn hq4 h0⟩
        refine x_putF (v := .ref q4) (ty := t_G 5) (C := R_G) (T := F_G) (N := 12) hx hb hg i_G t_G t_G_ok n_G hown hK hP hS h0 rfl 5 (by decide) (hg _ w_115) (fun _ h9 => h9) rfl hnm rfl (by decide +kernel) rfl rfl (Nat.le_of_ble_eq_true rfl) d_G_init_118 (fun H_345 L_346 hP hS => ?_)
        obtain ⟨M_347, hP, hB, h0⟩ : ∃ z, xW D classes A z H_345 ∧ bS b (sH N 5) aB_344 cB_344 M z ∧ z b = some (.inr (3, [.int (nI K), .int (nI N), .ref (ad 1 0 0), .ref (ad 2 0 0), .ref (ad 3 0 0), .ref q4, .null, .null, .null, .null, .int 0, .int 0])) := ⟨_, hP, hB.own _, xU_s⟩
        refine lv_aload_n hx hb d_G_init_121 rfl (lv_at hl 0 rfl) ?_
        refine lv_aload_n hx hb d_G_init_122 rfl (lv_at hl 0 rfl) ?_
        refine x_get (v := .int (nI K)) (C := R_G) (T := F_G) (N := 12) hx hb hg i_G hown hK hP h0 rfl 0 (by decide) (hg _ w_110) (fun _ h9 => h9) rfl d_G_init_123 ?_
        refine x_newi (atype := .int) (n := nI K) (N' := K) hx hb (hg _ w_67) rfl hK hP hS hA 0 rfl (nI_pos (by omega)) (nI_clamp (by omega)) (by omega) (by simp only [rmC]; omega) (by simp only [rmC]; omega) d_G_init_126 (fun q5 H_348 hq5 hP hS => ?_)
        obtain ⟨aB_349, cB_349, MB_349, uDB_349, uEB_349, hP, hB, h0⟩ : ∃ z2 z3 z4, z2 = uA aB_344 5 0 0 q5 ∧ z3 = uA cB_344 5 0 0 (eI (T 0) K (fun _ => 0)) ∧ xW D classes A z4 H_348 ∧ bS b (sH N 6) z2 z3 M z4 ∧ z4 b = some (.inr (3, [.int (nI K), .int (nI N), .ref (ad 1 0 0), .ref (ad 2 0 0), .ref (ad 3 0 0), .ref q4, .null, .null, .null, .null, .int 0, .int 0])) := ⟨_, _, _, rfl, rfl, hP, (hB.add ⟨_, h0⟩ hq5 (sH_n (by omega) (by omega))).congr (sH_1 (by omega) (by omega)) (fun _ _ _ _ => rfl), xU_kn hq5 h0⟩
        refine x_putF (v := .ref q5) (ty := t_G 6) (C := R_G) (T := F_G) (N := 12) hx hb hg i_G t_G t_G_ok n_G hown hK hP hS h0 rfl 6 (by decide) (hg _ w_116) (fun _ h9 => h9) rfl hnm rfl (by decide +kernel) rfl rfl (Nat.le_of_ble_eq_true rfl) d_G_init_128 (fun H_350 L_351 hP hS => ?_)
        obtain ⟨M_352, hP, hB, h0⟩ : ∃ z, xW D classes A z H_350 ∧ bS b (sH N 6) aB_349 cB_349 M z ∧ z b = some (.inr (3, [.int (nI K), .int (nI N), .ref (ad 1 0 0), .ref (ad 2 0 0), .ref (ad 3 0 0), .ref q4, .ref q5, .null, .null, .null, .int 0, .int 0])) := ⟨_, hP, hB.own _, xU_s⟩
        refine lv_aload_n hx hb d_G_init_131 rfl (lv_at hl 0 rfl) ?_
        refine x_new (ci := 0) (fs := [.int 0, .null, .null]) (C := R_C) (T := F_C) (N := 3) hx hb hg i_C t_C t_C_ok hown (hg _ w_90) (hg _ w_91) (hg _ w_5) hK hP hS hA rfl (fun j hj => by rcases (show j = 0 ∨ j = 1 ∨ j = 2 by omega) with rfl | rfl | rfl <;> rfl) (by simp only [rmC]; omega) (by simp only [rmC]; omega) d_G_init_132 (fun q6 H_353 hq6 hP hS => ?_)
        refine lv_dup hx hb d_G_init_135 rfl ?_
        have h0q := xU_kn (e := .inr (0, [.int 0, .null, .null])) hq6 h0
        refine lv_aload_n hx hb d_G_init_136 rfl (lv_at hl 0 rfl) ?_
        refine x_get (v := .int (nI K)) (C := R_G) (T := F_G) (N := 12) hx hb hg i_G hown hK hP h0q rfl 0 (by decide) (hg _ w_110) (fun _ h9 => h9) rfl d_G_init_137 ?_
        refine xin_N (n := 1) (As := [.int (nI K)]) (rest := [.ref q6, .ref b]) hx hb hml hown hg hK0 hP hN (c_C_init l D T A _ _ (fun q hq => hA q (Nat.le_trans hS.1 hq)) q6 K (by omega) xU_s) w_94 w_5 e_92 w_93 rfl (by decide +kernel) ⟨Nat.le_of_ble_eq_true rfl, Nat.le_of_ble_eq_true rfl⟩ rfl hl.1 rfl (Nat.le_of_ble_eq_true rfl) hS ⟨by simp only [rmC]; omega, by simp only [rmC]; omega⟩ rfl rfl d_G_init_140 (fun r M1 H_354 L_355 hr hP hS => ?_)
        obtain ⟨rfl, q7, q8, hq7, hq8, h78, hM1⟩ := hr
        subst hM1
        refine x_fr (pc := 143) [.ref q6, .ref b] rfl rfl ?_
        obtain ⟨k1, k2⟩ := hB.cod (o := .inr (0, [.int (nI K), .ref q7, .ref q8])) (e1 := eI (T 0) K (fun _ => 0)) h0 hq6 hq7 hq8 h78 (sH_n (by omega) (by omega)) (sH_n (by omega) (by omega)) (sH_n (by omega) (by omega))
        have k1 := k1.congr (S' := sH N 9) (fun k f s => by simp only [sH, sA]; omega) (fun _ _ _ _ => rfl)
        obtain ⟨aB_356, cB_356, MB_356, uDB_356, uEB_356, hP, hB, h0⟩ : ∃ z2 z3 z4, z2 = uA (uA (uA aB_349 6 0 0 q6) 7 0 0 q7) 8 0 0 q8 ∧ z3 = uA (uA (uA (uA cB_349 6 0 0 (.inr (0, [.int 0, .null, .null]))) 7 0 0 (eI (T 0) K (fun _ => 0))) 8 0 0 (eI (T 0) K (fun _ => 0))) 6 0 0 (.inr (0, [.int (nI K), .ref q7, .ref q8])) ∧ xW D classes A z4 H_354 ∧ bS b (sH N 9) z2 z3 M z4 ∧ z4 b = some (.inr (3, [.int (nI K), .int (nI N), .ref (ad 1 0 0), .ref (ad 2 0 0), .ref (ad 3 0 0), .ref q4, .ref q5, .null, .null, .null, .int 0, .int 0])) := ⟨_, _, _, rfl, rfl, hP, k1, k2⟩
        refine x_putF (v := .ref q6) (ty := t_G 7) (C := R_G) (T := F_G) (N := 12) hx hb hg i_G t_G t_G_ok n_G hown hK hP hS h0 rfl 7 (by decide) (hg _ w_117) (fun _ h9 => h9) rfl hnm rfl (by decide +kernel) rfl rfl (Nat.le_of_ble_eq_true rfl) d_G_init_143 (fun H_357 L_358 hP hS => ?_)
        obtain ⟨M_359, hP, hB, h0⟩ : ∃ z, xW D classes A z H_357 ∧ bS b (sH N 9) aB_356 cB_356 M z ∧ z b = some (.inr (3, [.int (nI K), .int (nI N), .ref (ad 1 0 0), .ref (ad 2 0 0), .ref (ad 3 0 0), .ref q4, .ref q5, .ref q6, .null, .null, .int 0, .int 0])) := ⟨_, hP, hB.own _, xU_s⟩
        refine lv_aload_n hx hb d_G_init_146 rfl (lv_at hl 0 rfl) ?_
        refine x_new (ci := 1) (fs := [.null, .int 0, .int 0, .int 0, .int 0]) (C := R_R) (T := F_R) (N := 5) hx hb hg i_R t_R t_R_ok hown (hg _ w_108) (hg _ w_35) (hg _ w_4) hK hP hS hA rfl (fun j hj => by rcases (show j = 0 ∨ j = 1 ∨ j = 2 ∨ j = 3 ∨ j = 4 by omega) with rfl | rfl | rfl | rfl | rfl <;> rfl) (by simp only [rmC]; omega) (by simp only [rmC]; omega) d_G_init_147 (fun q9 H_360 hq9 hP hS => ?_)
        refine lv_dup hx hb d_G_init_150 rfl ?_
        have h0q := xU_kn (e := .inr (1, [.null, .int 0, .int 0, .int 0, .int 0])) hq9 h0
        refine lv_aload_n hx hb d_G_init_151 rfl (lv_at hl 0 rfl) ?_
        refine x_get (v := .int (nI N)) (C := R_G) (T := F_G) (N := 12) hx hb hg i_G hown hK hP h0q rfl 1 (by decide) (hg _ w_111) (fun _ h9 => h9) rfl d_G_init_152 ?_
        refine xin_N (n := 1) (As := [.int (nI N)]) (rest := [.ref q9, .ref b]) hx hb hml hown hg hK0 hP hN (c_R_init l D T A _ _ (fun q hq => hA q (Nat.le_trans hS.1 hq)) q9 N (by omega) xU_s) w_38 w_4 e_109 w_37 rfl (by decide +kernel) ⟨Nat.le_of_ble_eq_true rfl, Nat.le_of_ble_eq_true rfl⟩ rfl hl.1 rfl (Nat.le_of_ble_eq_true rfl) hS ⟨by simp only [rmC]; omega, by simp only [rmC]; omega⟩ rfl rfl d_G_init_155 (fun r M1 H_361 L_362 hr hP hS => ?_)
        obtain ⟨rfl, q10, hq10, hM1⟩ := hr
        subst hM1
        refine x_fr (pc := 158) [.ref q9, .ref b] rfl rfl ?_
        obtain ⟨k1, k2⟩ := hB.rec2 (k := 9) (f := 0) (s := 0) (k2 := 10) (f2 := 0) (s2 := 0) (o := .inr (1, [.ref q10, .int 0, .int 0, .int 0, .int 0])) (e1 := eI (T 0) N (fun _ => 0)) h0 hq9 hq10 (sH_n (by omega) (by omega)) (sH_n (by omega) (by omega)) (by omega)
        have k1 := k1.congr (S' := sH N 11) (fun k f s => by simp only [sH, sA]; omega) (fun _ _ _ _ => rfl)
        obtain ⟨aB_363, cB_363, MB_363, uDB_363, uEB_363, hP, hB, h0⟩ : ∃ z2 z3 z4, z2 = uA (uA aB_356 9 0 0 q9) 10 0 0 q10 ∧ z3 = uA (uA (uA cB_356 9 0 0 (.inr (1, [.null, .int 0, .int 0, .int 0, .int 0]))) 10 0 0 (eI (T 0) N (fun _ => 0))) 9 0 0 (.inr (1, [.ref q10, .int 0, .int 0, .int 0, .int 0])) ∧ xW D classes A z4 H_361 ∧ bS b (sH N 11) z2 z3 M z4 ∧ z4 b = some (.inr (3, [.int (nI K), .int (nI N), .ref (ad 1 0 0), .ref (ad 2 0 0), .ref (ad 3 0 0), .ref q4, .ref q5, .ref q6, .null, .null, .int 0, .int 0])) := ⟨_, _, _, rfl, rfl, hP, k1, k2⟩
        refine x_putF (v := .ref q9) (ty := t_G 8) (C := R_G) (T := F_G) (N := 12) hx hb hg i_G t_G t_G_ok n_G hown hK hP hS h0 rfl 8 (by decide) (hg _ w_118) (fun _ h9 => h9) rfl hnm rfl (by decide +kernel) rfl rfl (Nat.le_of_ble_eq_true rfl) d_G_init_158 (fun H_364 L_365 hP hS => ?_)
        obtain ⟨M_366, hP, hB, h0⟩ : ∃ z, xW D classes A z H_364 ∧ bS b (sH N 11) aB_363 cB_363 M z ∧ z b = some (.inr (3, [.int (nI K), .int (nI N), .ref (ad 1 0 0), .ref (ad 2 0 0), .ref (ad 3 0 0), .ref q4, .ref q5, .ref q6, .ref q9, .null, .int 0, .int 0])) := ⟨_, hP, hB.own _, xU_s⟩
        refine lv_aload_n hx hb d_G_init_161 rfl (lv_at hl 0 rfl) ?_
        refine lv_bipush (v := nI 31) hx hb d_G_init_162 (by decide) ?_
        refine x_newi (atype := .int) (n := nI 31) (N' := 31) hx hb (hg _ w_67) rfl hK hP hS hA 0 rfl (nI_pos (by omega)) (nI_clamp (by omega)) (by omega) (by simp only [rmC]; omega) (by simp only [rmC]; omega) d_G_init_164 (fun q11 H_367 hq11 hP hS => ?_)
        obtain ⟨aB_368, cB_368, MB_368, uDB_368, uEB_368, hP, hB, h0⟩ : ∃ z2 z3 z4, z2 = uA aB_363 11 0 0 q11 ∧ z3 = uA cB_363 11 0 0 (eI (T 0) 31 (fun _ => 0)) ∧ xW D classes A z4 H_367 ∧ bS b (sH N 12) z2 z3 M z4 ∧ z4 b = some (.inr (3, [.int (nI K), .int (nI N), .ref (ad 1 0 0), .ref (ad 2 0 0), .ref (ad 3 0 0), .ref q4, .ref q5, .ref q6, .ref q9, .null, .int 0, .int 0])) := ⟨_, _, _, rfl, rfl, hP, (hB.add ⟨_, h0⟩ hq11 (sH_n (by omega) (by omega))).congr (sH_1 (by omega) (by omega)) (fun _ _ _ _ => rfl), xU_kn hq11 h0⟩
        refine x_putF (v := .ref q11) (ty := t_G 9) (C := R_G) (T := F_G) (N := 12) hx hb hg i_G t_G t_G_ok n_G hown hK hP hS h0 rfl 9 (by decide) (hg _ w_119) (fun _ h9 => h9) rfl hnm rfl (by decide +kernel) rfl rfl (Nat.le_of_ble_eq_true rfl) d_G_init_166 (fun H_369 L_370 hP hS => ?_)
        obtain ⟨M_371, hP, hB, h0⟩ : ∃ z, xW D classes A z H_369 ∧ bS b (sH N 12) aB_368 cB_368 M z ∧ z b = some (.inr (3, [.int (nI K), .int (nI N), .ref (ad 1 0 0), .ref (ad 2 0 0), .ref (ad 3 0 0), .ref q4, .ref q5, .ref q6, .ref q9, .ref q11, .int 0, .int 0])) := ⟨_, hP, hB.own _, xU_s⟩
        refine lv_aload_n hx hb d_G_init_169 rfl (lv_at hl 0 rfl) ?_
        refine lv_iconst (v := nI 0) hx hb d_G_init_170 (by decide) ?_
        refine x_put (v := .int (nI 0)) (ty := .int) (C := R_G) (T := F_G) (N := 12) hx hb hg i_G t_G t_G_ok n_G hown hK hP hS h0 rfl 10 (by decide) (hg _ w_120) (fun _ h9 => h9) rfl (by decide +kernel) rfl rfl (Nat.le_of_ble_eq_true rfl) d_G_init_171 (fun H_372 L_373 hP hS => ?_)
        obtain ⟨M_374, hP, hB, h0⟩ : ∃ z, xW D classes A z H_372 ∧ bS b (sH N 12) aB_368 cB_368 M z ∧ z b = some (.inr (3, [.int (nI K), .int (nI N), .ref (ad 1 0 0), .ref (ad 2 0 0), .ref (ad 3 0 0), .ref q4, .ref q5, .ref q6, .ref q9, .ref q11, .int 0, .int 0])) := ⟨_, hP, hB.own _, xU_s⟩
        refine lv_aload_n hx hb d_G_init_174 rfl (lv_at hl 0 rfl) ?_
        refine lv_iconst (v := nI 0) hx hb d_G_init_175 (by decide) ?_
        refine x_put (v := .int (nI 0)) (ty := .boolean) (C := R_G) (T := F_G) (N := 12) hx hb hg i_G t_G t_G_ok n_G hown hK hP hS h0 rfl 11 (by decide) (hg _ w_121) (fun _ h9 => h9) rfl (by decide +kernel) (by rfl) (by rfl) (Nat.le_of_ble_eq_true rfl) d_G_init_176 (fun H_375 L_376 hP hS => ?_)
        obtain ⟨M_377, hP, hB, h0⟩ : ∃ z, xW D classes A z H_375 ∧ bS b (sH N 12) aB_368 cB_368 M z ∧ z b = some (.inr (3, [.int (nI K), .int (nI N), .ref (ad 1 0 0), .ref (ad 2 0 0), .ref (ad 3 0 0), .ref q4, .ref q5, .ref q6, .ref q9, .ref q11, .int 0, .int 0])) := ⟨_, hP, hB.own _, xU_s⟩
        have m3 : (sH N 12) 3 0 0 := by simp [sH]
        have e3 : aB_368 3 0 0 = ad 3 0 0 := by simp [uDB_344, uDB_349, uDB_356, uDB_363, uDB_368, uA]
        have g3 : M_377 (aB_368 3 0 0) = some (eQ (T 3) 6 (fun j => if j < 6 then some (ad 12 j 0) else none)) := by
          rw [(hB.1 3 0 0 m3).1]
          simp [uEB_344, uEB_349, uEB_356, uEB_363, uEB_368, uA, cI]
        have hP := hP.extq (f' := fun x => some (ad 12 x 0)) g3 (fun j hj => if_pos hj)
        have hB2 := hB.set1 (e := eQ (T 3) 6 (fun x => some (ad 12 x 0))) m3
        have hb3 : b ≠ aB_368 3 0 0 := (hB.1 3 0 0 m3).2.2.symm
        refine W.widen (k := 209) (n := 1582) (by omega) (by omega) ?_
        refine hret _ _ _ _ _ d_G_init_179 hP hS ⟨rfl, uA aB_368 0 0 0 b, hB2.cad (fun k f s => ?_) (fun k f s z => ?_) (fun k f s z => ?_), uA_s, ?_⟩
        · exact Iff.rfl
        · simp only [vH, sH] at z
          exact uA_n (by omega)
        · simp only [vH, sH] at z
          subst uDB_344 uDB_349 uDB_356 uDB_363 uDB_368
          subst uEB_344 uEB_349 uEB_356 uEB_363 uEB_368
          by_cases hk : k < 12
          · have hf : f = 0 := by omega
            have hs : s = 0 := by omega
            subst hf
            subst hs
            have hk11 : k = 1 ∨ k = 2 ∨ k = 3 ∨ k = 4 ∨ k = 5 ∨ k = 6 ∨ k = 7 ∨ k = 8 ∨ k = 9 ∨ k = 10 ∨ k = 11 := by omega
            rcases hk11 with rfl | rfl | rfl | rfl | rfl | rfl | rfl | rfl | rfl | rfl | rfl <;> simp [cG, cI, uA, g0_n, g0_1]
          · have hk9 : k = 12 ∨ k = 13 ∨ k = 14 ∨ k = 15 ∨ k = 16 ∨ k = 17 ∨ k = 18 ∨ k = 19 ∨ k = 20 := by omega
            rcases hk9 with rfl | rfl | rfl | rfl | rfl | rfl | rfl | rfl | rfl <;> simp [cG, cI, uA, g0_n, g0_1]
        · rw [xU_n hb3, h0]
          subst uDB_344 uDB_349 uDB_356 uDB_363 uDB_368
          simp [cG, uA, g0F]
      · have h0 := hF.2
        refine lv_aload_n hx hb d_G_init_88 rfl (lv_at hl 0 rfl) ?_
        refine x_get (v := .ref (ad 3 0 0)) (C := R_G) (T := F_G) (N := 12) hx hb hg i_G hown hK hP h0 rfl 4 (by decide) (hg _ w_114) (fun _ h9 => h9) rfl d_G_init_89 ?_
        refine lv_iload_n hx hb d_G_init_92 rfl (lv_at hl 3 rfl) ?_
        refine x_new (ci := 2) (fs := [.null, .null, .null, .null, .int 0, .int 0]) (C := R_F) (T := F_F) (N := 6) hx hb hg i_F t_F t_F_ok hown (hg _ w_26) (hg _ w_28) (hg _ w_3) hK hP hS hA rfl (fun j hj => by rcases (show j = 0 ∨ j = 1 ∨ j = 2 ∨ j = 3 ∨ j = 4 ∨ j = 5 by omega) with rfl | rfl | rfl | rfl | rfl | rfl <;> rfl) (by simp only [rmC]; omega) (by simp only [rmC]; omega) d_G_init_93 (fun q H_378 hq hP hS => ?_)
        refine lv_dup hx hb d_G_init_96 rfl ?_
        have h0q := xU_kn (e := .inr (2, [.null, .null, .null, .null, .int 0, .int 0])) hq h0
        refine lv_aload_n hx hb d_G_init_97 rfl (lv_at hl 0 rfl) ?_
        refine x_get (v := .int (nI N)) (C := R_G) (T := F_G) (N := 12) hx hb hg i_G hown hK hP h0q rfl 1 (by decide) (hg _ w_111) (fun _ h9 => h9) rfl d_G_init_98 ?_
        refine xin_N (n := 1) (As := [.int (nI N)]) (rest := [.ref q, .int (nI i), .ref (ad 3 0 0)]) hx hb hml hown hg hK0 hP hN (c_F_init l D T A _ _ (fun q hq => hA q (Nat.le_trans hS.1 hq)) q N i (by omega) xU_s) w_31 w_3 e_29 w_30 rfl (by decide +kernel) ⟨Nat.le_of_ble_eq_true rfl, Nat.le_of_ble_eq_true rfl⟩ rfl hl.1 rfl (Nat.le_of_ble_eq_true rfl) hS ⟨by simp only [rmC]; omega, by simp only [rmC]; omega⟩ rfl rfl d_G_init_101 (fun r M1 H_379 L_380 hr hP hS => ?_)
        obtain ⟨rfl, ad2, h2, hq1⟩ := hr
        refine x_fr (pc := 104) [.ref q, .int (nI i), .ref (ad 3 0 0)] rfl rfl ?_
        obtain ⟨g1, g2⟩ := iH_s hF hq h2 hq1
        refine x_astq (r := (R_F, F_F, 6)) hx hb hK hP hS 3 2 g1 rfl hq1 rfl (vp_in_nI (by omega) (by omega)) d_G_init_104 (fun H_381 L_382 hP hS => ?_)
        rw [nI_clamp (by omega)] at hP
        obtain ⟨ad, Mx, hP, hF⟩ : ∃ z y, xW D classes A y H_381 ∧ iH T b K N (i + 1) z M y := ⟨_, _, hP, g2⟩
        refine lv_iinc (v := nI (i + 1)) (lv' := [(3, .int (nI (i + 1))), (0, .ref b), (1, .int x), (2, .int y)]) hx hb d_G_init_105 hl (k := 3) rfl (nI_1 _) (by decide) rfl (fun ls hl => ?_)
        refine lv_goto (tgt := 82) hx hb d_G_init_108 (by decide) ?_
        refine W.widen (k := 3 + 33 * (i + 1)) (n := 20 + 250 * (i + 1)) (by omega) (by omega) ?_
        exact ih (i + 1) (by omega) (by omega) ad Mx _ _ hP hS hF ls (lv_sub hl [1, 2, 3, 0] rfl)
  have lp1 : ∀ (q1 q2 : Nat) (Sx : Nat → Nat → Nat → Prop) (ax : Nat → Nat → Nat → Nat) (cx : Nat → Nat → Nat → va_E), Sx = sA (sA (fun _ _ _ => False) 1 0 0) 2 0 0 → ax 1 0 0 = q1 → ax 2 0 0 = q2 → cx 2 0 0 = eI (T 1) N (fun _ => 0) → ∀ (n i : Nat), N < i + n → i ≤ N → ∀ (Mx : xM) (Hx : Heap) (Lx : List Loc), xW D classes A Mx Hx → va_S A s.heap Hx Lx → bS b Sx ax (uA cx 1 0 0 (eI (T 1) N (fun j => if j < i then 1 else 0))) M Mx → Mx b = some (.inr (3, [.int (nI K), .int (nI N), .ref q1, .ref q2, .null, .null, .null, .null, .null, .null, .int 0, .int 0])) → ∀ (ls : Array Slot), lv_has ls 4 [(0, .ref b), (1, .int x), (2, .int y), (3, .int (nI i))] → W p l e (rmC 3 209 1582) s m [.ref b, .int x, .int y].toArray below meth c Hx Lx 2 14 Q (F0 m 50 ls []) := by
    intro q1 q2 Sx ax cx uS ex1 ex2 ec2 n
    induction n with
    | zero =>
      intro i hi hi2
      exact absurd hi (by omega)
    | succ n ih =>
      intro i hi hi2 Mx Hx Lx hP hS hB h0 ls hl
      have m1 : Sx 1 0 0 := by simp [uS, sA]
      have g1 : Mx q1 = some (eI (T 1) N (fun j => if j < i then 1 else 0)) := by
        have z := (hB.1 1 0 0 m1).1
        rw [ex1, uA_s] at z
        exact z
      refine lv_iload_n hx hb d_G_init_50 rfl (lv_at hl 3 rfl) ?_
      refine lv_aload_n hx hb d_G_init_51 rfl (lv_at hl 0 rfl) ?_
      refine x_get (v := .int (nI N)) (C := R_G) (T := F_G) (N := 12) hx hb hg i_G hown hK hP h0 rfl 1 (by decide) (hg _ w_111) (fun _ h9 => h9) rfl d_G_init_52 ?_
      refine x_nc_ge (tgt := 71) hx hb d_G_init_55 (by decide) (by omega) (by omega) (fun hc => ?_) (fun hc => ?_)
      · have hiN : i = N := by omega
        subst hiN
        refine lv_aload_n hx hb d_G_init_71 rfl (lv_at hl 0 rfl) ?_
        refine lv_bipush (v := nI 6) hx hb d_G_init_72 (by decide) ?_
        refine x_newq (C := "ShareGrid$StoredFile") (n := nI 6) (N' := 6) hx hb hown (hg _ w_26) (hO _ (by decide +kernel)) hK hP hS hA 3 rfl (nI_pos (by omega)) (nI_clamp (by omega)) (by omega) (by simp only [rmC]; omega) (by simp only [rmC]; omega) d_G_init_74 (fun q3 H_383 hq3 hP hS => ?_)
        have hB := hB.add (k := 3) (f := 0) (s := 0) (e := eQ (T 3) 6 (fun _ => none)) ⟨_, h0⟩ hq3 (by simp [uS, sA])
        have h0 := xU_kn (e := eQ (T 3) 6 (fun _ => none)) hq3 h0
        refine x_putF (v := .ref q3) (ty := t_G 4) (C := R_G) (T := F_G) (N := 12) hx hb hg i_G t_G t_G_ok n_G hown hK hP hS h0 rfl 4 (by decide) (hg _ w_114) (fun _ h9 => h9) rfl hnm rfl (by decide +kernel) rfl rfl (Nat.le_of_ble_eq_true rfl) d_G_init_77 (fun H_384 L_385 hP hS => ?_)
        have hB := hB.own (.inr (3, [.int (nI K), .int (nI i), .ref q1, .ref q2, .ref q3, .null, .null, .null, .null, .null, .int 0, .int 0]))
        refine lv_iconst (v := nI 0) hx hb d_G_init_80 (by decide) ?_
        refine lv_istore_n (lv' := [(3, .int (nI 0)), (0, .ref b), (1, .int x), (2, .int y)]) hx hb d_G_init_81 rfl hl (by decide) rfl (fun ls hl => ?_)
        refine W.widen (k := 3 + 33 * 0) (n := 20 + 250 * 0) (by omega) (by omega) ?_
        refine lp2 7 0 (by omega) (by omega) (uA ax 3 0 0 q3) _ _ _ hP hS ⟨hB.congr (fun k f s => ?_) (fun k f s z => ?_), ?_⟩ ls (lv_sub hl [1, 2, 3, 0] rfl)
        · simp only [uS, sA, sG, false_or]
          omega
        · simp only [sG] at z
          have hf : f = 0 := by omega
          have hs : s = 0 := by omega
          subst hf
          subst hs
          have hk : k = 1 ∨ k = 2 ∨ k = 3 := by omega
          rcases hk with rfl | rfl | rfl <;> simp [cI, uA, ec2]
        · rw [xU_s]
          simp [uA, ex1, ex2]
      · refine lv_aload_n hx hb d_G_init_58 rfl (lv_at hl 0 rfl) ?_
        refine x_get (v := .ref q1) (C := R_G) (T := F_G) (N := 12) hx hb hg i_G hown hK hP h0 rfl 2 (by decide) (hg _ w_112) (fun _ h9 => h9) rfl d_G_init_59 ?_
        refine lv_iload_n hx hb d_G_init_62 rfl (lv_at hl 3 rfl) ?_
        refine lv_iconst (v := nI 1) hx hb d_G_init_63 (by decide) ?_
        refine x_zast hx hb hK hP hS 1 g1 rfl (vp_in_nI (by omega) (by omega)) d_G_init_64 (fun H_386 L_387 hP hS => ?_)
        rw [show vp_nar .boolean (nI 1) = nI 1 from by rfl] at hP
        rw [nI_clamp (by omega)] at hP
        have eu : upd (fun j => if j < i then (1 : Int32) else 0) i (nI 1) = fun j => if j < i + 1 then 1 else 0 := by
          funext j
          by_cases hj : j = i
          · rw [hj, pk_us, if_pos (by omega)]
            rfl
          · rw [pk_un hj]
            have hjj : j < i + 1 ↔ j < i := by omega
            simp [hjj]
        rw [eu] at hP
        have hB := hB.set (c' := uA cx 1 0 0 (eI (T 1) N (fun j => if j < (i + 1) then 1 else 0))) m1 uA_s (fun k1 f1 s1 _ z => by rw [uA_n z, uA_n z])
        rw [ex1] at hB
        have h01 : b ≠ q1 := fun z => by rw [← z, h0] at g1; cases g1
        have h0 := xU_k (e := (eI (T 1) N (fun j => if j < (i + 1) then 1 else 0))) h01 h0
        refine lv_iinc (v := nI (i + 1)) (lv' := [(3, .int (nI (i + 1))), (0, .ref b), (1, .int x), (2, .int y)]) hx hb d_G_init_65 hl (k := 3) rfl (nI_1 _) (by decide) rfl (fun ls hl => ?_)
        refine lv_goto (tgt := 50) hx hb d_G_init_68 (by decide) ?_
        exact ih (i + 1) (by omega) (by omega) _ _ _ hP hS hB h0 ls (lv_sub hl [1, 2, 3, 0] rfl)
  refine lv_aload_n hx hb d_G_init_0 rfl (lv_at hl 0 rfl) ?_
  refine W.objInit hx hb hown (hg _ w_14) (hg _ w_15) (hg _ w_16) rfl (by rw [hml]; exact hl.1) rfl d_G_init_1 (Nat.le_of_ble_eq_true rfl) (Nat.le_of_ble_eq_true rfl) ?_
  refine W.eq (g2 := F0 m 4 ls []) rfl ?_
  refine lv_aload_n hx hb d_G_init_4 rfl (lv_at hl 0 rfl) ?_
  refine lv_iload_n hx hb d_G_init_5 rfl (lv_at hl 1 rfl) ?_
  refine lv_iconst (v := nI 1) hx hb d_G_init_6 (by decide) ?_
  refine lv_iconst (v := nI 4) hx hb d_G_init_7 (by decide) ?_
  refine xs_R (n := 3) (As := [.int x, .int (nI 1), .int (nI 4)]) (rest := [.ref b]) hx hb hml hown hg hK0 hP (c_G_clamped l D T A _ x (nI 1) (nI 4)) w_19 w_1 w_17 w_18 (by decide +kernel) ⟨Nat.le_of_ble_eq_true rfl, Nat.le_of_ble_eq_true rfl⟩ rfl hl.1 rfl (Nat.le_of_ble_eq_true rfl) ⟨Nat.zero_le _, Nat.zero_le _⟩ rfl rfl d_G_init_8 (fun r hr => ?_)
  subst hr
  refine x_fr (pc := 11) [.int (clF x (nI 1) (nI 4)), .ref b] rfl rfl ?_
  refine x_top (y := nI K) hKx ?_
  have hB := bS.nil b (fun _ _ _ => 0) (fun _ _ _ => .inr (0, [])) M
  refine x_putF (v := .int (nI K)) (ty := .int) (C := R_G) (T := F_G) (N := 12) hx hb hg i_G t_G t_G_ok n_G hown hK hP hS h0 rfl 0 (by decide) (hg _ w_110) (fun _ h9 => h9) rfl hnm rfl (by decide +kernel) rfl rfl (Nat.le_of_ble_eq_true rfl) d_G_init_11 (fun H_388 L_389 hP hS => ?_)
  obtain ⟨M_390, hP, hB, h0⟩ : ∃ z, xW D classes A z H_388 ∧ bS b (fun _ _ _ => False) (fun _ _ _ => 0) (fun _ _ _ => .inr (0, [])) M z ∧ z b = some (.inr (3, [.int (nI K), .int 0, .null, .null, .null, .null, .null, .null, .null, .null, .int 0, .int 0])) := ⟨_, hP, hB.own _, xU_s⟩
  refine lv_aload_n hx hb d_G_init_14 rfl (lv_at hl 0 rfl) ?_
  refine lv_iload_n hx hb d_G_init_15 rfl (lv_at hl 2 rfl) ?_
  refine lv_aload_n hx hb d_G_init_16 rfl (lv_at hl 0 rfl) ?_
  refine x_get (v := .int (nI K)) (C := R_G) (T := F_G) (N := 12) hx hb hg i_G hown hK hP h0 rfl 0 (by decide) (hg _ w_110) (fun _ h9 => h9) rfl d_G_init_17 ?_
  refine lv_bipush (v := nI 7) hx hb d_G_init_20 (by decide) ?_
  refine xs_R (n := 3) (As := [.int y, .int (nI K), .int (nI 7)]) (rest := [.ref b]) hx hb hml hown hg hK0 hP (c_G_clamped l D T A _ y (nI K) (nI 7)) w_19 w_1 w_17 w_18 (by decide +kernel) ⟨Nat.le_of_ble_eq_true rfl, Nat.le_of_ble_eq_true rfl⟩ rfl hl.1 rfl (Nat.le_of_ble_eq_true rfl) ⟨Nat.zero_le _, Nat.zero_le _⟩ rfl rfl d_G_init_22 (fun r hr => ?_)
  subst hr
  refine x_fr (pc := 25) [.int (clF y (nI K) (nI 7)), .ref b] rfl rfl ?_
  refine x_top (y := nI N) hNx ?_
  refine x_putF (v := .int (nI N)) (ty := .int) (C := R_G) (T := F_G) (N := 12) hx hb hg i_G t_G t_G_ok n_G hown hK hP hS h0 rfl 1 (by decide) (hg _ w_111) (fun _ h9 => h9) rfl hnm rfl (by decide +kernel) rfl rfl (Nat.le_of_ble_eq_true rfl) d_G_init_25 (fun H_391 L_392 hP hS => ?_)
  obtain ⟨M_393, hP, hB, h0⟩ : ∃ z, xW D classes A z H_391 ∧ bS b (fun _ _ _ => False) (fun _ _ _ => 0) (fun _ _ _ => .inr (0, [])) M z ∧ z b = some (.inr (3, [.int (nI K), .int (nI N), .null, .null, .null, .null, .null, .null, .null, .null, .int 0, .int 0])) := ⟨_, hP, hB.own _, xU_s⟩
  refine lv_aload_n hx hb d_G_init_28 rfl (lv_at hl 0 rfl) ?_
  refine lv_aload_n hx hb d_G_init_29 rfl (lv_at hl 0 rfl) ?_
  refine x_get (v := .int (nI N)) (C := R_G) (T := F_G) (N := 12) hx hb hg i_G hown hK hP h0 rfl 1 (by decide) (hg _ w_111) (fun _ h9 => h9) rfl d_G_init_30 ?_
  refine x_newz (atype := .boolean) (n := nI N) (N' := N) hx hb (hg _ w_66) rfl hK hP hS hA 1 rfl (nI_pos (by omega)) (nI_clamp (by omega)) (by omega) (by simp only [rmC]; omega) (by simp only [rmC]; omega) d_G_init_33 (fun q1 H_394 hq1 hP hS => ?_)
  obtain ⟨SB_395, aB_395, cB_395, MB_395, uSB_395, uDB_395, uEB_395, hP, hB, h0⟩ : ∃ z1 z2 z3 z4, z1 = sA (fun _ _ _ => False) 1 0 0 ∧ z2 = uA (fun _ _ _ => 0) 1 0 0 q1 ∧ z3 = uA (fun _ _ _ => .inr (0, [])) 1 0 0 (eI (T 1) N (fun _ => 0)) ∧ xW D classes A z4 H_394 ∧ bS b z1 z2 z3 M z4 ∧ z4 b = some (.inr (3, [.int (nI K), .int (nI N), .null, .null, .null, .null, .null, .null, .null, .null, .int 0, .int 0])) := ⟨_, _, _, _, rfl, rfl, rfl, hP, hB.add ⟨_, h0⟩ hq1 (by simp [sA, sG]), xU_kn hq1 h0⟩
  refine x_putF (v := .ref q1) (ty := t_G 2) (C := R_G) (T := F_G) (N := 12) hx hb hg i_G t_G t_G_ok n_G hown hK hP hS h0 rfl 2 (by decide) (hg _ w_112) (fun _ h9 => h9) rfl hnm rfl (by decide +kernel) rfl rfl (Nat.le_of_ble_eq_true rfl) d_G_init_35 (fun H_396 L_397 hP hS => ?_)
  obtain ⟨M_398, hP, hB, h0⟩ : ∃ z, xW D classes A z H_396 ∧ bS b SB_395 aB_395 cB_395 M z ∧ z b = some (.inr (3, [.int (nI K), .int (nI N), .ref q1, .null, .null, .null, .null, .null, .null, .null, .int 0, .int 0])) := ⟨_, hP, hB.own _, xU_s⟩
  refine lv_aload_n hx hb d_G_init_38 rfl (lv_at hl 0 rfl) ?_
  refine lv_aload_n hx hb d_G_init_39 rfl (lv_at hl 0 rfl) ?_
  refine x_get (v := .int (nI N)) (C := R_G) (T := F_G) (N := 12) hx hb hg i_G hown hK hP h0 rfl 1 (by decide) (hg _ w_111) (fun _ h9 => h9) rfl d_G_init_40 ?_
  refine x_newz (atype := .boolean) (n := nI N) (N' := N) hx hb (hg _ w_66) rfl hK hP hS hA 1 rfl (nI_pos (by omega)) (nI_clamp (by omega)) (by omega) (by simp only [rmC]; omega) (by simp only [rmC]; omega) d_G_init_43 (fun q2 H_399 hq2 hP hS => ?_)
  obtain ⟨SB_400, aB_400, cB_400, MB_400, uSB_400, uDB_400, uEB_400, hP, hB, h0⟩ : ∃ z1 z2 z3 z4, z1 = sA SB_395 2 0 0 ∧ z2 = uA aB_395 2 0 0 q2 ∧ z3 = uA cB_395 2 0 0 (eI (T 1) N (fun _ => 0)) ∧ xW D classes A z4 H_399 ∧ bS b z1 z2 z3 M z4 ∧ z4 b = some (.inr (3, [.int (nI K), .int (nI N), .ref q1, .null, .null, .null, .null, .null, .null, .null, .int 0, .int 0])) := ⟨_, _, _, _, rfl, rfl, rfl, hP, hB.add ⟨_, h0⟩ hq2 (by simp [uSB_395, sA, sG]), xU_kn hq2 h0⟩
  refine x_putF (v := .ref q2) (ty := t_G 3) (C := R_G) (T := F_G) (N := 12) hx hb hg i_G t_G t_G_ok n_G hown hK hP hS h0 rfl 3 (by decide) (hg _ w_113) (fun _ h9 => h9) rfl hnm rfl (by decide +kernel) rfl rfl (Nat.le_of_ble_eq_true rfl) d_G_init_45 (fun H_401 L_402 hP hS => ?_)
  obtain ⟨M_403, hP, hB, h0⟩ : ∃ z, xW D classes A z H_401 ∧ bS b SB_400 aB_400 cB_400 M z ∧ z b = some (.inr (3, [.int (nI K), .int (nI N), .ref q1, .ref q2, .null, .null, .null, .null, .null, .null, .int 0, .int 0])) := ⟨_, hP, hB.own _, xU_s⟩
  refine lv_iconst (v := nI 0) hx hb d_G_init_48 (by decide) ?_
  refine lv_istore_n (lv' := [(3, .int (nI 0)), (0, .ref b), (1, .int x), (2, .int y)]) hx hb d_G_init_49 rfl hl (by decide) rfl (fun ls hl => ?_)
  refine W.widen (k := 2) (n := 14) (by omega) (by omega) ?_
  refine lp1 q1 q2 SB_400 aB_400 cB_400 (by rw [uSB_400, uSB_395]) (by simp [uDB_395, uDB_400, uA]) (by simp [uDB_395, uDB_400, uA]) (by simp [uEB_395, uEB_400, uA]) (N + 1) 0 (by omega) (by omega) _ _ _ hP hS (hB.congr (fun _ _ _ => Iff.rfl) (fun k f s z => ?_)) h0 ls (lv_sub hl [1, 2, 3, 0] rfl)
  subst uEB_395 uEB_400
  by_cases hk : k = 1 ∧ f = 0 ∧ s = 0
  · obtain ⟨rfl, rfl, rfl⟩ := hk
    simp [uA]
  · rw [uA_n hk]
