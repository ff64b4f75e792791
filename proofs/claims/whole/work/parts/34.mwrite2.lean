/-! the reference: write -/
set_option maxHeartbeats 4000000 in
set_option maxRecDepth 100000 in
theorem c_M_keep (l : Launch) (D : va_G) (T : Nat → ClassId) (A : Nat → Prop) (M : xM) (bd : Nat → Nat) (K N : Nat) (q : Nat → Nat → Int32) (hz : zB K N) (hM : mG T bd K N q M) (at0 i f nu : Nat) (ha : at0 < 42) (hi : i < N) (hf : f < 6) (hnu : nu < 31) : Met l y_M_keep (Cond.code y_M_keep b_M_keep 6 none :: gw) (rmH 3) (xPc D T A M [.ref (bd 0), .int (nI at0), .int (nI i), .int (nI f), .int (nI nu)]) (xQ D A (fun r M1 => r = none ∧ ∃ q', mR T bd K N M q' M1 ∧ (∀ k, k ≠ 7 → k ≠ 8 → q' k = q k) ∧ (∀ a, a ≠ at0 → q' 8 a = q 8 a) ∧ (∀ a b, a ≠ at0 → b < 10 → q' 7 (a * 10 + b) = q 7 (a * 10 + b)) ∧ q' 8 at0 = 1 ∧ q' 7 (at0 * 10) = shM (q 11) (nI i + 1) K ∧ q' 7 (at0 * 10 + 1) = nI nu ∧ q' 7 (at0 * 10 + 2) = q 6 (f * 31 + nu) ∧ ∀ t, t < N → q' 7 (at0 * 10 + 3 + t) = mixF (shM (q 11) (nI t + 1) K) (nI t + 100))) 0 0 A := by
  refine xMetQv (by decide) (Nat.le_of_ble_eq_true rfl) ?_
  intro p e s m below meth c Q ls hB hP hS hl hret
  obtain ⟨hx, hb, hml, hown, hg, hK0, hnm⟩ := hB
  have hown : s.vm.findClass "ShareGridModel" = some m.cls := hown
  have hK := hK0.1
  have hN := hK0.2.1
  obtain ⟨hz1, hz4, hzn, hz7⟩ := id hz
  have hR := hM.rf
  have hl : lv_has ls 6 [(0, .ref (bd 0)), (1, .int (nI at0)), (2, .int (nI i)), (3, .int (nI f)), (4, .int (nI nu))] := hl
  refine lv_aload_n hx hb d_M_keep_0 rfl (lv_at hl 0 rfl) ?_
  refine x_get (v := .ref (bd 8)) (C := R_M) (T := F_M) (N := 17) hx hb hg i_M hown hK hP (ma_0 hM) rfl 10 (by decide) (hg _ w_364) (fun _ h9 => h9) rfl d_M_keep_1 ?_
  refine lv_iload_n hx hb d_M_keep_4 rfl (lv_at hl 1 rfl) ?_
  refine lv_iconst (v := 1) hx hb d_M_keep_5 (by decide) ?_
  refine x_zast hx hb hK hP hS 1 (ma_8 hM) rfl (vp_in_nI (by omega) (by omega)) d_M_keep_6 (fun H_216 L_217 hP hS => ?_)
  rw [show vp_nar .boolean 1 = 1 from by rfl] at hP
  rw [nI_clamp (by omega)] at hP
  obtain ⟨q_218, hq_218⟩ : ∃ z, z = upQ q 8 (upd (q 8) at0 1) := ⟨_, rfl⟩
  obtain ⟨M_219, hP, hR⟩ : ∃ z, xW D classes A z H_216 ∧ mR T bd K N M q_218 z := ⟨_, hP, by rw [hq_218]; exact hR.set (by omega) rfl⟩
  have hM := hR.1
  refine lv_aload_n hx hb d_M_keep_7 rfl (lv_at hl 0 rfl) ?_
  refine x_get (v := .ref (bd 7)) (C := R_M) (T := F_M) (N := 17) hx hb hg i_M hown hK hP (ma_0 hM) rfl 9 (by decide) (hg _ w_363) (fun _ h9 => h9) rfl d_M_keep_8 ?_
  refine lv_iload_n hx hb d_M_keep_11 rfl (lv_at hl 1 rfl) ?_
  refine lv_bipush (v := nI 10) hx hb d_M_keep_12 (by decide) ?_
  refine lv_imul hx hb d_M_keep_14 ?_
  refine x_top (y := nI (at0 * 10)) (pk_mul _ _) ?_
  refine lv_aload_n hx hb d_M_keep_15 rfl (lv_at hl 0 rfl) ?_
  refine lv_iload_n hx hb d_M_keep_16 rfl (lv_at hl 2 rfl) ?_
  refine xv_R (n := 1) (As := [.int (nI i)]) (rest := [.int (nI (at0 * 10)), .ref (bd 7)]) hx hb hml hown hg hK0 hP (c_M_shareAt l D T A _ bd K N q_218 hz hM (nI i)) w_440 w_6 w_437 w_439 s_23 (ma_0 hM) rfl rfl (by decide +kernel) ⟨Nat.le_of_ble_eq_true rfl, Nat.le_of_ble_eq_true rfl⟩ rfl hl.1 rfl (Nat.le_of_ble_eq_true rfl) ⟨Nat.zero_le _, Nat.zero_le _⟩ rfl rfl d_M_keep_17 (fun r hr => ?_)
  subst hr
  refine x_fr (pc := 20) [.int (shM (q_218 11) ((nI i) + 1) K), .int (nI (at0 * 10)), .ref (bd 7)] rfl rfl ?_
  refine x_iast hx hb hK hP hS 0 (ma_7 hM) rfl (vp_in_nI (by omega) (by omega)) d_M_keep_20 (fun H_220 L_221 hP hS => ?_)
  rw [nI_clamp (by omega)] at hP
  obtain ⟨q_222, hq_222⟩ : ∃ z, z = upQ q_218 7 (upd (q_218 7) (at0 * 10) (shM (q_218 11) ((nI i) + 1) K)) := ⟨_, rfl⟩
  obtain ⟨M_223, hP, hR⟩ : ∃ z, xW D classes A z H_220 ∧ mR T bd K N M q_222 z := ⟨_, hP, by rw [hq_222]; exact hR.set (by omega) rfl⟩
  have hM := hR.1
  refine lv_aload_n hx hb d_M_keep_21 rfl (lv_at hl 0 rfl) ?_
  refine x_get (v := .ref (bd 7)) (C := R_M) (T := F_M) (N := 17) hx hb hg i_M hown hK hP (ma_0 hM) rfl 9 (by decide) (hg _ w_363) (fun _ h9 => h9) rfl d_M_keep_22 ?_
  refine lv_iload_n hx hb d_M_keep_25 rfl (lv_at hl 1 rfl) ?_
  refine lv_bipush (v := nI 10) hx hb d_M_keep_26 (by decide) ?_
  refine lv_imul hx hb d_M_keep_28 ?_
  refine x_top (y := nI (at0 * 10)) (pk_mul _ _) ?_
  refine lv_iconst (v := nI 1) hx hb d_M_keep_29 (by decide) ?_
  refine lv_iadd hx hb d_M_keep_30 ?_
  refine x_top (y := nI ((at0 * 10) + 1)) (nI_add _ _) ?_
  refine lv_iload hx hb d_M_keep_31 (lv_at hl 4 rfl) ?_
  refine x_iast hx hb hK hP hS 0 (ma_7 hM) rfl (vp_in_nI (by omega) (by omega)) d_M_keep_33 (fun H_224 L_225 hP hS => ?_)
  rw [nI_clamp (by omega)] at hP
  obtain ⟨q_226, hq_226⟩ : ∃ z, z = upQ q_222 7 (upd (q_222 7) ((at0 * 10) + 1) (nI nu)) := ⟨_, rfl⟩
  obtain ⟨M_227, hP, hR⟩ : ∃ z, xW D classes A z H_224 ∧ mR T bd K N M q_226 z := ⟨_, hP, by rw [hq_226]; exact hR.set (by omega) rfl⟩
  have hM := hR.1
  refine lv_aload_n hx hb d_M_keep_34 rfl (lv_at hl 0 rfl) ?_
  refine x_get (v := .ref (bd 7)) (C := R_M) (T := F_M) (N := 17) hx hb hg i_M hown hK hP (ma_0 hM) rfl 9 (by decide) (hg _ w_363) (fun _ h9 => h9) rfl d_M_keep_35 ?_
  refine lv_iload_n hx hb d_M_keep_38 rfl (lv_at hl 1 rfl) ?_
  refine lv_bipush (v := nI 10) hx hb d_M_keep_39 (by decide) ?_
  refine lv_imul hx hb d_M_keep_41 ?_
  refine x_top (y := nI (at0 * 10)) (pk_mul _ _) ?_
  refine lv_iconst (v := nI 2) hx hb d_M_keep_42 (by decide) ?_
  refine lv_iadd hx hb d_M_keep_43 ?_
  refine x_top (y := nI ((at0 * 10) + 2)) (nI_add _ _) ?_
  refine lv_aload_n hx hb d_M_keep_44 rfl (lv_at hl 0 rfl) ?_
  refine x_get (v := .ref (bd 6)) (C := R_M) (T := F_M) (N := 17) hx hb hg i_M hown hK hP (ma_0 hM) rfl 8 (by decide) (hg _ w_362) (fun _ h9 => h9) rfl d_M_keep_45 ?_
  refine lv_iload_n hx hb d_M_keep_48 rfl (lv_at hl 3 rfl) ?_
  refine lv_bipush (v := nI 31) hx hb d_M_keep_49 (by decide) ?_
  refine lv_imul hx hb d_M_keep_51 ?_
  refine x_top (y := nI (f * 31)) (pk_mul _ _) ?_
  refine lv_iload hx hb d_M_keep_52 (lv_at hl 4 rfl) ?_
  refine lv_iadd hx hb d_M_keep_54 ?_
  refine x_top (y := nI ((f * 31) + nu)) (nI_add _ _) ?_
  refine x_iald (v := q_226 6 ((f * 31) + nu)) hx hb hK hP 0 (ma_6 hM) rfl (vp_in_nI (by omega) (by omega)) (by rw [nI_clamp (by omega)]) d_M_keep_55 ?_
  refine x_iast hx hb hK hP hS 0 (ma_7 hM) rfl (vp_in_nI (by omega) (by omega)) d_M_keep_56 (fun H_228 L_229 hP hS => ?_)
  rw [nI_clamp (by omega)] at hP
  obtain ⟨q_230, hq_230⟩ : ∃ z, z = upQ q_226 7 (upd (q_226 7) ((at0 * 10) + 2) (q_226 6 ((f * 31) + nu))) := ⟨_, rfl⟩
  obtain ⟨M_231, hP, hR⟩ : ∃ z, xW D classes A z H_228 ∧ mR T bd K N M q_230 z := ⟨_, hP, by rw [hq_230]; exact hR.set (by omega) rfl⟩
  have hM := hR.1
  refine lv_iconst (v := nI 0) hx hb d_M_keep_57 (by decide) ?_
  refine lv_istore (lv' := [(5, .int (nI 0)), (0, .ref (bd 0)), (1, .int (nI at0)), (2, .int (nI i)), (3, .int (nI f)), (4, .int (nI nu))]) hx hb d_M_keep_58 hl (by decide) rfl (fun ls hl => ?_)
  have f11 : q_230 11 = q 11 := by rw [hq_230, upQ_n (by omega), hq_226, upQ_n (by omega), hq_222, upQ_n (by omega), hq_218, upQ_n (by omega)]
  have loop : ∀ (n : Nat) (t : Nat) (qx : qT), N + 1 ≤ t + n → t ≤ N → (∀ k, k ≠ 7 → k ≠ 8 → qx k = q k) → (∀ a, a ≠ at0 → qx 8 a = q 8 a) → (∀ a b, a ≠ at0 → b < 10 → qx 7 (a * 10 + b) = q 7 (a * 10 + b)) → qx 8 at0 = 1 ∧ qx 7 (at0 * 10) = shM (q 11) (nI i + 1) K ∧ qx 7 (at0 * 10 + 1) = nI nu ∧ qx 7 (at0 * 10 + 2) = q 6 (f * 31 + nu) → (∀ j, j < t → qx 7 (at0 * 10 + 3 + j) = mixF (shM (q 11) (nI j + 1) K) (nI j + 100)) → ∀ (Mx : xM) (Hx : Heap) (Lx : List Loc), xW D classes A Mx Hx → va_S A s.heap Hx Lx → mR T bd K N M qx Mx → ∀ (ls : Array Slot), lv_has ls 6 [(0, .ref (bd 0)), (1, .int (nI at0)), (2, .int (nI i)), (3, .int (nI f)), (4, .int (nI nu)), (5, .int (nI t))] → W p l e (rmH 3) s m [.ref (bd 0), .int (nI at0), .int (nI i), .int (nI f), .int (nI nu)].toArray below meth c Hx Lx 0 0 Q (F0 m 60 ls []) := by
    intro n
    induction n with
    | zero =>
      intro t qx h2 h1 r1 r2 r3 r4 r5
      exact absurd h2 (by omega)
    | succ n ih =>
      intro t qx h2 h1 r1 r2 r3 r4 r5 Mx Hx Lx hP hS hR ls hl
      have hM := hR.1
      refine lv_iload hx hb d_M_keep_60 (lv_at hl 5 rfl) ?_
      refine lv_aload_n hx hb d_M_keep_62 rfl (lv_at hl 0 rfl) ?_
      refine x_get (v := .int (nI N)) (C := R_M) (T := F_M) (N := 17) hx hb hg i_M hown hK hP (ma_0 hM) rfl 1 (by decide) (hg _ w_355) (fun _ h9 => h9) rfl d_M_keep_63 ?_
      refine x_nc_ge (tgt := 104) hx hb d_M_keep_66 (by decide) (by omega) (by omega) (fun c1 => ?_) (fun c1 => ?_)
      · exact hret _ _ _ _ _ d_M_keep_104 hP hS ⟨rfl, qx, hR, r1, r2, r3, r4.1, r4.2.1, r4.2.2.1, r4.2.2.2, fun j hj => r5 j (by omega)⟩
      · refine lv_aload_n hx hb d_M_keep_69 rfl (lv_at hl 0 rfl) ?_
        refine x_get (v := .ref (bd 7)) (C := R_M) (T := F_M) (N := 17) hx hb hg i_M hown hK hP (ma_0 hM) rfl 9 (by decide) (hg _ w_363) (fun _ h9 => h9) rfl d_M_keep_70 ?_
        refine lv_iload_n hx hb d_M_keep_73 rfl (lv_at hl 1 rfl) ?_
        refine lv_bipush (v := nI 10) hx hb d_M_keep_74 (by decide) ?_
        refine lv_imul hx hb d_M_keep_76 ?_
        refine x_top (y := nI (at0 * 10)) (pk_mul _ _) ?_
        refine lv_iconst (v := nI 3) hx hb d_M_keep_77 (by decide) ?_
        refine lv_iadd hx hb d_M_keep_78 ?_
        refine x_top (y := nI ((at0 * 10) + 3)) (nI_add _ _) ?_
        refine lv_iload hx hb d_M_keep_79 (lv_at hl 5 rfl) ?_
        refine lv_iadd hx hb d_M_keep_81 ?_
        refine x_top (y := nI (((at0 * 10) + 3) + t)) (nI_add _ _) ?_
        refine lv_aload_n hx hb d_M_keep_82 rfl (lv_at hl 0 rfl) ?_
        refine lv_aload_n hx hb d_M_keep_83 rfl (lv_at hl 0 rfl) ?_
        refine lv_iload hx hb d_M_keep_84 (lv_at hl 5 rfl) ?_
        refine xv_R (n := 1) (As := [.int (nI t)]) (rest := [.ref (bd 0), .int (nI (((at0 * 10) + 3) + t)), .ref (bd 7)]) hx hb hml hown hg hK0 hP (c_M_shareAt l D T A _ bd K N qx hz hM (nI t)) w_440 w_6 w_437 w_439 s_23 (ma_0 hM) rfl rfl (by decide +kernel) ⟨Nat.le_of_ble_eq_true rfl, Nat.le_of_ble_eq_true rfl⟩ rfl hl.1 rfl (Nat.le_of_ble_eq_true rfl) ⟨Nat.zero_le _, Nat.zero_le _⟩ rfl rfl d_M_keep_86 (fun r hr => ?_)
        subst hr
        refine x_fr (pc := 89) [.int (shM (qx 11) ((nI t) + 1) K), .ref (bd 0), .int (nI (((at0 * 10) + 3) + t)), .ref (bd 7)] rfl rfl ?_
        refine lv_iload hx hb d_M_keep_89 (lv_at hl 5 rfl) ?_
        refine lv_bipush (v := 100) hx hb d_M_keep_91 (by decide) ?_
        refine lv_iadd hx hb d_M_keep_93 ?_
        refine xv_R (n := 2) (As := [.int (shM (qx 11) ((nI t) + 1) K), .int ((nI t) + 100)]) (rest := [.int (nI (((at0 * 10) + 3) + t)), .ref (bd 7)]) hx hb hml hown hg hK0 hP (c_M_mix l D T A _ bd K N qx hz hM (shM (qx 11) ((nI t) + 1) K) ((nI t) + 100)) w_413 w_6 w_410 w_412 s_20 (ma_0 hM) rfl rfl (by decide +kernel) ⟨Nat.le_of_ble_eq_true rfl, Nat.le_of_ble_eq_true rfl⟩ rfl hl.1 rfl (Nat.le_of_ble_eq_true rfl) ⟨Nat.zero_le _, Nat.zero_le _⟩ rfl rfl d_M_keep_94 (fun r hr => ?_)
        subst hr
        refine x_fr (pc := 97) [.int (mixF (shM (qx 11) ((nI t) + 1) K) ((nI t) + 100)), .int (nI (((at0 * 10) + 3) + t)), .ref (bd 7)] rfl rfl ?_
        refine x_iast hx hb hK hP hS 0 (ma_7 hM) rfl (vp_in_nI (by omega) (by omega)) d_M_keep_97 (fun H_232 L_233 hP hS => ?_)
        rw [nI_clamp (by omega)] at hP
        obtain ⟨q_234, hq_234⟩ : ∃ z, z = upQ qx 7 (upd (qx 7) (((at0 * 10) + 3) + t) (mixF (shM (qx 11) ((nI t) + 1) K) ((nI t) + 100))) := ⟨_, rfl⟩
        obtain ⟨M_235, hP, hR⟩ : ∃ z, xW D classes A z H_232 ∧ mR T bd K N M q_234 z := ⟨_, hP, by rw [hq_234]; exact hR.set (by omega) rfl⟩
        have hM := hR.1
        have e11 : qx 11 = q 11 := r1 11 (by omega) (by omega)
        refine lv_iinc (v := nI (t + 1)) (lv' := [(5, .int (nI (t + 1))), (0, .ref (bd 0)), (1, .int (nI at0)), (2, .int (nI i)), (3, .int (nI f)), (4, .int (nI nu))]) hx hb d_M_keep_98 hl (k := 5) rfl (nI_1 _) (by decide) rfl (fun ls hl => ?_)
        refine lv_goto (tgt := 60) hx hb d_M_keep_101 (by decide) ?_
        refine ih (t + 1) q_234 (by omega) (by omega) ?_ ?_ ?_ ?_ ?_ _ _ _ hP hS hR ls (lv_sub hl [1, 2, 3, 4, 5, 0] rfl)
        · intro k z1 z2; rw [hq_234, upQ_n z1]; exact r1 k z1 z2
        · intro a z; rw [hq_234, upQ_n (by omega)]; exact r2 a z
        · intro a b z1 z2; rw [hq_234, upQ_s, upd_n (by omega)]; exact r3 a b z1 z2
        · rw [hq_234, upQ_n (by omega), upQ_s, upd_n (by omega), upd_n (by omega), upd_n (by omega)]; exact r4
        · intro j hj
          rw [hq_234, upQ_s]
          by_cases e : j = t
          · subst e; rw [upd_s, e11]
          · rw [upd_n (by omega)]; exact r5 j (by omega)
  have g8 : q_230 8 = upd (q 8) at0 1 := by rw [hq_230, upQ_n (by omega), hq_226, upQ_n (by omega), hq_222, upQ_n (by omega), hq_218, upQ_s]
  have g6 : ∀ k, k ≠ 7 → k ≠ 8 → q_230 k = q k := fun k z1 z2 => by rw [hq_230, upQ_n z1, hq_226, upQ_n z1, hq_222, upQ_n z1, hq_218, upQ_n z2]
  have g36 : q_226 6 = q 6 := by rw [hq_226, upQ_n (by omega), hq_222, upQ_n (by omega), hq_218, upQ_n (by omega)]
  have g111 : q_218 11 = q 11 := by rw [hq_218, upQ_n (by omega)]
  have g7 : ∀ z, q_230 7 z = if z = at0 * 10 + 2 then q 6 (f * 31 + nu) else if z = at0 * 10 + 1 then nI nu else if z = at0 * 10 then shM (q 11) (nI i + 1) K else q 7 z := by
    intro z
    rw [hq_230, upQ_s, g36]
    by_cases e2 : z = at0 * 10 + 2
    · subst e2; rw [upd_s, if_pos rfl]
    · rw [upd_n e2, if_neg e2, hq_226, upQ_s]
      by_cases e1 : z = at0 * 10 + 1
      · subst e1; rw [upd_s, if_pos rfl]
      · rw [upd_n e1, if_neg e1, hq_222, upQ_s, g111]
        by_cases e0 : z = at0 * 10
        · subst e0; rw [upd_s, if_pos rfl]
        · rw [upd_n e0, if_neg e0, hq_218, upQ_n (by omega)]
  refine loop (N + 1) 0 q_230 (by omega) (by omega) g6 ?_ ?_ ?_ (fun j hj => absurd hj (by omega)) _ _ _ hP hS hR ls (lv_sub hl [1, 2, 3, 4, 5, 0] rfl)
  · intro a z; rw [g8, upd_n z]
  · intro a b z1 z2; rw [g7, if_neg (by omega), if_neg (by omega), if_neg (by omega)]
  · refine ⟨by rw [g8, upd_s], ?_, ?_, ?_⟩
    · rw [g7, if_neg (by omega), if_neg (by omega), if_pos rfl]
    · rw [g7, if_neg (by omega), if_pos rfl]
    · rw [g7, if_pos rfl]
/-- the rows, while they are kept -/
def keR (K N : Nat) (g : gT) (q q3 qy : qT) (f w0 : Nat) (x : Int32) (i : Nat) : Prop :=
  (∀ k, k ≠ 7 → k ≠ 8 → qy k = q3 k) ∧ (∀ a, (∀ s, s < i → ¬ tkV g s = 0 → a ≠ f * 7 + s) → qy 8 a = q 8 a ∧ ∀ b, b < 10 → qy 7 (a * 10 + b) = q 7 (a * 10 + b)) ∧
  ∀ s, s < i → ¬ tkV g s = 0 → qy 8 (f * 7 + s) = 1 ∧ qy 7 ((f * 7 + s) * 10) = shG (wCw g x (nI (w0 + 1))) (nI s + 1) 0 K ∧ qy 7 ((f * 7 + s) * 10 + 1) = nI (w0 + 1) ∧ qy 7 ((f * 7 + s) * 10 + 2) = wSe K N g x (nI (w0 + 1)) ∧ ∀ t, t < N → qy 7 ((f * 7 + s) * 10 + 3 + t) = fpV K (wCw g x (nI (w0 + 1))) t
theorem sM_write {K N : Nat} {g g' : gT} {q q3 qy : qT} {f w0 : Nat} {x : Int32} (hN : N ≤ 7) (hf : f < 6) (hw : w0 < 30) (hs : sM K N g q) (hr : wrR K N g g' f w0 x) (e3 : ∀ k, k ≠ 4 → k ≠ 5 → k ≠ 6 → k ≠ 11 → q3 k = q k) (e4 : q3 4 = upd (q 4) f (nI (w0 + 1))) (e5 : q3 5 = upd (q 5) (f * 31 + (w0 + 1)) (wRt K N g x (nI (w0 + 1)))) (e6 : q3 6 = upd (q 6) (f * 31 + (w0 + 1)) (wSe K N g x (nI (w0 + 1)))) (hk : keR K N g q q3 qy f w0 x N) : sM K N g' qy := by
  obtain ⟨a1, a2, a3, a4, a5, a6, a7⟩ := hs
  obtain ⟨r1, r2, r3, r4, r5, r6, r7, r8⟩ := hr
  obtain ⟨k1, k2, k3⟩ := hk
  have ow : ∀ (at0 : Nat) (u v : Nat → Int32), (∀ s, s < N → ¬ tkV g s = 0 → at0 ≠ f * 7 + s) → rwS N q at0 u v → rwS N qy at0 u v := by
    intro at0 u v hne ⟨b1, b2, b3, b4, b5⟩
    obtain ⟨z8, z7⟩ := k2 at0 hne
    refine ⟨z8.trans b1, ?_, (z7 1 (by omega)).trans b3, (z7 2 (by omega)).trans b4, fun j hj => ?_⟩
    · have := z7 0 (by omega); rw [Nat.add_zero] at this; exact this.trans b2
    · have := z7 (3 + j) (by omega); rw [← Nat.add_assoc] at this; exact this.trans (b5 j hj)
  refine ⟨?_, ?_, fun t ht => ?_, fun t ht => ?_, fun t j ht hj => ?_, fun t u ht hu => ⟨?_, ?_⟩, fun i hi => ?_⟩
  · rw [k1 0 (by omega) (by omega), e3 0 (by omega) (by omega) (by omega) (by omega), r1 0 0 0 (by omega)]; exact a1
  · rw [k1 0 (by omega) (by omega), e3 0 (by omega) (by omega) (by omega) (by omega), r1 0 0 0 (by omega)]; exact a2
  · rw [k1 1 (by omega) (by omega), k1 2 (by omega) (by omega), e3 1 (by omega) (by omega) (by omega) (by omega), e3 2 (by omega) (by omega) (by omega) (by omega), r1 1 0 0 (by omega), r1 2 0 0 (by omega)]; exact a3 t ht
  · rw [k1 3 (by omega) (by omega), k1 4 (by omega) (by omega), e3 3 (by omega) (by omega) (by omega) (by omega), e4]
    by_cases e : t = f
    · subst e; rw [upd_s, r3, r4]; exact ⟨(a4 t ht).1, rfl⟩
    · rw [upd_n e, r2 12 t (by omega) e]; exact a4 t ht
  · rw [k1 5 (by omega) (by omega), k1 6 (by omega) (by omega), e5, e6]
    by_cases e : t = f
    · subst e
      rw [r5, r6]
      by_cases e2 : j = w0 + 1
      · subst e2; rw [upd_s, upd_s, upd_s, upd_s]; exact ⟨rfl, rfl⟩
      · refine ⟨?_, ?_⟩
        · rw [upd_n (show t * 31 + j ≠ t * 31 + (w0 + 1) by omega), upd_n e2]; exact (a5 t j ht hj).1
        · rw [upd_n (show t * 31 + j ≠ t * 31 + (w0 + 1) by omega), upd_n e2]; exact (a5 t j ht hj).2
    · rw [upd_n (by omega), upd_n (by omega), r2 15 t (by omega) e, r2 16 t (by omega) e]; exact a5 t j ht hj
  · by_cases e : t = f ∧ ¬ tkV g u = 0
    · obtain ⟨rfl, et⟩ := e
      obtain ⟨b1, b2, b3, b4, b5⟩ := r8 u hu et
      obtain ⟨c1, c2, c3, c4, c5⟩ := k3 u hu et
      exact ⟨c1.trans b1.symm, c2.trans b2.symm, c3.trans b3.symm, c4.trans b4.symm, fun j hj => (c5 j hj).trans (b5 j hj).symm⟩
    · have hc : t ≠ f ∨ tkV g u = 0 := by
        by_cases e1 : t = f
        · exact Or.inr (Decidable.not_not.mp (fun z => e ⟨e1, z⟩))
        · exact Or.inl e1
      rw [(r7 t u hc).1, (r7 t u hc).2]
      refine ow _ _ _ (fun s hs1 hs2 z => ?_) (a6 t u ht hu).1
      have h1 : t = f := by omega
      have h2 : u = s := by omega
      exact e ⟨h1, by rw [h2]; exact hs2⟩
  · rw [r1 19 t u (by omega), r1 20 t u (by omega)]
    exact ow _ _ _ (fun s hs1 hs2 z => by omega) (a6 t u ht hu).2
  · rw [k1 9 (by omega) (by omega), k1 10 (by omega) (by omega), e3 9 (by omega) (by omega) (by omega) (by omega), e3 10 (by omega) (by omega) (by omega) (by omega), r1 4 0 0 (by omega), r1 5 0 0 (by omega)]; exact a7 i hi
set_option maxHeartbeats 4000000 in
set_option maxRecDepth 100000 in
theorem c_M_write (l : Launch) (D : va_G) (T : Nat → ClassId) (A : Nat → Prop) (M : xM) (bd : Nat → Nat) (K N : Nat) (q : Nat → Nat → Int32) (hz : zB K N) (hM : mG T bd K N q M) (g : gT) (hs : sM K N g q) (c0 : Nat) (w : Nat → Nat) (hI : iG N g c0 w) (x : Int32) (g' : gT) (hst : stW K N g g' c0 w x) : Met l y_M_write (Cond.code y_M_write b_M_write 8 (some .int) :: gw) (rmH 4) (xPc D T A M [.ref (bd 0), .int x]) (xQ D A (fun r M1 => pM T bd K N M (aWrite K N g c0 w x, g') r M1)) 0 0 A := by
  refine xMetQi (by decide) (Nat.le_of_ble_eq_true rfl) ?_
  intro p e s m below meth c Q ls hB hP hS hl hret
  obtain ⟨hx, hb, hml, hown, hg, hK0, hnm⟩ := hB
  have hown : s.vm.findClass "ShareGridModel" = some m.cls := hown
  have hK := hK0.1
  have hN := hK0.2.1
  obtain ⟨hz1, hz4, hzn, hz7⟩ := id hz
  obtain ⟨hq, hq6, hwr, hbo⟩ := id hI
  have hR := hM.rf
  have hl : lv_has ls 8 [(0, .ref (bd 0)), (1, .int x)] := hl
  refine lv_aload_n hx hb d_M_write_0 rfl (lv_at hl 0 rfl) ?_
  refine lv_aload_n hx hb d_M_write_1 rfl (lv_at hl 0 rfl) ?_
  refine lv_iload_n hx hb d_M_write_2 rfl (lv_at hl 1 rfl) ?_
  refine lv_iconst (v := 3) hx hb d_M_write_3 (by decide) ?_
  refine xv_R (n := 2) (As := [.int x, .int 3]) (rest := [.ref (bd 0)]) hx hb hml hown hg hK0 hP (c_M_key l D T A _ bd K N q hz hM x 3) w_409 w_6 w_420 w_407 w_408 (ma_0 hM) rfl rfl (by decide +kernel) ⟨Nat.le_of_ble_eq_true rfl, Nat.le_of_ble_eq_true rfl⟩ rfl hl.1 rfl (Nat.le_of_ble_eq_true rfl) ⟨Nat.zero_le _, Nat.zero_le _⟩ rfl rfl d_M_write_4 (fun r hr => ?_)
  subst hr
  refine x_fr (pc := 7) [.int (aKey x 3), .ref (bd 0)] rfl rfl ?_
  refine x_top (y := (mixF (mixF x 1) 2)) (by rfl) ?_
  refine xv_R (n := 1) (As := [.int (mixF (mixF x 1) 2)]) (rest := []) hx hb hml hown hg hK0 hP (c_M_fileOf l D T A _ bd K N q hz hM g hs c0 w hI (mixF (mixF x 1) 2)) w_424 w_6 w_421 w_423 s_21 (ma_0 hM) rfl rfl (by decide +kernel) ⟨Nat.le_of_ble_eq_true rfl, Nat.le_of_ble_eq_true rfl⟩ rfl hl.1 rfl (Nat.le_of_ble_eq_true rfl) ⟨Nat.zero_le _, Nat.zero_le _⟩ rfl rfl d_M_write_7 (fun r hr => ?_)
  subst hr
  refine x_fr (pc := 10) [.int (fuF g c0 (mixF (mixF x 1) 2))] rfl rfl ?_
  refine lv_istore_n (lv' := [(2, .int (fuF g c0 (mixF (mixF x 1) 2))), (0, .ref (bd 0)), (1, .int x)]) hx hb d_M_write_10 rfl hl (by decide) rfl (fun ls hl => ?_)
  refine lv_iload_n hx hb d_M_write_11 rfl (lv_at hl 0 rfl) ?_
  refine lv_if_ge (tgt := 17) hx hb d_M_write_12 (by decide) (fun c15 => ?_) (fun c15 => ?_)
  · have c15 : 0 ≤ fuF g c0 (vkF x) := c15
    obtain ⟨f, hf, hfe⟩ := fuF_ge (g := g) (q := c0) (x := vkF x) c15
    have hfe2 : fuF g c0 (mixF (mixF x 1) 2) = nI f := hfe
    rw [hfe2] at hl
    have ef : (fuF g c0 (vkF x)).toNatClampNeg = f := by rw [hfe, nI_clamp (by omega)]
    obtain ⟨hw0, hw30⟩ := hwr f (by omega)
    have hcl := cuF_le (g 1 0 0) N
    refine lv_aload_n hx hb d_M_write_17 rfl (lv_at hl 1 rfl) ?_
    refine xv_R (n := 0) (As := []) (rest := []) hx hb hml hown hg hK0 hP (c_M_upCount l D T A _ bd K N q hz hM g hs c0 w hI) w_436 w_6 w_433 w_435 s_22 (ma_0 hM) rfl rfl (by decide +kernel) ⟨Nat.le_of_ble_eq_true rfl, Nat.le_of_ble_eq_true rfl⟩ rfl hl.1 rfl (Nat.le_of_ble_eq_true rfl) ⟨Nat.zero_le _, Nat.zero_le _⟩ rfl rfl d_M_write_18 (fun r hr => ?_)
    subst hr
    refine x_fr (pc := 21) [.int (nI (cuF (g 1 0 0) N))] rfl rfl ?_
    refine lv_aload_n hx hb d_M_write_21 rfl (lv_at hl 1 rfl) ?_
    refine x_get (v := .int (nI K)) (C := R_M) (T := F_M) (N := 17) hx hb hg i_M hown hK hP (ma_0 hM) rfl 0 (by decide) (hg _ w_354) (fun _ h9 => h9) rfl d_M_write_22 ?_
    refine x_nc_ge (tgt := 31) hx hb d_M_write_25 (by decide) (by omega) (by omega) (fun c28 => ?_) (fun c28 => ?_)
    · refine lv_aload_n hx hb d_M_write_31 rfl (lv_at hl 1 rfl) ?_
      refine x_get (v := .ref (bd 4)) (C := R_M) (T := F_M) (N := 17) hx hb hg i_M hown hK hP (ma_0 hM) rfl 5 (by decide) (hg _ w_359) (fun _ h9 => h9) rfl d_M_write_32 ?_
      refine lv_iload_n hx hb d_M_write_35 rfl (lv_at hl 0 rfl) ?_
      refine x_iald (v := q 4 f) hx hb hK hP 0 (ma_4 hM) rfl (vp_in_nI (by omega) (by omega)) (by rw [nI_clamp (by omega)]) d_M_write_36 ?_
      refine x_top (y := nI (w f)) ((hs.wr (by omega)).trans hw0) ?_
      refine lv_bipush (v := nI 30) hx hb d_M_write_37 (by decide) ?_
      refine x_nc_ne (tgt := 45) hx hb d_M_write_39 (by decide) (by omega) (by omega) (fun c49 => ?_) (fun c49 => ?_)
      · have c49 : w f < 30 := by omega
        refine lv_aload_n hx hb d_M_write_45 rfl (lv_at hl 1 rfl) ?_
        refine x_get (v := .ref (bd 4)) (C := R_M) (T := F_M) (N := 17) hx hb hg i_M hown hK hP (ma_0 hM) rfl 5 (by decide) (hg _ w_359) (fun _ h9 => h9) rfl d_M_write_46 ?_
        refine lv_iload_n hx hb d_M_write_49 rfl (lv_at hl 0 rfl) ?_
        refine lv_dup2_11 hx hb d_M_write_50 rfl rfl ?_
        refine x_iald (v := q 4 f) hx hb hK hP 0 (ma_4 hM) rfl (vp_in_nI (by omega) (by omega)) (by rw [nI_clamp (by omega)]) d_M_write_51 ?_
        refine x_top (y := nI (w f)) ((hs.wr (by omega)).trans hw0) ?_
        refine lv_iconst (v := nI 1) hx hb d_M_write_52 (by decide) ?_
        refine lv_iadd hx hb d_M_write_53 ?_
        refine x_top (y := nI ((w f) + 1)) (nI_add _ _) ?_
        refine x_iast hx hb hK hP hS 0 (ma_4 hM) rfl (vp_in_nI (by omega) (by omega)) d_M_write_54 (fun H_236 L_237 hP hS => ?_)
        rw [nI_clamp (by omega)] at hP
        obtain ⟨q_238, hq_238⟩ : ∃ z, z = upQ q 4 (upd (q 4) f (nI ((w f) + 1))) := ⟨_, rfl⟩
        obtain ⟨M_239, hP, hR⟩ : ∃ z, xW D classes A z H_236 ∧ mR T bd K N M q_238 z := ⟨_, hP, by rw [hq_238]; exact hR.set (by omega) rfl⟩
        have hM := hR.1
        have hwr2 := hst.1 ⟨c15, c28, by rw [ef]; exact c49⟩
        rw [ef] at hwr2
        refine lv_aload_n hx hb d_M_write_55 rfl (lv_at hl 1 rfl) ?_
        refine x_get (v := .ref (bd 4)) (C := R_M) (T := F_M) (N := 17) hx hb hg i_M hown hK hP (ma_0 hM) rfl 5 (by decide) (hg _ w_359) (fun _ h9 => h9) rfl d_M_write_56 ?_
        refine lv_iload_n hx hb d_M_write_59 rfl (lv_at hl 0 rfl) ?_
        refine x_iald (v := q_238 4 f) hx hb hK hP 0 (ma_4 hM) rfl (vp_in_nI (by omega) (by omega)) (by rw [nI_clamp (by omega)]) d_M_write_60 ?_
        refine x_top (y := nI (w f + 1)) (by rw [hq_238, upQ_s, upd_s]) ?_
        refine lv_istore_n (lv' := [(3, .int (nI (w f + 1))), (2, .int (nI f)), (0, .ref (bd 0)), (1, .int x)]) hx hb d_M_write_61 rfl hl (by decide) rfl (fun ls hl => ?_)
        refine lv_aload_n hx hb d_M_write_62 rfl (lv_at hl 2 rfl) ?_
        refine lv_iload_n hx hb d_M_write_63 rfl (lv_at hl 3 rfl) ?_
        refine lv_iconst (v := 1) hx hb d_M_write_64 (by decide) ?_
        refine xv_R (n := 2) (As := [.int x, .int 1]) (rest := []) hx hb hml hown hg hK0 hP (c_M_mix l D T A _ bd K N q_238 hz hM x 1) w_413 w_6 w_410 w_412 s_20 (ma_0 hM) rfl rfl (by decide +kernel) ⟨Nat.le_of_ble_eq_true rfl, Nat.le_of_ble_eq_true rfl⟩ rfl hl.1 rfl (Nat.le_of_ble_eq_true rfl) ⟨Nat.zero_le _, Nat.zero_le _⟩ rfl rfl d_M_write_65 (fun r hr => ?_)
        subst hr
        refine x_fr (pc := 68) [.int (mixF x 1)] rfl rfl ?_
        refine lv_istore (lv' := [(4, .int (mixF x 1)), (3, .int (nI (w f + 1))), (2, .int (nI f)), (0, .ref (bd 0)), (1, .int x)]) hx hb d_M_write_68 hl (by decide) rfl (fun ls hl => ?_)
        refine lv_iconst (v := nI 0) hx hb d_M_write_70 (by decide) ?_
        refine lv_istore (lv' := [(5, .int (nI 0)), (4, .int (mixF x 1)), (3, .int (nI (w f + 1))), (2, .int (nI f)), (0, .ref (bd 0)), (1, .int x)]) hx hb d_M_write_71 hl (by decide) rfl (fun ls hl => ?_)
        have loopA : ∀ (n : Nat) (i : Nat) (qx : qT), K + 1 ≤ i + n → i ≤ K → (∀ k, k ≠ 11 → qx k = q_238 k) → (∀ j, j < i → qx 11 j = wCw g x (nI (w f + 1)) j) → ∀ (Mx : xM) (Hx : Heap) (Lx : List Loc), xW D classes A Mx Hx → va_S A s.heap Hx Lx → mR T bd K N M qx Mx → ∀ (ls : Array Slot), lv_has ls 8 [(0, .ref (bd 0)), (1, .int x), (2, .int (nI f)), (3, .int (nI (w f + 1))), (4, .int (mixF x 1)), (5, .int (nI i))] → W p l e (rmH 4) s m [.ref (bd 0), .int x].toArray below meth c Hx Lx 0 0 Q (F0 m 73 ls []) := by
          intro n
          induction n with
          | zero =>
            intro i qx h2 h1 r1 r2
            exact absurd h2 (by omega)
          | succ n ih =>
            intro i qx h2 h1 r1 r2 Mx Hx Lx hP hS hR ls hl
            have hM := hR.1
            refine lv_iload hx hb d_M_write_73 (lv_at hl 5 rfl) ?_
            refine lv_aload_n hx hb d_M_write_75 rfl (lv_at hl 0 rfl) ?_
            refine x_get (v := .int (nI K)) (C := R_M) (T := F_M) (N := 17) hx hb hg i_M hown hK hP (ma_0 hM) rfl 0 (by decide) (hg _ w_354) (fun _ h9 => h9) rfl d_M_write_76 ?_
            refine x_nc_ge (tgt := 116) hx hb d_M_write_79 (by decide) (by omega) (by omega) (fun c79 => ?_) (fun c79 => ?_)
            · have hiK : i = K := by omega
              rw [hiK] at r2
              refine lv_bipush (v := 7) hx hb d_M_write_116 (by decide) ?_
              refine lv_istore (lv' := [(5, .int 7), (0, .ref (bd 0)), (1, .int x), (2, .int (nI f)), (3, .int (nI (w f + 1))), (4, .int (mixF x 1))]) hx hb d_M_write_118 hl (by decide) rfl (fun ls hl => ?_)
              refine lv_iconst (v := nI 0) hx hb d_M_write_120 (by decide) ?_
              refine lv_istore (lv' := [(6, .int (nI 0)), (5, .int 7), (0, .ref (bd 0)), (1, .int x), (2, .int (nI f)), (3, .int (nI (w f + 1))), (4, .int (mixF x 1))]) hx hb d_M_write_121 hl (by decide) rfl (fun ls hl => ?_)
              have loopB : ∀ (n : Nat) (i : Nat), N + 1 ≤ i + n → i ≤ N → ∀ (ls : Array Slot), lv_has ls 8 [(0, .ref (bd 0)), (1, .int x), (2, .int (nI f)), (3, .int (nI (w f + 1))), (4, .int (mixF x 1)), (5, .int (rtI (fpV K (wCw g x (nI (w f + 1)))) i)), (6, .int (nI i))] → W p l e (rmH 4) s m [.ref (bd 0), .int x].toArray below meth c Hx Lx 0 0 Q (F0 m 123 ls []) := by
                intro n
                induction n with
                | zero =>
                  intro i h2b h1b
                  exact absurd h2b (by omega)
                | succ n ih =>
                  intro i h2b h1b ls hl
                  refine lv_iload hx hb d_M_write_123 (lv_at hl 6 rfl) ?_
                  refine lv_aload_n hx hb d_M_write_125 rfl (lv_at hl 0 rfl) ?_
                  refine x_get (v := .int (nI N)) (C := R_M) (T := F_M) (N := 17) hx hb hg i_M hown hK hP (ma_0 hM) rfl 1 (by decide) (hg _ w_355) (fun _ h9 => h9) rfl d_M_write_126 ?_
                  refine x_nc_ge (tgt := 161) hx hb d_M_write_129 (by decide) (by omega) (by omega) (fun c129 => ?_) (fun c129 => ?_)
                  · have hiN : i = N := by omega
                    rw [hiN] at hl
                    refine lv_aload_n hx hb d_M_write_161 rfl (lv_at hl 0 rfl) ?_
                    refine lv_iload hx hb d_M_write_162 (lv_at hl 5 rfl) ?_
                    refine lv_iload_n hx hb d_M_write_164 rfl (lv_at hl 3 rfl) ?_
                    refine xv_R (n := 2) (As := [.int (rtI (fpV K (wCw g x (nI (w f + 1)))) N), .int (nI (w f + 1))]) (rest := []) hx hb hml hown hg hK0 hP (c_M_mix l D T A _ bd K N qx hz hM (rtI (fpV K (wCw g x (nI (w f + 1)))) N) (nI (w f + 1))) w_413 w_6 w_410 w_412 s_20 (ma_0 hM) rfl rfl (by decide +kernel) ⟨Nat.le_of_ble_eq_true rfl, Nat.le_of_ble_eq_true rfl⟩ rfl hl.1 rfl (Nat.le_of_ble_eq_true rfl) ⟨Nat.zero_le _, Nat.zero_le _⟩ rfl rfl d_M_write_165 (fun r hr => ?_)
                    subst hr
                    refine x_fr (pc := 168) [.int (mixF (rtI (fpV K (wCw g x (nI (w f + 1)))) N) (nI (w f + 1)))] rfl rfl ?_
                    refine x_top (y := (wRt K N g x (nI (w f + 1)))) rfl ?_
                    refine lv_istore (lv' := [(5, .int (wRt K N g x (nI (w f + 1)))), (0, .ref (bd 0)), (1, .int x), (2, .int (nI f)), (3, .int (nI (w f + 1))), (4, .int (mixF x 1)), (6, .int (nI N))]) hx hb d_M_write_168 hl (by decide) rfl (fun ls hl => ?_)
                    refine lv_aload_n hx hb d_M_write_170 rfl (lv_at hl 1 rfl) ?_
                    refine x_get (v := .ref (bd 5)) (C := R_M) (T := F_M) (N := 17) hx hb hg i_M hown hK hP (ma_0 hM) rfl 7 (by decide) (hg _ w_361) (fun _ h9 => h9) rfl d_M_write_171 ?_
                    refine lv_iload_n hx hb d_M_write_174 rfl (lv_at hl 3 rfl) ?_
                    refine lv_bipush (v := nI 31) hx hb d_M_write_175 (by decide) ?_
                    refine lv_imul hx hb d_M_write_177 ?_
                    refine x_top (y := nI (f * 31)) (pk_mul _ _) ?_
                    refine lv_iload_n hx hb d_M_write_178 rfl (lv_at hl 4 rfl) ?_
                    refine lv_iadd hx hb d_M_write_179 ?_
                    refine x_top (y := nI ((f * 31) + (w f + 1))) (nI_add _ _) ?_
                    refine lv_iload hx hb d_M_write_180 (lv_at hl 0 rfl) ?_
                    refine x_iast hx hb hK hP hS 0 (ma_5 hM) rfl (vp_in_nI (by omega) (by omega)) d_M_write_182 (fun H_240 L_241 hP hS => ?_)
                    rw [nI_clamp (by omega)] at hP
                    obtain ⟨q_242, hq_242⟩ : ∃ z, z = upQ qx 5 (upd (qx 5) ((f * 31) + (w f + 1)) (wRt K N g x (nI (w f + 1)))) := ⟨_, rfl⟩
                    obtain ⟨M_243, hP, hR⟩ : ∃ z, xW D classes A z H_240 ∧ mR T bd K N M q_242 z := ⟨_, hP, by rw [hq_242]; exact hR.set (by omega) rfl⟩
                    have hM := hR.1
                    refine lv_aload_n hx hb d_M_write_183 rfl (lv_at hl 1 rfl) ?_
                    refine x_get (v := .ref (bd 6)) (C := R_M) (T := F_M) (N := 17) hx hb hg i_M hown hK hP (ma_0 hM) rfl 8 (by decide) (hg _ w_362) (fun _ h9 => h9) rfl d_M_write_184 ?_
                    refine lv_iload_n hx hb d_M_write_187 rfl (lv_at hl 3 rfl) ?_
                    refine lv_bipush (v := nI 31) hx hb d_M_write_188 (by decide) ?_
                    refine lv_imul hx hb d_M_write_190 ?_
                    refine x_top (y := nI (f * 31)) (pk_mul _ _) ?_
                    refine lv_iload_n hx hb d_M_write_191 rfl (lv_at hl 4 rfl) ?_
                    refine lv_iadd hx hb d_M_write_192 ?_
                    refine x_top (y := nI ((f * 31) + (w f + 1))) (nI_add _ _) ?_
                    refine lv_aload_n hx hb d_M_write_193 rfl (lv_at hl 1 rfl) ?_
                    refine lv_iload hx hb d_M_write_194 (lv_at hl 0 rfl) ?_
                    refine lv_iload_n hx hb d_M_write_196 rfl (lv_at hl 2 rfl) ?_
                    refine xv_R (n := 2) (As := [.int (wRt K N g x (nI (w f + 1))), .int x]) (rest := [.int (nI ((f * 31) + (w f + 1))), .ref (bd 6)]) hx hb hml hown hg hK0 hP (c_M_mix l D T A _ bd K N q_242 hz hM (wRt K N g x (nI (w f + 1))) x) w_413 w_6 w_410 w_412 s_20 (ma_0 hM) rfl rfl (by decide +kernel) ⟨Nat.le_of_ble_eq_true rfl, Nat.le_of_ble_eq_true rfl⟩ rfl hl.1 rfl (Nat.le_of_ble_eq_true rfl) ⟨Nat.zero_le _, Nat.zero_le _⟩ rfl rfl d_M_write_197 (fun r hr => ?_)
                    subst hr
                    refine x_fr (pc := 200) [.int (mixF (wRt K N g x (nI (w f + 1))) x), .int (nI ((f * 31) + (w f + 1))), .ref (bd 6)] rfl rfl ?_
                    refine lv_iload_n hx hb d_M_write_200 rfl (lv_at hl 2 rfl) ?_
                    refine lv_ixor hx hb d_M_write_201 ?_
                    refine x_iast hx hb hK hP hS 0 (ma_6 hM) rfl (vp_in_nI (by omega) (by omega)) d_M_write_202 (fun H_244 L_245 hP hS => ?_)
                    rw [nI_clamp (by omega)] at hP
                    obtain ⟨q_246, hq_246⟩ : ∃ z, z = upQ q_242 6 (upd (q_242 6) ((f * 31) + (w f + 1)) ((mixF (wRt K N g x (nI (w f + 1))) x) ^^^ x)) := ⟨_, rfl⟩
                    obtain ⟨M_247, hP, hR⟩ : ∃ z, xW D classes A z H_244 ∧ mR T bd K N M q_246 z := ⟨_, hP, by rw [hq_246]; exact hR.set (by omega) rfl⟩
                    have hM := hR.1
                    refine lv_iconst (v := nI 0) hx hb d_M_write_203 (by decide) ?_
                    refine lv_istore (lv' := [(6, .int (nI 0)), (5, .int (wRt K N g x (nI (w f + 1)))), (0, .ref (bd 0)), (1, .int x), (2, .int (nI f)), (3, .int (nI (w f + 1))), (4, .int (mixF x 1))]) hx hb d_M_write_204 hl (by decide) rfl (fun ls hl => ?_)
                    refine lv_iconst (v := nI 0) hx hb d_M_write_206 (by decide) ?_
                    refine lv_istore (lv' := [(7, .int (nI 0)), (6, .int (nI 0)), (5, .int (wRt K N g x (nI (w f + 1)))), (0, .ref (bd 0)), (1, .int x), (2, .int (nI f)), (3, .int (nI (w f + 1))), (4, .int (mixF x 1))]) hx hb d_M_write_207 hl (by decide) rfl (fun ls hl => ?_)
                    have e3 : ∀ k, k ≠ 4 → k ≠ 5 → k ≠ 6 → k ≠ 11 → q_246 k = q k := fun k z1 z2 z3 z4 => by rw [hq_246, upQ_n z3, hq_242, upQ_n z2, r1 k z4, hq_238, upQ_n z1]
                    have e4 : q_246 4 = upd (q 4) f (nI (w f + 1)) := by rw [hq_246, upQ_n (by omega), hq_242, upQ_n (by omega), r1 4 (by omega), hq_238, upQ_s]
                    have e5 : q_246 5 = upd (q 5) (f * 31 + (w f + 1)) (wRt K N g x (nI (w f + 1))) := by rw [hq_246, upQ_n (by omega), hq_242, upQ_s, r1 5 (by omega), hq_238, upQ_n (by omega)]
                    have e6 : q_246 6 = upd (q 6) (f * 31 + (w f + 1)) (wSe K N g x (nI (w f + 1))) := by rw [hq_246, upQ_s, hq_242, upQ_n (by omega), r1 6 (by omega), hq_238, upQ_n (by omega)]; rfl
                    have e11 : ∀ j, j < K → q_246 11 j = wCw g x (nI (w f + 1)) j := fun j hj => by rw [hq_246, upQ_n (by omega), hq_242, upQ_n (by omega)]; exact r2 j hj
                    have loopC : ∀ (n : Nat) (i : Nat) (qy : qT), N + 1 ≤ i + n → i ≤ N → keR K N g q q_246 qy f (w f) x i → ∀ (Mx : xM) (Hx : Heap) (Lx : List Loc), xW D classes A Mx Hx → va_S A s.heap Hx Lx → mR T bd K N M qy Mx → ∀ (ls : Array Slot), lv_has ls 8 [(0, .ref (bd 0)), (1, .int x), (2, .int (nI f)), (3, .int (nI (w f + 1))), (4, .int (mixF x 1)), (5, .int (wRt K N g x (nI (w f + 1)))), (6, .int (nI (cuF (tkV g) i))), (7, .int (nI i))] → W p l e (rmH 4) s m [.ref (bd 0), .int x].toArray below meth c Hx Lx 0 0 Q (F0 m 209 ls []) := by
                      intro n
                      induction n with
                      | zero =>
                        intro i qy h2c h1c r3
                        exact absurd h2c (by omega)
                      | succ n ih =>
                        intro i qy h2c h1c r3 Mx Hx Lx hP hS hR ls hl
                        have hM := hR.1
                        obtain ⟨k1, k2, k3⟩ := id r3
                        have hcl2 := cuF_le (tkV g) i
                        refine lv_iload hx hb d_M_write_209 (lv_at hl 7 rfl) ?_
                        refine lv_aload_n hx hb d_M_write_211 rfl (lv_at hl 0 rfl) ?_
                        refine x_get (v := .int (nI N)) (C := R_M) (T := F_M) (N := 17) hx hb hg i_M hown hK hP (ma_0 hM) rfl 1 (by decide) (hg _ w_355) (fun _ h9 => h9) rfl d_M_write_212 ?_
                        refine x_nc_ge (tgt := 262) hx hb d_M_write_215 (by decide) (by omega) (by omega) (fun c215 => ?_) (fun c215 => ?_)
                        · have hiN : i = N := by omega
                          rw [hiN] at r3
                          refine lv_iload hx hb d_M_write_262 (lv_at hl 6 rfl) ?_
                          exact hret _ _ _ _ _ _ d_M_write_264 hP hS ⟨by rw [aWrite, if_pos c15, if_pos c28, ef, if_pos c49, hiN], qy, hR, sM_write hz7 (by omega) c49 hs hwr2 e3 e4 e5 e6 r3⟩
                        · refine lv_aload_n hx hb d_M_write_218 rfl (lv_at hl 0 rfl) ?_
                          refine x_get (v := .ref (bd 1)) (C := R_M) (T := F_M) (N := 17) hx hb hg i_M hown hK hP (ma_0 hM) rfl 2 (by decide) (hg _ w_356) (fun _ h9 => h9) rfl d_M_write_219 ?_
                          refine lv_iload hx hb d_M_write_222 (lv_at hl 7 rfl) ?_
                          refine x_zald (v := qy 1 i) hx hb hK hP 1 (ma_1 hM) rfl (vp_in_nI (by omega) (by omega)) (by rw [nI_clamp (by omega)]) d_M_write_224 ?_
                          refine x_top (y := (g 1 0 0 i)) (by rw [k1 1 (by omega) (by omega), e3 1 (by omega) (by omega) (by omega) (by omega)]; exact hs.up (by omega)) ?_
                          refine lv_if_eq (tgt := 256) hx hb d_M_write_225 (by decide) (fun c225 => ?_) (fun c225 => ?_)
                          · have ht0 : tkV g i = 0 := by rw [tkV, tkF, if_pos c225]
                            have ecu := cuF_z ht0
                            refine lv_iinc (v := nI (i + 1)) (lv' := [(7, .int (nI (i + 1))), (0, .ref (bd 0)), (1, .int x), (2, .int (nI f)), (3, .int (nI (w f + 1))), (4, .int (mixF x 1)), (5, .int (wRt K N g x (nI (w f + 1)))), (6, .int (nI (cuF (tkV g) i)))]) hx hb d_M_write_256 hl (k := 7) rfl (nI_1 _) (by decide) rfl (fun ls hl => ?_)
                            refine lv_goto (tgt := 209) hx hb d_M_write_259 (by decide) ?_
                            exact ih (i + 1) qy (by omega) (by omega) ⟨k1, fun a ha => k2 a (fun s hs1 hs2 => ha s (by omega) hs2), fun s hs1 hs2 => k3 s ((Nat.lt_succ_iff_lt_or_eq.mp hs1).elim id fun z => absurd (by rw [z]; exact ht0) hs2) hs2⟩ _ _ _ hP hS hR ls (by rw [ecu]; exact (lv_sub hl [1, 2, 3, 4, 5, 6, 7, 0] rfl))
                          · refine lv_aload_n hx hb d_M_write_228 rfl (lv_at hl 0 rfl) ?_
                            refine x_get (v := .ref (bd 2)) (C := R_M) (T := F_M) (N := 17) hx hb hg i_M hown hK hP (ma_0 hM) rfl 3 (by decide) (hg _ w_357) (fun _ h9 => h9) rfl d_M_write_229 ?_
                            refine lv_iload hx hb d_M_write_232 (lv_at hl 7 rfl) ?_
                            refine x_zald (v := qy 2 i) hx hb hK hP 1 (ma_2 hM) rfl (vp_in_nI (by omega) (by omega)) (by rw [nI_clamp (by omega)]) d_M_write_234 ?_
                            refine x_top (y := (g 2 0 0 i)) (by rw [k1 2 (by omega) (by omega), e3 2 (by omega) (by omega) (by omega) (by omega)]; exact hs.st (by omega)) ?_
                            refine lv_if_ne (tgt := 256) hx hb d_M_write_235 (by decide) (fun c235 => ?_) (fun c235 => ?_)
                            · have ht0 : tkV g i = 0 := by rw [tkV, tkF, if_neg c225, if_neg c235]
                              have ecu := cuF_z ht0
                              refine lv_iinc (v := nI (i + 1)) (lv' := [(7, .int (nI (i + 1))), (0, .ref (bd 0)), (1, .int x), (2, .int (nI f)), (3, .int (nI (w f + 1))), (4, .int (mixF x 1)), (5, .int (wRt K N g x (nI (w f + 1)))), (6, .int (nI (cuF (tkV g) i)))]) hx hb d_M_write_256 hl (k := 7) rfl (nI_1 _) (by decide) rfl (fun ls hl => ?_)
                              refine lv_goto (tgt := 209) hx hb d_M_write_259 (by decide) ?_
                              exact ih (i + 1) qy (by omega) (by omega) ⟨k1, fun a ha => k2 a (fun s hs1 hs2 => ha s (by omega) hs2), fun s hs1 hs2 => k3 s ((Nat.lt_succ_iff_lt_or_eq.mp hs1).elim id fun z => absurd (by rw [z]; exact ht0) hs2) hs2⟩ _ _ _ hP hS hR ls (by rw [ecu]; exact (lv_sub hl [1, 2, 3, 4, 5, 6, 7, 0] rfl))
                            · have ht0 : ¬ tkV g i = 0 := by rw [tkV, tkF, if_neg c225, if_pos c235]; decide
                              have ecu := cuF_s ht0
                              refine lv_aload_n hx hb d_M_write_238 rfl (lv_at hl 0 rfl) ?_
                              refine lv_iload_n hx hb d_M_write_239 rfl (lv_at hl 2 rfl) ?_
                              refine lv_bipush (v := nI 7) hx hb d_M_write_240 (by decide) ?_
                              refine lv_imul hx hb d_M_write_242 ?_
                              refine x_top (y := nI (f * 7)) (pk_mul _ _) ?_
                              refine lv_iload hx hb d_M_write_243 (lv_at hl 7 rfl) ?_
                              refine lv_iadd hx hb d_M_write_245 ?_
                              refine x_top (y := nI ((f * 7) + i)) (nI_add _ _) ?_
                              refine lv_iload hx hb d_M_write_246 (lv_at hl 7 rfl) ?_
                              refine lv_iload_n hx hb d_M_write_248 rfl (lv_at hl 2 rfl) ?_
                              refine lv_iload_n hx hb d_M_write_249 rfl (lv_at hl 3 rfl) ?_
                              refine xv_Q (n := 4) (As := [.int (nI ((f * 7) + i)), .int (nI i), .int (nI f), .int (nI (w f + 1))]) (rest := []) hx hb hml hown hg hK0 hP (c_M_keep l D T A _ bd K N qy hz hM ((f * 7) + i) i f (w f + 1) (by omega) (by omega) (by omega) (by omega)) w_456 w_6 w_453 w_455 s_27 (ma_0 hM) rfl rfl (by decide +kernel) ⟨Nat.le_of_ble_eq_true rfl, Nat.le_of_ble_eq_true rfl⟩ rfl hl.1 rfl (Nat.le_of_ble_eq_true rfl) hS ⟨Nat.zero_le _, Nat.zero_le _⟩ rfl rfl d_M_write_250 (fun r M1 H_248 L_249 hr hP hS => ?_)
                              obtain ⟨rfl, q_250, hR1, k1, k2, k3, k4, k5, k6, k7, k8⟩ := hr
                              have hR := hR.tr hR1
                              have hM := hR.1
                              refine x_fr (pc := 253) [] rfl rfl ?_
                              refine lv_iinc (v := nI ((cuF (tkV g) i) + 1)) (lv' := [(6, .int (nI ((cuF (tkV g) i) + 1))), (0, .ref (bd 0)), (1, .int x), (2, .int (nI f)), (3, .int (nI (w f + 1))), (4, .int (mixF x 1)), (5, .int (wRt K N g x (nI (w f + 1)))), (7, .int (nI i))]) hx hb d_M_write_253 hl (k := 6) rfl (nI_1 _) (by decide) rfl (fun ls hl => ?_)
                              refine lv_iinc (v := nI (i + 1)) (lv' := [(7, .int (nI (i + 1))), (6, .int (nI ((cuF (tkV g) i) + 1))), (0, .ref (bd 0)), (1, .int x), (2, .int (nI f)), (3, .int (nI (w f + 1))), (4, .int (mixF x 1)), (5, .int (wRt K N g x (nI (w f + 1))))]) hx hb d_M_write_256 hl (k := 7) rfl (nI_1 _) (by decide) rfl (fun ls hl => ?_)
                              refine lv_goto (tgt := 209) hx hb d_M_write_259 (by decide) ?_
                              obtain ⟨m1, m2, m3⟩ := r3
                              have esh : ∀ s, s < 7 → shM (qy 11) (nI s + 1) K = shG (wCw g x (nI (w f + 1))) (nI s + 1) 0 K := fun s hs1 => by rw [sh_eq hs1, m1 11 (by omega) (by omega)]; exact shG_congr0 e11
                              have e6a : qy 6 (f * 31 + (w f + 1)) = wSe K N g x (nI (w f + 1)) := by rw [m1 6 (by omega) (by omega), e6, upd_s]
                              refine ih (i + 1) q_250 (by omega) (by omega) ⟨fun k z1 z2 => (k1 k z1 z2).trans (m1 k z1 z2), fun a ha => ?_, fun s hs1 hs2 => ?_⟩ _ _ _ hP hS hR ls (by rw [ecu]; exact (lv_sub hl [2, 3, 4, 5, 6, 7, 1, 0] rfl))
                              · have hai : a ≠ f * 7 + i := ha i (by omega) ht0
                                obtain ⟨y1, y2⟩ := m2 a (fun s hs1 hs2 => ha s (by omega) hs2)
                                exact ⟨(k2 a hai).trans y1, fun b hb => (k3 a b hai hb).trans (y2 b hb)⟩
                              · rcases Nat.lt_succ_iff_lt_or_eq.mp hs1 with z | z
                                · obtain ⟨y1, y2, y3, y4, y5⟩ := m3 s z hs2
                                  have hne : f * 7 + s ≠ f * 7 + i := by omega
                                  refine ⟨(k2 _ hne).trans y1, ?_, (k3 _ 1 hne (by omega)).trans y3, (k3 _ 2 hne (by omega)).trans y4, fun t ht => ?_⟩
                                  · have := k3 _ 0 hne (by omega); rw [Nat.add_zero] at this; exact this.trans y2
                                  · have := k3 _ (3 + t) hne (by omega); rw [← Nat.add_assoc] at this; exact this.trans (y5 t ht)
                                · subst z
                                  exact ⟨k4, k5.trans (esh s (by omega)), k6, k7.trans e6a, fun t ht => by rw [k8 t ht, esh t (by omega)]; rfl⟩
                    exact loopC (N + 1) 0 q_246 (by omega) (by omega) ⟨fun _ _ _ => rfl, fun a _ => ⟨by rw [e3 8 (by omega) (by omega) (by omega) (by omega)], fun b _ => by rw [e3 7 (by omega) (by omega) (by omega) (by omega)]⟩, fun s hs1 => absurd hs1 (by omega)⟩ _ _ _ hP hS hR ls (lv_sub hl [3, 4, 5, 6, 7, 2, 1, 0] rfl)
                  · refine lv_aload_n hx hb d_M_write_132 rfl (lv_at hl 0 rfl) ?_
                    refine lv_iload hx hb d_M_write_133 (lv_at hl 5 rfl) ?_
                    refine lv_aload_n hx hb d_M_write_135 rfl (lv_at hl 0 rfl) ?_
                    refine lv_aload_n hx hb d_M_write_136 rfl (lv_at hl 0 rfl) ?_
                    refine lv_iload hx hb d_M_write_137 (lv_at hl 6 rfl) ?_
                    refine xv_R (n := 1) (As := [.int (nI i)]) (rest := [.ref (bd 0), .int (rtI (fpV K (wCw g x (nI (w f + 1)))) i), .ref (bd 0)]) hx hb hml hown hg hK0 hP (c_M_shareAt l D T A _ bd K N qx hz hM (nI i)) w_440 w_6 w_437 w_439 s_23 (ma_0 hM) rfl rfl (by decide +kernel) ⟨Nat.le_of_ble_eq_true rfl, Nat.le_of_ble_eq_true rfl⟩ rfl hl.1 rfl (Nat.le_of_ble_eq_true rfl) ⟨Nat.zero_le _, Nat.zero_le _⟩ rfl rfl d_M_write_139 (fun r hr => ?_)
                    subst hr
                    refine x_fr (pc := 142) [.int (shM (qx 11) ((nI i) + 1) K), .ref (bd 0), .int (rtI (fpV K (wCw g x (nI (w f + 1)))) i), .ref (bd 0)] rfl rfl ?_
                    refine x_top (y := (shG (wCw g x (nI (w f + 1))) (nI i + 1) 0 K)) (by rw [sh_eq (by omega)]; exact shG_congr0 r2) ?_
                    refine lv_iload hx hb d_M_write_142 (lv_at hl 6 rfl) ?_
                    refine lv_bipush (v := 100) hx hb d_M_write_144 (by decide) ?_
                    refine lv_iadd hx hb d_M_write_146 ?_
                    refine xv_R (n := 2) (As := [.int (shG (wCw g x (nI (w f + 1))) (nI i + 1) 0 K), .int ((nI i) + 100)]) (rest := [.int (rtI (fpV K (wCw g x (nI (w f + 1)))) i), .ref (bd 0)]) hx hb hml hown hg hK0 hP (c_M_mix l D T A _ bd K N qx hz hM (shG (wCw g x (nI (w f + 1))) (nI i + 1) 0 K) ((nI i) + 100)) w_413 w_6 w_410 w_412 s_20 (ma_0 hM) rfl rfl (by decide +kernel) ⟨Nat.le_of_ble_eq_true rfl, Nat.le_of_ble_eq_true rfl⟩ rfl hl.1 rfl (Nat.le_of_ble_eq_true rfl) ⟨Nat.zero_le _, Nat.zero_le _⟩ rfl rfl d_M_write_147 (fun r hr => ?_)
                    subst hr
                    refine x_fr (pc := 150) [.int (mixF (shG (wCw g x (nI (w f + 1))) (nI i + 1) 0 K) ((nI i) + 100)), .int (rtI (fpV K (wCw g x (nI (w f + 1)))) i), .ref (bd 0)] rfl rfl ?_
                    refine xv_R (n := 2) (As := [.int (rtI (fpV K (wCw g x (nI (w f + 1)))) i), .int (mixF (shG (wCw g x (nI (w f + 1))) (nI i + 1) 0 K) ((nI i) + 100))]) (rest := []) hx hb hml hown hg hK0 hP (c_M_mix l D T A _ bd K N qx hz hM (rtI (fpV K (wCw g x (nI (w f + 1)))) i) (mixF (shG (wCw g x (nI (w f + 1))) (nI i + 1) 0 K) ((nI i) + 100))) w_413 w_6 w_410 w_412 s_20 (ma_0 hM) rfl rfl (by decide +kernel) ⟨Nat.le_of_ble_eq_true rfl, Nat.le_of_ble_eq_true rfl⟩ rfl hl.1 rfl (Nat.le_of_ble_eq_true rfl) ⟨Nat.zero_le _, Nat.zero_le _⟩ rfl rfl d_M_write_150 (fun r hr => ?_)
                    subst hr
                    refine x_fr (pc := 153) [.int (mixF (rtI (fpV K (wCw g x (nI (w f + 1)))) i) (mixF (shG (wCw g x (nI (w f + 1))) (nI i + 1) 0 K) ((nI i) + 100)))] rfl rfl ?_
                    refine lv_istore (lv' := [(5, .int (mixF (rtI (fpV K (wCw g x (nI (w f + 1)))) i) (mixF (shG (wCw g x (nI (w f + 1))) (nI i + 1) 0 K) ((nI i) + 100)))), (0, .ref (bd 0)), (1, .int x), (2, .int (nI f)), (3, .int (nI (w f + 1))), (4, .int (mixF x 1)), (6, .int (nI i))]) hx hb d_M_write_153 hl (by decide) rfl (fun ls hl => ?_)
                    refine lv_iinc (v := nI (i + 1)) (lv' := [(6, .int (nI (i + 1))), (5, .int (mixF (rtI (fpV K (wCw g x (nI (w f + 1)))) i) (mixF (shG (wCw g x (nI (w f + 1))) (nI i + 1) 0 K) ((nI i) + 100)))), (0, .ref (bd 0)), (1, .int x), (2, .int (nI f)), (3, .int (nI (w f + 1))), (4, .int (mixF x 1))]) hx hb d_M_write_155 hl (k := 6) rfl (nI_1 _) (by decide) rfl (fun ls hl => ?_)
                    refine lv_goto (tgt := 123) hx hb d_M_write_158 (by decide) ?_
                    exact ih (i + 1) (by omega) (by omega) ls (lv_sub hl [2, 3, 4, 5, 6, 1, 0] rfl)
              exact loopB (N + 1) 0 (by omega) (by omega) ls (lv_sub hl [2, 3, 4, 5, 6, 1, 0] rfl)
            · refine lv_aload_n hx hb d_M_write_82 rfl (lv_at hl 0 rfl) ?_
              refine x_get (v := .ref (bd 11)) (C := R_M) (T := F_M) (N := 17) hx hb hg i_M hown hK hP (ma_0 hM) rfl 14 (by decide) (hg _ w_368) (fun _ h9 => h9) rfl d_M_write_83 ?_
              refine lv_iload hx hb d_M_write_86 (lv_at hl 5 rfl) ?_
              refine lv_aload_n hx hb d_M_write_88 rfl (lv_at hl 0 rfl) ?_
              refine x_get (v := .ref (bd 9)) (C := R_M) (T := F_M) (N := 17) hx hb hg i_M hown hK hP (ma_0 hM) rfl 11 (by decide) (hg _ w_365) (fun _ h9 => h9) rfl d_M_write_89 ?_
              refine lv_iload hx hb d_M_write_92 (lv_at hl 5 rfl) ?_
              refine x_iald (v := qx 9 i) hx hb hK hP 0 (ma_9 hM) rfl (vp_in_nI (by omega) (by omega)) (by rw [nI_clamp (by omega)]) d_M_write_94 ?_
              refine x_top (y := (g 4 0 0 i)) (by rw [r1 9 (by omega), hq_238, upQ_n (by omega)]; exact hs.dr (by omega)) ?_
              refine lv_aload_n hx hb d_M_write_95 rfl (lv_at hl 0 rfl) ?_
              refine lv_iload hx hb d_M_write_96 (lv_at hl 4 rfl) ?_
              refine lv_iload_n hx hb d_M_write_98 rfl (lv_at hl 3 rfl) ?_
              refine lv_bipush (v := 8) hx hb d_M_write_99 (by decide) ?_
              refine lv_imul hx hb d_M_write_101 ?_
              refine lv_iload hx hb d_M_write_102 (lv_at hl 5 rfl) ?_
              refine lv_iadd hx hb d_M_write_104 ?_
              refine xv_R (n := 2) (As := [.int (mixF x 1), .int (((nI (w f + 1)) * 8) + (nI i))]) (rest := [.int (g 4 0 0 i), .int (nI i), .ref (bd 11)]) hx hb hml hown hg hK0 hP (c_M_mix l D T A _ bd K N qx hz hM (mixF x 1) (((nI (w f + 1)) * 8) + (nI i))) w_413 w_6 w_410 w_412 s_20 (ma_0 hM) rfl rfl (by decide +kernel) ⟨Nat.le_of_ble_eq_true rfl, Nat.le_of_ble_eq_true rfl⟩ rfl hl.1 rfl (Nat.le_of_ble_eq_true rfl) ⟨Nat.zero_le _, Nat.zero_le _⟩ rfl rfl d_M_write_105 (fun r hr => ?_)
              subst hr
              refine x_fr (pc := 108) [.int (mixF (mixF x 1) (((nI (w f + 1)) * 8) + (nI i))), .int (g 4 0 0 i), .int (nI i), .ref (bd 11)] rfl rfl ?_
              refine lv_ixor hx hb d_M_write_108 ?_
              refine x_iast hx hb hK hP hS 0 (ma_11 hM) rfl (vp_in_nI (by omega) (by omega)) d_M_write_109 (fun H_251 L_252 hP hS => ?_)
              rw [nI_clamp (by omega)] at hP
              obtain ⟨q_253, hq_253⟩ : ∃ z, z = upQ qx 11 (upd (qx 11) i ((g 4 0 0 i) ^^^ (mixF (mixF x 1) (((nI (w f + 1)) * 8) + (nI i))))) := ⟨_, rfl⟩
              obtain ⟨M_254, hP, hR⟩ : ∃ z, xW D classes A z H_251 ∧ mR T bd K N M q_253 z := ⟨_, hP, by rw [hq_253]; exact hR.set (by omega) rfl⟩
              have hM := hR.1
              refine lv_iinc (v := nI (i + 1)) (lv' := [(5, .int (nI (i + 1))), (0, .ref (bd 0)), (1, .int x), (2, .int (nI f)), (3, .int (nI (w f + 1))), (4, .int (mixF x 1))]) hx hb d_M_write_110 hl (k := 5) rfl (nI_1 _) (by decide) rfl (fun ls hl => ?_)
              refine lv_goto (tgt := 73) hx hb d_M_write_113 (by decide) ?_
              refine ih (i + 1) q_253 (by omega) (by omega) (fun k z => by rw [hq_253, upQ_n z]; exact r1 k z) (fun j hj => ?_) _ _ _ hP hS hR ls (lv_sub hl [1, 2, 3, 4, 5, 0] rfl)
              rw [hq_253, upQ_s]
              by_cases e : j = i
              · subst e; rw [upd_s]; rfl
              · rw [upd_n e]; exact r2 j (by omega)
        exact loopA (K + 1) 0 q_238 (by omega) (by omega) (fun _ _ => rfl) (fun j hj => absurd hj (by omega)) _ _ _ hP hS hR ls (lv_sub hl [4, 5, 3, 2, 1, 0] rfl)
      · have c49 : w f = 30 := by omega
        refine lv_bipush (v := (-2)) hx hb d_M_write_42 (by decide) ?_
        have hno : ¬ okW K N g c0 w x := fun z => absurd z.2.2 (by rw [ef]; omega)
        exact hret _ _ _ _ _ _ d_M_write_44 hP hS ⟨by rw [aWrite, if_pos c15, if_pos c28, ef, if_neg (by omega)], q, hR, by rw [hst.2 hno]; exact hs⟩
    · refine lv_bipush (v := (-3)) hx hb d_M_write_28 (by decide) ?_
      have hno : ¬ okW K N g c0 w x := fun z => absurd z.2.1 (Nat.not_le.mpr c28)
      exact hret _ _ _ _ _ _ d_M_write_30 hP hS ⟨by rw [aWrite, if_pos c15, if_neg (Nat.not_le.mpr c28)], q, hR, by rw [hst.2 hno]; exact hs⟩
  · have c15 : ¬ 0 ≤ fuF g c0 (vkF x) := c15
    refine lv_iconst (v := (-1)) hx hb d_M_write_15 (by decide) ?_
    have hno : ¬ okW K N g c0 w x := fun z => absurd z.1 c15
    exact hret _ _ _ _ _ _ d_M_write_16 hP hS ⟨by rw [aWrite, if_neg c15], q, hR, by rw [hst.2 hno]; exact hs⟩
