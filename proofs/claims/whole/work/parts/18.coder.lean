/-! the coder's way back -/
def stD (pts : Nat → Int32) (lv j : Nat) (cw : Nat → Int32) : Nat → Int32 := upd cw j (scF (cw j ^^^ cw (j - 1)) (ivF (pts j ^^^ pts (j - lv))))
def inD (pts : Nat → Int32) (lv : Nat) : Nat → (Nat → Int32) → Nat → Int32
  | 0, cw => cw
  | u + 1, cw => inD pts lv u (stD pts lv (lv + u) cw)
def ouD (K : Nat) (pts : Nat → Int32) : Nat → Nat → (Nat → Int32) → Nat → Int32
  | _, 0, cw => cw
  | lv, t + 1, cw => ouD K pts (lv + 1) t (inD pts lv (K - lv) cw)
def stC (pts : Nat → Int32) (b j : Nat) (cw : Nat → Int32) : Nat → Int32 := upd cw j (cw j ^^^ scF (cw (j + 1)) (pts b))
def inC (pts : Nat → Int32) (b : Nat) : Nat → Nat → (Nat → Int32) → Nat → Int32
  | _, 0, cw => cw
  | j, u + 1, cw => inC pts b (j + 1) u (stC pts b j cw)
def ouC (K : Nat) (pts : Nat → Int32) : Nat → (Nat → Int32) → Nat → Int32
  | 0, cw => cw
  | t + 1, cw => ouC K pts t (inC pts t t (K - 1 - t) cw)
def dcS (K : Nat) (pts cw : Nat → Int32) : Nat → Int32 := ouC K pts (K - 1) (ouD K pts 1 (K - 1) cw)
theorem dnK {K : Nat} (h1 : 1 ≤ K) (h4 : K ≤ 4) : nI K - nI 2 = dnI (K - 1) := by
  rcases (show K = 1 ∨ K = 2 ∨ K = 3 ∨ K = 4 by omega) with rfl | rfl | rfl | rfl <;> decide
set_option maxHeartbeats 4000000 in
set_option maxRecDepth 100000 in
theorem c_C_sharesToDifferences (l : Launch) (D : va_G) (T : Nat → ClassId) (A : Nat → Prop) (M : xM) (ad : Nat → Nat → Nat → Nat) (K N : Nat) (g : gT) (hz : zB K N) (hG : gG T ad K N g M) : Met l y_C_sharesToDifferences (Cond.code y_C_sharesToDifferences b_C_sharesToDifferences 4 none :: gw) (rmH 3) (xPc D T A M [.ref (ad 6 0 0)]) (xQ D A (fun r M1 => r = none ∧ gR T ad K N M (upS g 7 0 0 (ouD K (g 8 0 0) 1 (K - 1) (g 7 0 0))) M1)) 0 0 A := by
  refine xMetQv (by decide) (Nat.le_of_ble_eq_true rfl) ?_
  intro p e s m below meth c Q ls hB hP hS hl hret
  obtain ⟨hx, hb, hml, hown, hg, hK0, hnm⟩ := hB
  have hown : s.vm.findClass "ShareGrid$Coder" = some m.cls := hown
  have hK := hK0.1
  have hN := hK0.2.1
  obtain ⟨hz1, hz4, hzn, hz7⟩ := id hz
  have hR := hG.rf
  have hl : lv_has ls 4 [(0, .ref (ad 6 0 0))] := hl
  refine lv_iconst (v := nI 1) hx hb d_C_sharesToDifferences_0 (by decide) ?_
  refine lv_istore_n (lv' := [(1, .int (nI 1)), (0, .ref (ad 6 0 0))]) hx hb d_C_sharesToDifferences_1 rfl hl (by decide) rfl (fun ls hl => ?_)
  have loop : ∀ (n : Nat) (lv : Nat) (cw : Nat → Int32), K + 1 ≤ lv + n → lv ≤ K → 1 ≤ lv → ouD K (g 8 0 0) 1 (K - 1) (g 7 0 0) = ouD K (g 8 0 0) lv (K - lv) cw → ∀ (Mx : xM) (Hx : Heap) (Lx : List Loc), xW D classes A Mx Hx → va_S A s.heap Hx Lx → gR T ad K N M (upS g 7 0 0 cw) Mx → ∀ (ls : Array Slot), lv_has ls 4 [(0, .ref (ad 6 0 0)), (1, .int (nI lv))] → W p l e (rmH 3) s m [.ref (ad 6 0 0)].toArray below meth c Hx Lx 0 0 Q (F0 m 2 ls []) := by
    intro n
    induction n with
    | zero =>
      intro lv cw h2 h1 h0 r1
      exact absurd h2 (by omega)
    | succ n ih =>
      intro lv cw h2 h1 h0 r1 Mx Hx Lx hP hS hR ls hl
      have hG := hR.1
      refine lv_iload_n hx hb d_C_sharesToDifferences_2 rfl (lv_at hl 1 rfl) ?_
      refine lv_aload_n hx hb d_C_sharesToDifferences_3 rfl (lv_at hl 0 rfl) ?_
      refine x_get (v := .int (nI K)) (C := R_C) (T := F_C) (N := 3) hx hb hg i_C hown hK hP (ga_6 hG) rfl 0 (by decide) (hg _ w_96) (fun _ h9 => h9) rfl d_C_sharesToDifferences_4 ?_
      refine x_nc_ge (tgt := 78) hx hb d_C_sharesToDifferences_7 (by decide) (by omega) (by omega) (fun c1 => ?_) (fun c1 => ?_)
      · have hlK : lv = K := by omega
        exact hret _ _ _ _ _ d_C_sharesToDifferences_78 hP hS ⟨rfl, by rw [r1, hlK, Nat.sub_self]; exact hR⟩
      · have hKl : K - lv = (K - (lv + 1)) + 1 := by omega
        refine lv_aload_n hx hb d_C_sharesToDifferences_10 rfl (lv_at hl 0 rfl) ?_
        refine x_get (v := .int (nI K)) (C := R_C) (T := F_C) (N := 3) hx hb hg i_C hown hK hP (ga_6 hG) rfl 0 (by decide) (hg _ w_96) (fun _ h9 => h9) rfl d_C_sharesToDifferences_11 ?_
        refine lv_iconst (v := nI 1) hx hb d_C_sharesToDifferences_14 (by decide) ?_
        refine lv_isub hx hb d_C_sharesToDifferences_15 ?_
        refine x_top (y := nI (K - 1)) (pk_sub (by omega)) ?_
        refine lv_istore_n (lv' := [(2, .int (nI (K - 1))), (0, .ref (ad 6 0 0)), (1, .int (nI lv))]) hx hb d_C_sharesToDifferences_16 rfl hl (by decide) rfl (fun ls hl => ?_)
        have loopI : ∀ (u : Nat) (cw1 : Nat → Int32), u ≤ K - lv → inD (g 8 0 0) lv (K - lv) cw = inD (g 8 0 0) lv u cw1 → ∀ (Mx : xM) (Hx : Heap) (Lx : List Loc), xW D classes A Mx Hx → va_S A s.heap Hx Lx → gR T ad K N M (upS g 7 0 0 cw1) Mx → ∀ (ls : Array Slot), lv_has ls 4 [(0, .ref (ad 6 0 0)), (1, .int (nI lv)), (2, .int (nI (lv + u - 1)))] → W p l e (rmH 3) s m [.ref (ad 6 0 0)].toArray below meth c Hx Lx 0 0 Q (F0 m 17 ls []) := by
          intro u
          induction u with
          | zero =>
            intro cw1 hu he Mx Hx Lx hP hS hR ls hl
            have hG := hR.1
            refine lv_iload_n hx hb d_C_sharesToDifferences_17 rfl (lv_at hl 2 rfl) ?_
            refine lv_iload_n hx hb d_C_sharesToDifferences_18 rfl (lv_at hl 1 rfl) ?_
            refine x_nc_lt (tgt := 72) hx hb d_C_sharesToDifferences_19 (by decide) (by omega) (by omega) (fun c2 => ?_) (fun c2 => ?_)
            · refine lv_iinc (v := nI (lv + 1)) (lv' := [(1, .int (nI (lv + 1))), (0, .ref (ad 6 0 0)), (2, .int (nI (lv + 0 - 1)))]) hx hb d_C_sharesToDifferences_72 hl (k := 1) rfl (nI_1 _) (by decide) rfl (fun ls hl => ?_)
              refine lv_goto (tgt := 2) hx hb d_C_sharesToDifferences_75 (by decide) ?_
              exact ih (lv + 1) cw1 (by omega) (by omega) (by omega) (by rw [r1, hKl, ouD, he]; rfl) _ _ _ hP hS hR ls (lv_sub hl [1, 0] rfl)
            · exact absurd c2 (by omega)
          | succ u ihu =>
            intro cw1 hu he Mx Hx Lx hP hS hR ls hl
            have hG := hR.1
            have eu : lv + (u + 1) - 1 = lv + u := by omega
            rw [eu] at hl
            refine lv_iload_n hx hb d_C_sharesToDifferences_17 rfl (lv_at hl 2 rfl) ?_
            refine lv_iload_n hx hb d_C_sharesToDifferences_18 rfl (lv_at hl 1 rfl) ?_
            refine x_nc_lt (tgt := 72) hx hb d_C_sharesToDifferences_19 (by decide) (by omega) (by omega) (fun c2 => ?_) (fun c2 => ?_)
            · exact absurd c2 (by omega)
            · refine lv_aload_n hx hb d_C_sharesToDifferences_22 rfl (lv_at hl 0 rfl) ?_
              refine x_get (v := .ref (ad 8 0 0)) (C := R_C) (T := F_C) (N := 3) hx hb hg i_C hown hK hP (ga_6 hG) rfl 2 (by decide) (hg _ w_99) (fun _ h9 => h9) rfl d_C_sharesToDifferences_23 ?_
              refine lv_iload_n hx hb d_C_sharesToDifferences_26 rfl (lv_at hl 2 rfl) ?_
              refine x_iald (v := (upS g 7 0 0 cw1) 8 0 0 (lv + u)) hx hb hK hP 0 (ga_8 hG) rfl (vp_in_nI (by omega) (by omega)) (by rw [nI_clamp (by omega)]) d_C_sharesToDifferences_27 ?_
              refine lv_aload_n hx hb d_C_sharesToDifferences_28 rfl (lv_at hl 0 rfl) ?_
              refine x_get (v := .ref (ad 8 0 0)) (C := R_C) (T := F_C) (N := 3) hx hb hg i_C hown hK hP (ga_6 hG) rfl 2 (by decide) (hg _ w_99) (fun _ h9 => h9) rfl d_C_sharesToDifferences_29 ?_
              refine lv_iload_n hx hb d_C_sharesToDifferences_32 rfl (lv_at hl 2 rfl) ?_
              refine lv_iload_n hx hb d_C_sharesToDifferences_33 rfl (lv_at hl 1 rfl) ?_
              refine lv_isub hx hb d_C_sharesToDifferences_34 ?_
              refine x_top (y := nI ((lv + u) - lv)) (pk_sub (by omega)) ?_
              refine x_iald (v := (upS g 7 0 0 cw1) 8 0 0 ((lv + u) - lv)) hx hb hK hP 0 (ga_8 hG) rfl (vp_in_nI (by omega) (by omega)) (by rw [nI_clamp (by omega)]) d_C_sharesToDifferences_35 ?_
              refine lv_ixor hx hb d_C_sharesToDifferences_36 ?_
              refine lv_istore_n (lv' := [(3, .int (((upS g 7 0 0 cw1) 8 0 0 (lv + u)) ^^^ ((upS g 7 0 0 cw1) 8 0 0 ((lv + u) - lv)))), (0, .ref (ad 6 0 0)), (1, .int (nI lv)), (2, .int (nI (lv + u)))]) hx hb d_C_sharesToDifferences_37 rfl hl (by decide) rfl (fun ls hl => ?_)
              refine lv_aload_n hx hb d_C_sharesToDifferences_38 rfl (lv_at hl 1 rfl) ?_
              refine x_get (v := .ref (ad 7 0 0)) (C := R_C) (T := F_C) (N := 3) hx hb hg i_C hown hK hP (ga_6 hG) rfl 1 (by decide) (hg _ w_97) (fun _ h9 => h9) rfl d_C_sharesToDifferences_39 ?_
              refine lv_iload_n hx hb d_C_sharesToDifferences_42 rfl (lv_at hl 3 rfl) ?_
              refine lv_aload_n hx hb d_C_sharesToDifferences_43 rfl (lv_at hl 1 rfl) ?_
              refine x_get (v := .ref (ad 7 0 0)) (C := R_C) (T := F_C) (N := 3) hx hb hg i_C hown hK hP (ga_6 hG) rfl 1 (by decide) (hg _ w_97) (fun _ h9 => h9) rfl d_C_sharesToDifferences_44 ?_
              refine lv_iload_n hx hb d_C_sharesToDifferences_47 rfl (lv_at hl 3 rfl) ?_
              refine x_iald (v := (upS g 7 0 0 cw1) 7 0 0 (lv + u)) hx hb hK hP 0 (ga_7 hG) rfl (vp_in_nI (by omega) (by omega)) (by rw [nI_clamp (by omega)]) d_C_sharesToDifferences_48 ?_
              refine lv_aload_n hx hb d_C_sharesToDifferences_49 rfl (lv_at hl 1 rfl) ?_
              refine x_get (v := .ref (ad 7 0 0)) (C := R_C) (T := F_C) (N := 3) hx hb hg i_C hown hK hP (ga_6 hG) rfl 1 (by decide) (hg _ w_97) (fun _ h9 => h9) rfl d_C_sharesToDifferences_50 ?_
              refine lv_iload_n hx hb d_C_sharesToDifferences_53 rfl (lv_at hl 3 rfl) ?_
              refine lv_iconst (v := nI 1) hx hb d_C_sharesToDifferences_54 (by decide) ?_
              refine lv_isub hx hb d_C_sharesToDifferences_55 ?_
              refine x_top (y := nI ((lv + u) - 1)) (pk_sub (by omega)) ?_
              refine x_iald (v := (upS g 7 0 0 cw1) 7 0 0 ((lv + u) - 1)) hx hb hK hP 0 (ga_7 hG) rfl (vp_in_nI (by omega) (by omega)) (by rw [nI_clamp (by omega)]) d_C_sharesToDifferences_56 ?_
              refine lv_ixor hx hb d_C_sharesToDifferences_57 ?_
              refine lv_iload_n hx hb d_C_sharesToDifferences_58 rfl (lv_at hl 0 rfl) ?_
              refine xsn_R (n := 1) (As := [.int (((upS g 7 0 0 cw1) 8 0 0 (lv + u)) ^^^ ((upS g 7 0 0 cw1) 8 0 0 ((lv + u) - lv)))]) (rest := [.int (((upS g 7 0 0 cw1) 7 0 0 (lv + u)) ^^^ ((upS g 7 0 0 cw1) 7 0 0 ((lv + u) - 1))), .int (nI (lv + u)), .ref (ad 7 0 0)]) hx hb hml hown hg hK0 hP hN (c_G_inverse l D T A _ (((upS g 7 0 0 cw1) 8 0 0 (lv + u)) ^^^ ((upS g 7 0 0 cw1) 8 0 0 ((lv + u) - lv)))) w_272 w_1 e_270 w_271 (by decide +kernel) ⟨Nat.le_of_ble_eq_true rfl, Nat.le_of_ble_eq_true rfl⟩ rfl hl.1 rfl (Nat.le_of_ble_eq_true rfl) ⟨Nat.zero_le _, Nat.zero_le _⟩ rfl rfl d_C_sharesToDifferences_59 (fun r hr => ?_)
              subst hr
              refine x_fr (pc := 62) [.int (ivF (((upS g 7 0 0 cw1) 8 0 0 (lv + u)) ^^^ ((upS g 7 0 0 cw1) 8 0 0 ((lv + u) - lv)))), .int (((upS g 7 0 0 cw1) 7 0 0 (lv + u)) ^^^ ((upS g 7 0 0 cw1) 7 0 0 ((lv + u) - 1))), .int (nI (lv + u)), .ref (ad 7 0 0)] rfl rfl ?_
              refine xsn_R (n := 2) (As := [.int (((upS g 7 0 0 cw1) 7 0 0 (lv + u)) ^^^ ((upS g 7 0 0 cw1) 7 0 0 ((lv + u) - 1))), .int (ivF (((upS g 7 0 0 cw1) 8 0 0 (lv + u)) ^^^ ((upS g 7 0 0 cw1) 8 0 0 ((lv + u) - lv))))]) (rest := [.int (nI (lv + u)), .ref (ad 7 0 0)]) hx hb hml hown hg hK0 hP hN (c_G_scaled l D T A _ (((upS g 7 0 0 cw1) 7 0 0 (lv + u)) ^^^ ((upS g 7 0 0 cw1) 7 0 0 ((lv + u) - 1))) (ivF (((upS g 7 0 0 cw1) 8 0 0 (lv + u)) ^^^ ((upS g 7 0 0 cw1) 8 0 0 ((lv + u) - lv))))) w_202 w_1 e_200 w_201 (by decide +kernel) ⟨Nat.le_of_ble_eq_true rfl, Nat.le_of_ble_eq_true rfl⟩ rfl hl.1 rfl (Nat.le_of_ble_eq_true rfl) ⟨Nat.zero_le _, Nat.zero_le _⟩ rfl rfl d_C_sharesToDifferences_62 (fun r hr => ?_)
              subst hr
              refine x_fr (pc := 65) [.int (scF (((upS g 7 0 0 cw1) 7 0 0 (lv + u)) ^^^ ((upS g 7 0 0 cw1) 7 0 0 ((lv + u) - 1))) (ivF (((upS g 7 0 0 cw1) 8 0 0 (lv + u)) ^^^ ((upS g 7 0 0 cw1) 8 0 0 ((lv + u) - lv))))), .int (nI (lv + u)), .ref (ad 7 0 0)] rfl rfl ?_
              refine x_iast hx hb hK hP hS 0 (ga_7 hG) rfl (vp_in_nI (by omega) (by omega)) d_C_sharesToDifferences_65 (fun H_119 L_120 hP hS => ?_)
              rw [nI_clamp (by omega)] at hP
              obtain ⟨g_121, hg_121⟩ : ∃ z, z = upS (upS g 7 0 0 cw1) 7 0 0 (upd ((upS g 7 0 0 cw1) 7 0 0) (lv + u) (scF (((upS g 7 0 0 cw1) 7 0 0 (lv + u)) ^^^ ((upS g 7 0 0 cw1) 7 0 0 ((lv + u) - 1))) (ivF (((upS g 7 0 0 cw1) 8 0 0 (lv + u)) ^^^ ((upS g 7 0 0 cw1) 8 0 0 ((lv + u) - lv)))))) := ⟨_, rfl⟩
              obtain ⟨M_122, hP, hR⟩ : ∃ z, xW D classes A z H_119 ∧ gR T ad K N M g_121 z := ⟨_, hP, by rw [hg_121]; exact hR.set (Or.inl ⟨by omega, rfl, rfl⟩) rfl⟩
              have hG := hR.1
              have hR : gR T ad K N M (upS g 7 0 0 (stD (g 8 0 0) lv (lv + u) cw1)) M_122 := by rw [hg_121, upS_uu] at hR; exact hR
              refine lv_iinc (v := nI ((lv + u) - 1)) (lv' := [(2, .int (nI ((lv + u) - 1))), (3, .int (((upS g 7 0 0 cw1) 8 0 0 (lv + u)) ^^^ ((upS g 7 0 0 cw1) 8 0 0 ((lv + u) - lv)))), (0, .ref (ad 6 0 0)), (1, .int (nI lv))]) hx hb d_C_sharesToDifferences_66 hl (k := 3) rfl (sb_m1 (by omega)) (by decide) rfl (fun ls hl => ?_)
              refine lv_goto (tgt := 17) hx hb d_C_sharesToDifferences_69 (by decide) ?_
              exact ihu _ (by omega) (by rw [he]; rfl) _ _ _ hP hS hR ls (lv_sub hl [2, 3, 0] rfl)
        have eK : K - 1 = lv + (K - lv) - 1 := by omega
        exact loopI (K - lv) cw (Nat.le_refl _) rfl _ _ _ hP hS hR ls (by rw [← eK]; exact (lv_sub hl [1, 2, 0] rfl))
  exact loop K 1 (g 7 0 0) (by omega) (by omega) (by omega) rfl _ _ _ hP hS (by rw [upS_id]; exact hR) ls (lv_sub hl [1, 0] rfl)
set_option maxHeartbeats 4000000 in
set_option maxRecDepth 100000 in
theorem c_C_differencesToCipherWords (l : Launch) (D : va_G) (T : Nat → ClassId) (A : Nat → Prop) (M : xM) (ad : Nat → Nat → Nat → Nat) (K N : Nat) (g : gT) (hz : zB K N) (hG : gG T ad K N g M) : Met l y_C_differencesToCipherWords (Cond.code y_C_differencesToCipherWords b_C_differencesToCipherWords 3 none :: gw) (rmH 2) (xPc D T A M [.ref (ad 6 0 0)]) (xQ D A (fun r M1 => r = none ∧ gR T ad K N M (upS g 7 0 0 (ouC K (g 8 0 0) (K - 1) (g 7 0 0))) M1)) 0 0 A := by
  refine xMetQv (by decide) (Nat.le_of_ble_eq_true rfl) ?_
  intro p e s m below meth c Q ls hB hP hS hl hret
  obtain ⟨hx, hb, hml, hown, hg, hK0, hnm⟩ := hB
  have hown : s.vm.findClass "ShareGrid$Coder" = some m.cls := hown
  have hK := hK0.1
  have hN := hK0.2.1
  obtain ⟨hz1, hz4, hzn, hz7⟩ := id hz
  have hR := hG.rf
  have hl : lv_has ls 3 [(0, .ref (ad 6 0 0))] := hl
  refine lv_aload_n hx hb d_C_differencesToCipherWords_0 rfl (lv_at hl 0 rfl) ?_
  refine x_get (v := .int (nI K)) (C := R_C) (T := F_C) (N := 3) hx hb hg i_C hown hK hP (ga_6 hG) rfl 0 (by decide) (hg _ w_96) (fun _ h9 => h9) rfl d_C_differencesToCipherWords_1 ?_
  refine lv_iconst (v := nI 2) hx hb d_C_differencesToCipherWords_4 (by decide) ?_
  refine lv_isub hx hb d_C_differencesToCipherWords_5 ?_
  refine x_top (y := (dnI (K - 1))) (dnK hz1 hz4) ?_
  refine lv_istore_n (lv' := [(1, .int (dnI (K - 1))), (0, .ref (ad 6 0 0))]) hx hb d_C_differencesToCipherWords_6 rfl hl (by decide) rfl (fun ls hl => ?_)
  have loop : ∀ (t : Nat) (cw : Nat → Int32), t ≤ K - 1 → ouC K (g 8 0 0) (K - 1) (g 7 0 0) = ouC K (g 8 0 0) t cw → ∀ (Mx : xM) (Hx : Heap) (Lx : List Loc), xW D classes A Mx Hx → va_S A s.heap Hx Lx → gR T ad K N M (upS g 7 0 0 cw) Mx → ∀ (ls : Array Slot), lv_has ls 3 [(0, .ref (ad 6 0 0)), (1, .int (dnI t))] → W p l e (rmH 2) s m [.ref (ad 6 0 0)].toArray below meth c Hx Lx 0 0 Q (F0 m 7 ls []) := by
    intro t
    induction t with
    | zero =>
      intro cw ht he Mx Hx Lx hP hS hR ls hl
      have hG := hR.1
      have hl : lv_has ls 3 [(0, .ref (ad 6 0 0)), (1, .int (-1))] := hl
      refine lv_iload_n hx hb d_C_differencesToCipherWords_7 rfl (lv_at hl 1 rfl) ?_
      refine lv_if_lt (tgt := 61) hx hb d_C_differencesToCipherWords_8 (by decide) (fun c2 => ?_) (fun c2 => ?_)
      · exact hret _ _ _ _ _ d_C_differencesToCipherWords_61 hP hS ⟨rfl, by rw [he]; exact hR⟩
      · exact absurd (by decide) c2
    | succ t ih =>
      intro cw ht he Mx Hx Lx hP hS hR ls hl
      have hG := hR.1
      have hl : lv_has ls 3 [(0, .ref (ad 6 0 0)), (1, .int (nI t))] := hl
      refine lv_iload_n hx hb d_C_differencesToCipherWords_7 rfl (lv_at hl 1 rfl) ?_
      refine lv_if_lt (tgt := 61) hx hb d_C_differencesToCipherWords_8 (by decide) (fun c2 => ?_) (fun c2 => ?_)
      · exact absurd c2 (nI_pos (by omega))
      · refine lv_iload_n hx hb d_C_differencesToCipherWords_11 rfl (lv_at hl 1 rfl) ?_
        refine lv_istore_n (lv' := [(2, .int (nI t)), (0, .ref (ad 6 0 0)), (1, .int (nI t))]) hx hb d_C_differencesToCipherWords_12 rfl hl (by decide) rfl (fun ls hl => ?_)
        have loopI : ∀ (u : Nat) (cw1 : Nat → Int32), u ≤ K - 1 - t → inC (g 8 0 0) t t (K - 1 - t) cw = inC (g 8 0 0) t (K - 1 - u) u cw1 → ∀ (Mx : xM) (Hx : Heap) (Lx : List Loc), xW D classes A Mx Hx → va_S A s.heap Hx Lx → gR T ad K N M (upS g 7 0 0 cw1) Mx → ∀ (ls : Array Slot), lv_has ls 3 [(0, .ref (ad 6 0 0)), (1, .int (nI t)), (2, .int (nI (K - 1 - u)))] → W p l e (rmH 2) s m [.ref (ad 6 0 0)].toArray below meth c Hx Lx 0 0 Q (F0 m 13 ls []) := by
          intro u
          induction u with
          | zero =>
            intro cw1 hu he1 Mx Hx Lx hP hS hR ls hl
            have hG := hR.1
            refine lv_iload_n hx hb d_C_differencesToCipherWords_13 rfl (lv_at hl 2 rfl) ?_
            refine lv_aload_n hx hb d_C_differencesToCipherWords_14 rfl (lv_at hl 0 rfl) ?_
            refine x_get (v := .int (nI K)) (C := R_C) (T := F_C) (N := 3) hx hb hg i_C hown hK hP (ga_6 hG) rfl 0 (by decide) (hg _ w_96) (fun _ h9 => h9) rfl d_C_differencesToCipherWords_15 ?_
            refine lv_iconst (v := nI 1) hx hb d_C_differencesToCipherWords_18 (by decide) ?_
            refine lv_isub hx hb d_C_differencesToCipherWords_19 ?_
            refine x_top (y := nI (K - 1)) (pk_sub (by omega)) ?_
            refine x_nc_ge (tgt := 55) hx hb d_C_differencesToCipherWords_20 (by decide) (by omega) (by omega) (fun c3 => ?_) (fun c3 => ?_)
            · refine lv_iinc (v := dnI t) (lv' := [(1, .int (dnI t)), (0, .ref (ad 6 0 0)), (2, .int (nI (K - 1 - 0)))]) hx hb d_C_differencesToCipherWords_55 hl (k := 1) rfl (dnI_dec t) (by decide) rfl (fun ls hl => ?_)
              refine lv_goto (tgt := 7) hx hb d_C_differencesToCipherWords_58 (by decide) ?_
              exact ih cw1 (by omega) (by rw [he, ouC, he1]; rfl) _ _ _ hP hS hR ls (lv_sub hl [1, 0] rfl)
            · exact absurd c3 (by omega)
          | succ u ihu =>
            intro cw1 hu he1 Mx Hx Lx hP hS hR ls hl
            have hG := hR.1
            have eu : K - 1 - (u + 1) + 1 = K - 1 - u := by omega
            refine lv_iload_n hx hb d_C_differencesToCipherWords_13 rfl (lv_at hl 2 rfl) ?_
            refine lv_aload_n hx hb d_C_differencesToCipherWords_14 rfl (lv_at hl 0 rfl) ?_
            refine x_get (v := .int (nI K)) (C := R_C) (T := F_C) (N := 3) hx hb hg i_C hown hK hP (ga_6 hG) rfl 0 (by decide) (hg _ w_96) (fun _ h9 => h9) rfl d_C_differencesToCipherWords_15 ?_
            refine lv_iconst (v := nI 1) hx hb d_C_differencesToCipherWords_18 (by decide) ?_
            refine lv_isub hx hb d_C_differencesToCipherWords_19 ?_
            refine x_top (y := nI (K - 1)) (pk_sub (by omega)) ?_
            refine x_nc_ge (tgt := 55) hx hb d_C_differencesToCipherWords_20 (by decide) (by omega) (by omega) (fun c3 => ?_) (fun c3 => ?_)
            · exact absurd c3 (by omega)
            · refine lv_aload_n hx hb d_C_differencesToCipherWords_23 rfl (lv_at hl 0 rfl) ?_
              refine x_get (v := .ref (ad 7 0 0)) (C := R_C) (T := F_C) (N := 3) hx hb hg i_C hown hK hP (ga_6 hG) rfl 1 (by decide) (hg _ w_97) (fun _ h9 => h9) rfl d_C_differencesToCipherWords_24 ?_
              refine lv_iload_n hx hb d_C_differencesToCipherWords_27 rfl (lv_at hl 2 rfl) ?_
              refine lv_dup2_11 hx hb d_C_differencesToCipherWords_28 rfl rfl ?_
              refine x_iald (v := (upS g 7 0 0 cw1) 7 0 0 (K - 1 - (u + 1))) hx hb hK hP 0 (ga_7 hG) rfl (vp_in_nI (by omega) (by omega)) (by rw [nI_clamp (by omega)]) d_C_differencesToCipherWords_29 ?_
              refine lv_aload_n hx hb d_C_differencesToCipherWords_30 rfl (lv_at hl 0 rfl) ?_
              refine x_get (v := .ref (ad 7 0 0)) (C := R_C) (T := F_C) (N := 3) hx hb hg i_C hown hK hP (ga_6 hG) rfl 1 (by decide) (hg _ w_97) (fun _ h9 => h9) rfl d_C_differencesToCipherWords_31 ?_
              refine lv_iload_n hx hb d_C_differencesToCipherWords_34 rfl (lv_at hl 2 rfl) ?_
              refine lv_iconst (v := nI 1) hx hb d_C_differencesToCipherWords_35 (by decide) ?_
              refine lv_iadd hx hb d_C_differencesToCipherWords_36 ?_
              refine x_top (y := nI ((K - 1 - (u + 1)) + 1)) (nI_add _ _) ?_
              refine x_iald (v := (upS g 7 0 0 cw1) 7 0 0 ((K - 1 - (u + 1)) + 1)) hx hb hK hP 0 (ga_7 hG) rfl (vp_in_nI (by omega) (by omega)) (by rw [nI_clamp (by omega)]) d_C_differencesToCipherWords_37 ?_
              refine lv_aload_n hx hb d_C_differencesToCipherWords_38 rfl (lv_at hl 0 rfl) ?_
              refine x_get (v := .ref (ad 8 0 0)) (C := R_C) (T := F_C) (N := 3) hx hb hg i_C hown hK hP (ga_6 hG) rfl 2 (by decide) (hg _ w_99) (fun _ h9 => h9) rfl d_C_differencesToCipherWords_39 ?_
              refine lv_iload_n hx hb d_C_differencesToCipherWords_42 rfl (lv_at hl 1 rfl) ?_
              refine x_iald (v := (upS g 7 0 0 cw1) 8 0 0 t) hx hb hK hP 0 (ga_8 hG) rfl (vp_in_nI (by omega) (by omega)) (by rw [nI_clamp (by omega)]) d_C_differencesToCipherWords_43 ?_
              refine xsn_R (n := 2) (As := [.int ((upS g 7 0 0 cw1) 7 0 0 ((K - 1 - (u + 1)) + 1)), .int ((upS g 7 0 0 cw1) 8 0 0 t)]) (rest := [.int ((upS g 7 0 0 cw1) 7 0 0 (K - 1 - (u + 1))), .int (nI (K - 1 - (u + 1))), .ref (ad 7 0 0)]) hx hb hml hown hg hK0 hP hN (c_G_scaled l D T A _ ((upS g 7 0 0 cw1) 7 0 0 ((K - 1 - (u + 1)) + 1)) ((upS g 7 0 0 cw1) 8 0 0 t)) w_202 w_1 e_200 w_201 (by decide +kernel) ⟨Nat.le_of_ble_eq_true rfl, Nat.le_of_ble_eq_true rfl⟩ rfl hl.1 rfl (Nat.le_of_ble_eq_true rfl) ⟨Nat.zero_le _, Nat.zero_le _⟩ rfl rfl d_C_differencesToCipherWords_44 (fun r hr => ?_)
              subst hr
              refine x_fr (pc := 47) [.int (scF ((upS g 7 0 0 cw1) 7 0 0 ((K - 1 - (u + 1)) + 1)) ((upS g 7 0 0 cw1) 8 0 0 t)), .int ((upS g 7 0 0 cw1) 7 0 0 (K - 1 - (u + 1))), .int (nI (K - 1 - (u + 1))), .ref (ad 7 0 0)] rfl rfl ?_
              refine lv_ixor hx hb d_C_differencesToCipherWords_47 ?_
              refine x_iast hx hb hK hP hS 0 (ga_7 hG) rfl (vp_in_nI (by omega) (by omega)) d_C_differencesToCipherWords_48 (fun H_123 L_124 hP hS => ?_)
              rw [nI_clamp (by omega)] at hP
              obtain ⟨g_125, hg_125⟩ : ∃ z, z = upS (upS g 7 0 0 cw1) 7 0 0 (upd ((upS g 7 0 0 cw1) 7 0 0) (K - 1 - (u + 1)) (((upS g 7 0 0 cw1) 7 0 0 (K - 1 - (u + 1))) ^^^ (scF ((upS g 7 0 0 cw1) 7 0 0 ((K - 1 - (u + 1)) + 1)) ((upS g 7 0 0 cw1) 8 0 0 t)))) := ⟨_, rfl⟩
              obtain ⟨M_126, hP, hR⟩ : ∃ z, xW D classes A z H_123 ∧ gR T ad K N M g_125 z := ⟨_, hP, by rw [hg_125]; exact hR.set (Or.inl ⟨by omega, rfl, rfl⟩) rfl⟩
              have hG := hR.1
              have hR : gR T ad K N M (upS g 7 0 0 (stC (g 8 0 0) t (K - 1 - (u + 1)) cw1)) M_126 := by rw [hg_125, upS_uu] at hR; exact hR
              refine lv_iinc (v := nI ((K - 1 - (u + 1)) + 1)) (lv' := [(2, .int (nI ((K - 1 - (u + 1)) + 1))), (0, .ref (ad 6 0 0)), (1, .int (nI t))]) hx hb d_C_differencesToCipherWords_49 hl (k := 2) rfl (nI_1 _) (by decide) rfl (fun ls hl => ?_)
              refine lv_goto (tgt := 13) hx hb d_C_differencesToCipherWords_52 (by decide) ?_
              exact ihu _ (by omega) (by rw [he1, inC, eu]) _ _ _ hP hS hR ls (by rw [← eu]; exact (lv_sub hl [1, 2, 0] rfl))
        have eK : t = K - 1 - (K - 1 - t) := by omega
        exact loopI (K - 1 - t) cw (Nat.le_refl _) (by rw [← eK]) _ _ _ hP hS hR ls (by rw [← eK]; exact (lv_sub hl [1, 2, 0] rfl))
  exact loop (K - 1) (g 7 0 0) (Nat.le_refl _) rfl _ _ _ hP hS (by rw [upS_id]; exact hR) ls (lv_sub hl [1, 0] rfl)
set_option maxHeartbeats 4000000 in
set_option maxRecDepth 100000 in
theorem c_C_decodeShares (l : Launch) (D : va_G) (T : Nat → ClassId) (A : Nat → Prop) (M : xM) (ad : Nat → Nat → Nat → Nat) (K N : Nat) (g : gT) (hz : zB K N) (hG : gG T ad K N g M) : Met l y_C_decodeShares (Cond.code y_C_decodeShares b_C_decodeShares 1 none :: gw) (rmH 4) (xPc D T A M [.ref (ad 6 0 0)]) (xQ D A (fun r M1 => r = none ∧ gR T ad K N M (upS g 7 0 0 (dcS K (g 8 0 0) (g 7 0 0))) M1)) 0 0 A := by
  refine xMetQv (by decide) (Nat.le_of_ble_eq_true rfl) ?_
  intro p e s m below meth c Q ls hB hP hS hl hret
  obtain ⟨hx, hb, hml, hown, hg, hK0, hnm⟩ := hB
  have hown : s.vm.findClass "ShareGrid$Coder" = some m.cls := hown
  have hK := hK0.1
  have hN := hK0.2.1
  obtain ⟨hz1, hz4, hzn, hz7⟩ := id hz
  have hR := hG.rf
  have hl : lv_has ls 1 [(0, .ref (ad 6 0 0))] := hl
  refine lv_aload_n hx hb d_C_decodeShares_0 rfl (lv_at hl 0 rfl) ?_
  refine xv_Q (n := 0) (As := []) (rest := []) hx hb hml hown hg hK0 hP (c_C_sharesToDifferences l D T A _ ad K N g hz hG) w_269 w_5 w_266 w_268 s_15 (ga_6 hG) rfl rfl (by decide +kernel) ⟨Nat.le_of_ble_eq_true rfl, Nat.le_of_ble_eq_true rfl⟩ rfl hl.1 rfl (Nat.le_of_ble_eq_true rfl) hS ⟨Nat.zero_le _, Nat.zero_le _⟩ rfl rfl d_C_decodeShares_1 (fun r M1 H_127 L_128 hr hP hS => ?_)
  obtain ⟨rfl, hR1⟩ := hr
  obtain ⟨g_129, hg_129⟩ : ∃ z, z = upS g 7 0 0 (ouD K (g 8 0 0) 1 (K - 1) (g 7 0 0)) := ⟨_, rfl⟩
  rw [← hg_129] at hR1
  have hR := hR.tr hR1
  have hG := hR.1
  refine x_fr (pc := 4) [] rfl rfl ?_
  refine lv_aload_n hx hb d_C_decodeShares_4 rfl (lv_at hl 0 rfl) ?_
  refine xv_Q (n := 0) (As := []) (rest := []) hx hb hml hown hg hK0 hP (c_C_differencesToCipherWords l D T A _ ad K N g_129 hz hG) w_277 w_5 w_274 w_276 s_16 (ga_6 hG) rfl rfl (by decide +kernel) ⟨Nat.le_of_ble_eq_true rfl, Nat.le_of_ble_eq_true rfl⟩ rfl hl.1 rfl (Nat.le_of_ble_eq_true rfl) hS ⟨Nat.zero_le _, Nat.zero_le _⟩ rfl rfl d_C_decodeShares_5 (fun r M1 H_130 L_131 hr hP hS => ?_)
  obtain ⟨rfl, hR1⟩ := hr
  obtain ⟨g_132, hg_132⟩ : ∃ z, z = upS g_129 7 0 0 (ouC K (g_129 8 0 0) (K - 1) (g_129 7 0 0)) := ⟨_, rfl⟩
  rw [← hg_132] at hR1
  have hR := hR.tr hR1
  have hG := hR.1
  refine x_fr (pc := 8) [] rfl rfl ?_
  exact hret _ _ _ _ _ d_C_decodeShares_8 hP hS ⟨rfl, by
    have e8 : g_129 8 0 0 = g 8 0 0 := by rw [hg_129, upS_n (by omega)]
    have e7 : g_129 7 0 0 = ouD K (g 8 0 0) 1 (K - 1) (g 7 0 0) := by rw [hg_129, upS_s]
    rw [hg_132, e8, e7, hg_129, upS_uu] at hR
    exact hR⟩
