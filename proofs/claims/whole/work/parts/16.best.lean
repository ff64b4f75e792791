/-! the best number -/
theorem upS_uu {g : gT} {k f s : Nat} {h h' : Nat → Int32} : upS (upS g k f s h) k f s h' = upS g k f s h' := by
  funext k1 f1 s1
  by_cases q : k1 = k ∧ f1 = f ∧ s1 = s
  · simp [upS, q]
  · simp [upS, q]
theorem sdF_num {N : Nat} {rc fps roots seals : Nat → Int32} {w : Int32} {i : Nat} (h : ¬ sdF N rc fps roots seals w i = 0) : ¬ rc 2 < 1 ∧ rc 2 ≤ w := by
  unfold sdF at h
  by_cases h0 : rc 0 = 0
  · exact absurd (if_pos h0) h
  · rw [if_neg h0] at h
    by_cases h1 : rc 2 < 1
    · exact absurd (if_pos h1) h
    · rw [if_neg h1] at h
      by_cases h2 : rc 2 ≤ w
      · exact ⟨h1, h2⟩
      · exact absurd (if_neg h2) h
set_option maxHeartbeats 4000000 in
set_option maxRecDepth 100000 in
theorem c_G_bestNumber (l : Launch) (D : va_G) (T : Nat → ClassId) (A : Nat → Prop) (M : xM) (ad : Nat → Nat → Nat → Nat) (K N : Nat) (g : gT) (hz : zB K N) (hG : gG T ad K N g M) (f w : Nat) (hf : f < 6) (hw : g 12 f 0 1 = nI w) (hw30 : w ≤ 30) : Met l y_G_bestNumber (Cond.code y_G_bestNumber b_G_bestNumber 3 (some .int) :: gw) (rmH 3) (xPc D T A M [.ref (ad 0 0 0), .ref (ad 12 f 0)]) (xQ D A (fun r M1 => ∃ h, r = some (.int (nI (beF K N g f))) ∧ gR T ad K N M (upS g 11 0 0 h) M1)) 0 0 A := by
  refine xMetQi (by decide) (Nat.le_of_ble_eq_true rfl) ?_
  intro p e s m below meth c Q ls hB hP hS hl hret
  obtain ⟨hx, hb, hml, hown, hg, hK0, hnm⟩ := hB
  have hown : s.vm.findClass "ShareGrid" = some m.cls := hown
  have hK := hK0.1
  have hN := hK0.2.1
  obtain ⟨hz1, hz4, hzn, hz7⟩ := id hz
  have hR := hG.rf
  have hl : lv_has ls 3 [(0, .ref (ad 0 0 0)), (1, .ref (ad 12 f 0))] := hl
  refine lv_aload_n hx hb d_G_bestNumber_0 rfl (lv_at hl 0 rfl) ?_
  refine x_get (v := .ref (ad 11 0 0)) (C := R_G) (T := F_G) (N := 12) hx hb hg i_G hown hK hP (ga_0 hG) rfl 9 (by decide) (hg _ w_119) (fun _ h9 => h9) rfl d_G_bestNumber_1 ?_
  refine lv_iconst (v := nI 0) hx hb d_G_bestNumber_4 (by decide) ?_
  refine xs_Q (n := 2) (As := [.ref (ad 11 0 0), .int (nI 0)]) (rest := []) hx hb hml hown hg hK0 hP (c_J_fill l D T A _ (ad 11 0 0) 31 (g 11 0 0) (nI 0) (by omega) (ga_11 hG)) w_245 w_8 w_243 w_244 (by decide +kernel) ⟨Nat.le_of_ble_eq_true rfl, Nat.le_of_ble_eq_true rfl⟩ rfl hl.1 rfl (Nat.le_of_ble_eq_true rfl) hS ⟨Nat.zero_le _, Nat.zero_le _⟩ rfl rfl d_G_bestNumber_5 (fun r M1 H_95 L_96 hr hP hS => ?_)
  obtain ⟨rfl, rfl⟩ := hr
  obtain ⟨g_97, hg_97⟩ : ∃ z, z = upS g 11 0 0 (fun _ => nI 0) := ⟨_, rfl⟩
  obtain ⟨M_98, hP, hR⟩ : ∃ z, xW D classes A z H_95 ∧ gR T ad K N M g_97 z := ⟨_, hP, by rw [hg_97]; exact hR.set (Or.inl ⟨by omega, rfl, rfl⟩) rfl⟩
  have hG := hR.1
  refine x_fr (pc := 8) [] rfl rfl ?_
  refine lv_iconst (v := nI 0) hx hb d_G_bestNumber_8 (by decide) ?_
  refine lv_istore_n (lv' := [(2, .int (nI 0)), (0, .ref (ad 0 0 0)), (1, .ref (ad 12 f 0))]) hx hb d_G_bestNumber_9 rfl hl (by decide) rfl (fun ls hl => ?_)
  have loop : ∀ (n : Nat) (i : Nat) (h : Nat → Int32), N + 1 ≤ i + n → i ≤ N → (∀ j, j < 31 → h j = nI (cuF (svF N g f (nI j)) i)) → ∀ (Mx : xM) (Hx : Heap) (Lx : List Loc), xW D classes A Mx Hx → va_S A s.heap Hx Lx → gR T ad K N M (upS g 11 0 0 h) Mx → ∀ (ls : Array Slot), lv_has ls 3 [(0, .ref (ad 0 0 0)), (1, .ref (ad 12 f 0)), (2, .int (nI i))] → W p l e (rmH 3) s m [.ref (ad 0 0 0), .ref (ad 12 f 0)].toArray below meth c Hx Lx 0 0 Q (F0 m 10 ls []) := by
    intro n
    induction n with
    | zero =>
      intro i h h2 h1 r1
      exact absurd h2 (by omega)
    | succ n ih =>
      intro i h h2 h1 r1 Mx Hx Lx hP hS hR ls hl
      have hG := hR.1
      refine lv_iload_n hx hb d_G_bestNumber_10 rfl (lv_at hl 2 rfl) ?_
      refine lv_aload_n hx hb d_G_bestNumber_11 rfl (lv_at hl 0 rfl) ?_
      refine x_get (v := .int (nI N)) (C := R_G) (T := F_G) (N := 12) hx hb hg i_G hown hK hP (ga_0 hG) rfl 1 (by decide) (hg _ w_111) (fun _ h9 => h9) rfl d_G_bestNumber_12 ?_
      refine x_nc_ge (tgt := 59) hx hb d_G_bestNumber_15 (by decide) (by omega) (by omega) (fun c1 => ?_) (fun c1 => ?_)
      · have hiN : i = N := by omega
        rw [hiN] at r1
        refine lv_aload_n hx hb d_G_bestNumber_59 rfl (lv_at hl 1 rfl) ?_
        refine x_getN (v := .int ((upS g 11 0 0 h) 12 f 0 1)) (C := R_F) (T := F_F) (N := 6) hx hb hg i_F hown hK hP (ga_12 hG (show f < 6 by omega)) rfl 5 (by decide) (va_Nw.use rfl (hN _ e_76)) (fun _ h9 => h9) rfl d_G_bestNumber_60 ?_
        refine x_top (y := nI w) (show (upS g 11 0 0 h) 12 f 0 1 = nI w from hw) ?_
        refine lv_istore_n (lv' := [(2, .int (nI w)), (0, .ref (ad 0 0 0)), (1, .ref (ad 12 f 0))]) hx hb d_G_bestNumber_63 rfl hl (by decide) rfl (fun ls hl => ?_)
        have ebe : beF K N g f = bdF (fun j => cuF (svF N g f (nI j)) N) K w := by rw [beF, hw, nI_clamp (by omega)]
        have loop2 : ∀ (u : Nat), u ≤ w → beF K N g f = bdF (fun j => cuF (svF N g f (nI j)) N) K u → ∀ (ls : Array Slot), lv_has ls 3 [(0, .ref (ad 0 0 0)), (1, .ref (ad 12 f 0)), (2, .int (nI u))] → W p l e (rmH 3) s m [.ref (ad 0 0 0), .ref (ad 12 f 0)].toArray below meth c Hx Lx 0 0 Q (F0 m 64 ls []) := by
          intro u
          induction u with
          | zero =>
            intro hu he ls hl
            refine lv_iload_n hx hb d_G_bestNumber_64 rfl (lv_at hl 2 rfl) ?_
            refine lv_iconst (v := nI 1) hx hb d_G_bestNumber_65 (by decide) ?_
            refine x_nc_lt (tgt := 90) hx hb d_G_bestNumber_66 (by decide) (by omega) (by omega) (fun c4 => ?_) (fun c4 => ?_)
            · refine lv_iconst (v := nI 0) hx hb d_G_bestNumber_90 (by decide) ?_
              exact hret _ _ _ _ _ _ d_G_bestNumber_91 hP hS ⟨h, by rw [he]; rfl, hR⟩
            · exact absurd c4 (by omega)
          | succ u ihu =>
            intro hu he ls hl
            have hcl := cuF_le (svF N g f (nI (u + 1))) N
            refine lv_iload_n hx hb d_G_bestNumber_64 rfl (lv_at hl 2 rfl) ?_
            refine lv_iconst (v := nI 1) hx hb d_G_bestNumber_65 (by decide) ?_
            refine x_nc_lt (tgt := 90) hx hb d_G_bestNumber_66 (by decide) (by omega) (by omega) (fun c4 => ?_) (fun c4 => ?_)
            · exact absurd c4 (by omega)
            · refine lv_aload_n hx hb d_G_bestNumber_69 rfl (lv_at hl 0 rfl) ?_
              refine x_get (v := .ref (ad 11 0 0)) (C := R_G) (T := F_G) (N := 12) hx hb hg i_G hown hK hP (ga_0 hG) rfl 9 (by decide) (hg _ w_119) (fun _ h9 => h9) rfl d_G_bestNumber_70 ?_
              refine lv_iload_n hx hb d_G_bestNumber_73 rfl (lv_at hl 2 rfl) ?_
              refine x_iald (v := (upS g 11 0 0 h) 11 0 0 (u + 1)) hx hb hK hP 0 (ga_11 hG) rfl (vp_in_nI (by omega) (by omega)) (by rw [nI_clamp (by omega)]) d_G_bestNumber_74 ?_
              refine x_top (y := nI (cuF (svF N g f (nI (u + 1))) N)) (show (upS g 11 0 0 h) 11 0 0 (u + 1) = _ from r1 (u + 1) (by omega)) ?_
              refine lv_aload_n hx hb d_G_bestNumber_75 rfl (lv_at hl 0 rfl) ?_
              refine x_get (v := .int (nI K)) (C := R_G) (T := F_G) (N := 12) hx hb hg i_G hown hK hP (ga_0 hG) rfl 0 (by decide) (hg _ w_110) (fun _ h9 => h9) rfl d_G_bestNumber_76 ?_
              refine x_nc_lt (tgt := 84) hx hb d_G_bestNumber_79 (by decide) (by omega) (by omega) (fun c5 => ?_) (fun c5 => ?_)
              · refine lv_iinc (v := nI u) (lv' := [(2, .int (nI u)), (0, .ref (ad 0 0 0)), (1, .ref (ad 12 f 0))]) hx hb d_G_bestNumber_84 hl (k := 2) rfl (pk_m1 u) (by decide) rfl (fun ls hl => ?_)
                refine lv_goto (tgt := 64) hx hb d_G_bestNumber_87 (by decide) ?_
                exact ihu (by omega) (by rw [he, bdF, if_neg (Nat.not_le.mpr c5)]) ls (lv_sub hl [1, 2, 0] rfl)
              · refine lv_iload_n hx hb d_G_bestNumber_82 rfl (lv_at hl 2 rfl) ?_
                exact hret _ _ _ _ _ _ d_G_bestNumber_83 hP hS ⟨h, by rw [he, bdF, if_pos c5], hR⟩
        exact loop2 w (Nat.le_refl w) ebe ls (lv_sub hl [1, 2, 0] rfl)
      · refine lv_aload_n hx hb d_G_bestNumber_18 rfl (lv_at hl 0 rfl) ?_
        refine x_get (v := .ref (ad 1 0 0)) (C := R_G) (T := F_G) (N := 12) hx hb hg i_G hown hK hP (ga_0 hG) rfl 2 (by decide) (hg _ w_112) (fun _ h9 => h9) rfl d_G_bestNumber_19 ?_
        refine lv_iload_n hx hb d_G_bestNumber_22 rfl (lv_at hl 2 rfl) ?_
        refine x_zald (v := (upS g 11 0 0 h) 1 0 0 i) hx hb hK hP 1 (ga_1 hG) rfl (vp_in_nI (by omega) (by omega)) (by rw [nI_clamp (by omega)]) d_G_bestNumber_23 ?_
        refine lv_if_eq (tgt := 53) hx hb d_G_bestNumber_24 (by decide) (fun c2 => ?_) (fun c2 => ?_)
        · have c2 : g 1 0 0 i = 0 := c2
          have ecu : ∀ x, cuF (svF N g f x) (i + 1) = cuF (svF N g f x) i := fun x => by rw [cuF, if_pos (by rw [svF, if_pos c2])]
          refine lv_iinc (v := nI (i + 1)) (lv' := [(2, .int (nI (i + 1))), (0, .ref (ad 0 0 0)), (1, .ref (ad 12 f 0))]) hx hb d_G_bestNumber_53 hl (k := 2) rfl (nI_1 _) (by decide) rfl (fun ls hl => ?_)
          refine lv_goto (tgt := 10) hx hb d_G_bestNumber_56 (by decide) ?_
          exact ih (i + 1) h (by omega) (by omega) (fun j hj => by rw [ecu]; exact r1 j hj) _ _ _ hP hS hR ls (lv_sub hl [1, 2, 0] rfl)
        · have c2 : ¬ g 1 0 0 i = 0 := c2
          refine lv_aload_n hx hb d_G_bestNumber_27 rfl (lv_at hl 1 rfl) ?_
          refine lv_iload_n hx hb d_G_bestNumber_28 rfl (lv_at hl 2 rfl) ?_
          refine xvn_R (n := 1) (As := [.int (nI i)]) (rest := []) hx hb hml hown hg hK0 hP hN (c_F_isSoundAt l D T A _ ad K N (upS g 11 0 0 h) hz hG f i w (by omega) (by omega) (show (upS g 11 0 0 h) 12 f 0 1 = nI w from hw) hw30) w_249 w_3 e_246 w_248 s_11 (ga_12 hG (show f < 6 by omega)) rfl rfl (by decide +kernel) ⟨Nat.le_of_ble_eq_true rfl, Nat.le_of_ble_eq_true rfl⟩ rfl hl.1 rfl (Nat.le_of_ble_eq_true rfl) ⟨Nat.zero_le _, Nat.zero_le _⟩ rfl rfl d_G_bestNumber_29 (fun r hr => ?_)
          subst hr
          refine x_fr (pc := 32) [.int (sdG N (upS g 11 0 0 h) f i)] rfl rfl ?_
          refine lv_if_eq (tgt := 53) hx hb d_G_bestNumber_32 (by decide) (fun c3 => ?_) (fun c3 => ?_)
          · have c3 : sdG N g f i = 0 := c3
            have ecu : ∀ x, cuF (svF N g f x) (i + 1) = cuF (svF N g f x) i := fun x => by rw [cuF, if_pos (by rw [svF, if_neg c2, if_pos c3])]
            refine lv_iinc (v := nI (i + 1)) (lv' := [(2, .int (nI (i + 1))), (0, .ref (ad 0 0 0)), (1, .ref (ad 12 f 0))]) hx hb d_G_bestNumber_53 hl (k := 2) rfl (nI_1 _) (by decide) rfl (fun ls hl => ?_)
            refine lv_goto (tgt := 10) hx hb d_G_bestNumber_56 (by decide) ?_
            exact ih (i + 1) h (by omega) (by omega) (fun j hj => by rw [ecu]; exact r1 j hj) _ _ _ hP hS hR ls (lv_sub hl [1, 2, 0] rfl)
          · have c3 : ¬ sdG N g f i = 0 := c3
            obtain ⟨q1, q2⟩ := sdF_num c3
            rw [hw] at q2
            obtain ⟨j0, hj1, hj2, hj0⟩ := ixw hw30 q1 q2
            refine lv_aload_n hx hb d_G_bestNumber_35 rfl (lv_at hl 0 rfl) ?_
            refine x_get (v := .ref (ad 11 0 0)) (C := R_G) (T := F_G) (N := 12) hx hb hg i_G hown hK hP (ga_0 hG) rfl 9 (by decide) (hg _ w_119) (fun _ h9 => h9) rfl d_G_bestNumber_36 ?_
            refine lv_aload_n hx hb d_G_bestNumber_39 rfl (lv_at hl 1 rfl) ?_
            refine x_getN (v := .ref (ad 13 f 0)) (C := R_F) (T := F_F) (N := 6) hx hb hg i_F hown hK hP (ga_12 hG (show f < 6 by omega)) rfl 0 (by decide) (va_Nw.use rfl (hN _ e_69)) (fun _ h9 => h9) rfl d_G_bestNumber_40 ?_
            refine lv_iload_n hx hb d_G_bestNumber_43 rfl (lv_at hl 2 rfl) ?_
            refine x_aldq (v := .ref (ad 17 f i)) hx hb hK hP 2 (ga_13 hG (show f < 6 by omega)) rfl (vp_in_nI (by omega) (by omega)) (by rw [nI_clamp (by omega)]; rfl) d_G_bestNumber_44 ?_
            refine x_getN (v := .int ((upS g 11 0 0 h) 17 f i 2)) (C := R_R) (T := F_R) (N := 5) hx hb hg i_R hown hK hP (ga_17 hG (show f < 6 by omega) (show i < N by omega)) rfl 3 (by decide) (va_Nw.use rfl (hN _ e_51)) (fun _ h9 => h9) rfl d_G_bestNumber_45 ?_
            refine x_top (y := nI j0) (show (upS g 11 0 0 h) 17 f i 2 = nI j0 from hj0) ?_
            refine lv_dup2_11 hx hb d_G_bestNumber_48 rfl rfl ?_
            refine x_iald (v := (upS g 11 0 0 h) 11 0 0 j0) hx hb hK hP 0 (ga_11 hG) rfl (vp_in_nI (by omega) (by omega)) (by rw [nI_clamp (by omega)]) d_G_bestNumber_49 ?_
            refine x_top (y := nI (cuF (svF N g f (nI j0)) i)) (show (upS g 11 0 0 h) 11 0 0 j0 = _ from r1 j0 (by omega)) ?_
            refine lv_iconst (v := nI 1) hx hb d_G_bestNumber_50 (by decide) ?_
            refine lv_iadd hx hb d_G_bestNumber_51 ?_
            refine x_top (y := nI ((cuF (svF N g f (nI j0)) i) + 1)) (nI_add _ _) ?_
            refine x_iast hx hb hK hP hS 0 (ga_11 hG) rfl (vp_in_nI (by omega) (by omega)) d_G_bestNumber_52 (fun H_99 L_100 hP hS => ?_)
            rw [nI_clamp (by omega)] at hP
            obtain ⟨g_101, hg_101⟩ : ∃ z, z = upS (upS g 11 0 0 h) 11 0 0 (upd ((upS g 11 0 0 h) 11 0 0) j0 (nI ((cuF (svF N g f (nI j0)) i) + 1))) := ⟨_, rfl⟩
            obtain ⟨M_102, hP, hR⟩ : ∃ z, xW D classes A z H_99 ∧ gR T ad K N M g_101 z := ⟨_, hP, by rw [hg_101]; exact hR.set (Or.inl ⟨by omega, rfl, rfl⟩) rfl⟩
            have hG := hR.1
            have hR : gR T ad K N M (upS g 11 0 0 (upd h j0 (nI (cuF (svF N g f (nI j0)) i + 1)))) M_102 := by rw [hg_101, upS_uu, upS_s] at hR; exact hR
            refine lv_iinc (v := nI (i + 1)) (lv' := [(2, .int (nI (i + 1))), (0, .ref (ad 0 0 0)), (1, .ref (ad 12 f 0))]) hx hb d_G_bestNumber_53 hl (k := 2) rfl (nI_1 _) (by decide) rfl (fun ls hl => ?_)
            refine lv_goto (tgt := 10) hx hb d_G_bestNumber_56 (by decide) ?_
            refine ih (i + 1) _ (by omega) (by omega) (fun j hj => ?_) _ _ _ hP hS hR ls (lv_sub hl [1, 2, 0] rfl)
            by_cases hjj : j = j0
            · subst hjj; rw [upd_s, cuF, if_neg (by rw [svF, if_neg c2, if_neg c3, if_pos hj0]; decide)]
            · rw [upd_n hjj, cuF, if_pos (by rw [svF, if_neg c2, if_neg c3, if_neg (fun z => hjj ((nI_eq (by omega) (by omega)).mp (z.symm.trans hj0)))])]; exact r1 j hj
  rw [hg_97] at hR
  exact loop (N + 1) 0 _ (by omega) (by omega) (fun j hj => rfl) _ _ _ hP hS hR ls (lv_sub hl [1, 2, 0] rfl)
theorem upS_id {g : gT} {k f s : Nat} : upS g k f s (g k f s) = g := by
  funext k1 f1 s1
  by_cases q : k1 = k ∧ f1 = f ∧ s1 = s
  · obtain ⟨rfl, rfl, rfl⟩ := q; rw [upS_s]
  · rw [upS_n q]
set_option maxHeartbeats 4000000 in
set_option maxRecDepth 100000 in
theorem c_G_best (l : Launch) (D : va_G) (T : Nat → ClassId) (A : Nat → Prop) (M : xM) (ad : Nat → Nat → Nat → Nat) (K N : Nat) (g : gT) (hz : zB K N) (hG : gG T ad K N g M) (q : Nat) (w : Nat → Nat) (hI : iG N g q w) (x : Int32) : Met l y_G_best (Cond.code y_G_best b_G_best 3 (some .int) :: gw) (rmH 4) (xPc D T A M [.ref (ad 0 0 0), .int x]) (xQ D A (fun r M1 => ∃ h, r = some (.int (aBest K N g q x)) ∧ gR T ad K N M (upS g 11 0 0 h) M1)) 0 0 A := by
  refine xMetQi (by decide) (Nat.le_of_ble_eq_true rfl) ?_
  intro p e s m below meth c Q ls hB hP hS hl hret
  obtain ⟨hx, hb, hml, hown, hg, hK0, hnm⟩ := hB
  have hown : s.vm.findClass "ShareGrid" = some m.cls := hown
  have hK := hK0.1
  have hN := hK0.2.1
  obtain ⟨hz1, hz4, hzn, hz7⟩ := id hz
  have hR := hG.rf
  obtain ⟨hq, hq6, hwr, hbo⟩ := id hI
  have hl : lv_has ls 3 [(0, .ref (ad 0 0 0)), (1, .int x)] := hl
  refine lv_aload_n hx hb d_G_best_0 rfl (lv_at hl 0 rfl) ?_
  refine lv_iload_n hx hb d_G_best_1 rfl (lv_at hl 1 rfl) ?_
  refine xv_R (n := 1) (As := [.int x]) (rest := []) hx hb hml hown hg hK0 hP (c_G_fileUnder l D T A _ ad K N g hz hG q hq hq6 x) w_169 w_1 w_166 w_168 s_0 (ga_0 hG) rfl rfl (by decide +kernel) ⟨Nat.le_of_ble_eq_true rfl, Nat.le_of_ble_eq_true rfl⟩ rfl hl.1 rfl (Nat.le_of_ble_eq_true rfl) ⟨Nat.zero_le _, Nat.zero_le _⟩ rfl rfl d_G_best_2 (fun r hr => ?_)
  subst hr
  refine x_fr (pc := 5) [.int (fdF (fun f => g 12 f 0 0) x 0 q)] rfl rfl ?_
  refine lv_istore_n (lv' := [(2, .int (fdF (fun f => g 12 f 0 0) x 0 q)), (0, .ref (ad 0 0 0)), (1, .int x)]) hx hb d_G_best_5 rfl hl (by decide) rfl (fun ls hl => ?_)
  refine lv_iload_n hx hb d_G_best_6 rfl (lv_at hl 0 rfl) ?_
  refine lv_if_ge (tgt := 12) hx hb d_G_best_7 (by decide) (fun c7 => ?_) (fun c7 => ?_)
  · have c7 : 0 ≤ fuF g q x := c7
    obtain ⟨f, hf, hfe⟩ := fuF_ge (g := g) (q := q) (x := x) c7
    have hfe2 : (fdF (fun f => g 12 f 0 0) x 0 q) = nI f := hfe
    rw [hfe2] at hl
    have ef : (fuF g q x).toNatClampNeg = f := by rw [hfe, nI_clamp (by omega)]
    refine lv_aload_n hx hb d_G_best_12 rfl (lv_at hl 1 rfl) ?_
    refine lv_aload_n hx hb d_G_best_13 rfl (lv_at hl 1 rfl) ?_
    refine x_get (v := .ref (ad 3 0 0)) (C := R_G) (T := F_G) (N := 12) hx hb hg i_G hown hK hP (ga_0 hG) rfl 4 (by decide) (hg _ w_114) (fun _ h9 => h9) rfl d_G_best_14 ?_
    refine lv_iload_n hx hb d_G_best_17 rfl (lv_at hl 0 rfl) ?_
    refine x_aldq (v := .ref (ad 12 f 0)) hx hb hK hP 3 (ga_3 hG) rfl (vp_in_nI (by omega) (by omega)) (by rw [nI_clamp (by omega)]; rfl) d_G_best_18 ?_
    refine xv_Q (n := 1) (As := [.ref (ad 12 f 0)]) (rest := []) hx hb hml hown hg hK0 hP (c_G_bestNumber l D T A _ ad K N g hz hG f (w f) (by omega) (hwr f (by omega)).1 (hwr f (by omega)).2) w_242 w_1 w_239 w_241 s_10 (ga_0 hG) rfl rfl (by decide +kernel) ⟨Nat.le_of_ble_eq_true rfl, Nat.le_of_ble_eq_true rfl⟩ rfl hl.1 rfl (Nat.le_of_ble_eq_true rfl) hS ⟨Nat.zero_le _, Nat.zero_le _⟩ rfl rfl d_G_best_19 (fun r M1 H_103 L_104 hr hP hS => ?_)
    obtain ⟨h11, rfl, hR1⟩ := hr
    obtain ⟨g_105, hg_105⟩ : ∃ z, z = upS g 11 0 0 h11 := ⟨_, rfl⟩
    rw [← hg_105] at hR1
    have hR := hR.tr hR1
    have hG := hR.1
    refine x_fr (pc := 22) [.int (nI (beF K N g f))] rfl rfl ?_
    exact hret _ _ _ _ _ _ d_G_best_22 hP hS ⟨h11, by rw [aBest, if_pos c7, ef], by rw [hg_105] at hR; exact hR⟩
  · have c7 : ¬ 0 ≤ fuF g q x := c7
    refine lv_iconst (v := (-1)) hx hb d_G_best_10 (by decide) ?_
    exact hret _ _ _ _ _ _ d_G_best_11 hP hS ⟨g 11 0 0, by rw [aBest, if_neg c7], by rw [upS_id]; exact hR⟩
