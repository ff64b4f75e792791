set_option maxHeartbeats 4000000 in
set_option maxRecDepth 100000 in
theorem law_loop {p : Program} {l : Launch} {e : Env} {s : State} {m : MethodId} {below : List Frame} {meth : Method} {c : Code} {b L : Nat} {xs : Nat → Int32} {D : va_G} {T : Nat → ClassId} {ad : Nat → Nat → Nat → Nat} {bd : Nat → Nat} {K N : Nat} (hL : L ≤ 2562) (C0 : lw_At p s m meth c b L xs) (hK0 : xK D T s) (hz : zB K N) (hd : dA ad bd N) : ∀ (n i : Nat), L + 10 < i + n → i ≤ L + 5 → lC p l e s m below meth c b D T ad bd K N i 38 := by
  intro n
  induction n with
  | zero =>
    intro i hi hi2
    exact absurd hi (by omega)
  | succ n ih =>
    intro i hi hi2 Mx Hx Lx hI0 ls hl
    obtain ⟨hx, hb, hr, hml, hown, hts, hX, hbl, hlocks, -⟩ := id C0
    have hbA : ¬ lA s b := Nat.not_le.mpr hbl
    obtain ⟨g, q, c0, w, hP, hS, hG, hM, hs, hI⟩ := hI0
    refine lv_iload_n hx hb d_L_law_38 rfl (lv_at hl 3 rfl) ?_
    refine lv_aload_n hx hb d_L_law_39 rfl (lv_at hl 0 rfl) ?_
    refine va_slen hx hb hX hbl hbA hS d_L_law_40 ?_
    refine x_top (y := nI L) rfl ?_
    refine lv_iconst (v := nI 5) hx hb d_L_law_41 (by decide) ?_
    refine lv_isub hx hb d_L_law_42 ?_
    refine lv_icmp_gt (tgt := 697) hx hb d_L_law_43 (by decide) (fun hc => ?_) (fun hc => ?_)
    · refine lv_iconst (v := 1) hx hb d_L_law_697 (by decide) ?_
      refine va_forget (fun q hq => hS.2.2 q hq) ?_
      refine W.widen (k := 600000) (n := 7302250) (by omega) (by omega) ?_
      exact lw_ret hx hb hr hlocks d_L_law_698
    · have hle : i + 5 ≤ L := by
        rw [Int32.lt_iff_toInt_lt, pk_sub_toInt (by omega) (by omega), nI_toInt (by omega)] at hc
        omega
      have kk : lC p l e s m below meth c b D T ad bd K N i 691 := by
        intro Mx Hx Lx hI0 ls hl
        refine lv_iinc (v := nI (i + 5)) (lv' := [(3, .int (nI (i + 5))), (0, .ref b), (1, .ref (ad 0 0 0)), (2, .ref (bd 0))]) hx hb d_L_law_691 hl (k := 3) rfl (nI_add _ _) (by decide) rfl (fun ls hl => ?_)
        refine lv_goto (tgt := 38) hx hb d_L_law_694 (by decide) ?_
        exact ih (i + 5) (by omega) (by omega) _ _ _ hI0 ls (lv_sub hl [1, 2, 3, 0] rfl)
      refine lv_aload_n hx hb d_L_law_46 rfl (lv_at hl 0 rfl) ?_
      refine lv_iload_n hx hb d_L_law_47 rfl (lv_at hl 3 rfl) ?_
      refine va_sld hx hb hX hbl hbA hS (vp_in_nI (by omega) (by omega)) d_L_law_48 ?_
      refine x_top (y := xs i) (by rw [nI_clamp (by omega)]) ?_
      refine lv_bipush (v := nI 31) hx hb d_L_law_49 (by decide) ?_
      refine lv_iand hx hb d_L_law_51 ?_
      by_cases s0 : ((xs i) &&& (nI 31)) = 0
      · refine lv_tableIn (off := 84) (tgt := 136) hx hb d_L_law_52 (by rw [s0]; decide) (by rw [s0]; decide) (by rw [s0]; rfl) (by decide) ?_
        exact lc_key hL C0 hK0 hz hd hle kk _ _ _ ⟨g, q, c0, w, hP, hS, hG, hM, hs, hI⟩ ls hl
      · by_cases s1 : ((xs i) &&& (nI 31)) = 1
        · refine lv_tableIn (off := 117) (tgt := 169) hx hb d_L_law_52 (by rw [s1]; decide) (by rw [s1]; decide) (by rw [s1]; rfl) (by decide) ?_
          exact lc_create hL C0 hK0 hz hd hle kk _ _ _ ⟨g, q, c0, w, hP, hS, hG, hM, hs, hI⟩ ls hl
        · by_cases s2 : ((xs i) &&& (nI 31)) = 2
          · refine lv_tableIn (off := 140) (tgt := 192) hx hb d_L_law_52 (by rw [s2]; decide) (by rw [s2]; decide) (by rw [s2]; rfl) (by decide) ?_
            exact lc_draft hL C0 hK0 hz hd hle kk _ _ _ ⟨g, q, c0, w, hP, hS, hG, hM, hs, hI⟩ ls hl
          · by_cases s3 : ((xs i) &&& (nI 31)) = 3
            · refine lv_tableIn (off := 173) (tgt := 225) hx hb d_L_law_52 (by rw [s3]; decide) (by rw [s3]; decide) (by rw [s3]; rfl) (by decide) ?_
              exact lc_write hL C0 hK0 hz hd hle kk _ _ _ ⟨g, q, c0, w, hP, hS, hG, hM, hs, hI⟩ ls hl
            · by_cases s4 : ((xs i) &&& (nI 31)) = 4
              · refine lv_tableIn (off := 196) (tgt := 248) hx hb d_L_law_52 (by rw [s4]; decide) (by rw [s4]; decide) (by rw [s4]; rfl) (by decide) ?_
                exact lc_read hL C0 hK0 hz hd hle kk _ _ _ ⟨g, q, c0, w, hP, hS, hG, hM, hs, hI⟩ ls hl
              · by_cases s5 : ((xs i) &&& (nI 31)) = 5
                · refine lv_tableIn (off := 219) (tgt := 271) hx hb d_L_law_52 (by rw [s5]; decide) (by rw [s5]; decide) (by rw [s5]; rfl) (by decide) ?_
                  exact lc_word hL C0 hK0 hz hd hle kk _ _ _ ⟨g, q, c0, w, hP, hS, hG, hM, hs, hI⟩ ls hl
                · by_cases s6 : ((xs i) &&& (nI 31)) = 6
                  · refine lv_tableIn (off := 243) (tgt := 295) hx hb d_L_law_52 (by rw [s6]; decide) (by rw [s6]; decide) (by rw [s6]; rfl) (by decide) ?_
                    exact lc_sound hL C0 hK0 hz hd hle kk _ _ _ ⟨g, q, c0, w, hP, hS, hG, hM, hs, hI⟩ ls hl
                  · by_cases s7 : ((xs i) &&& (nI 31)) = 7
                    · refine lv_tableIn (off := 266) (tgt := 318) hx hb d_L_law_52 (by rw [s7]; decide) (by rw [s7]; decide) (by rw [s7]; rfl) (by decide) ?_
                      exact lc_best hL C0 hK0 hz hd hle kk _ _ _ ⟨g, q, c0, w, hP, hS, hG, hM, hs, hI⟩ ls hl
                    · by_cases s8 : ((xs i) &&& (nI 31)) = 8
                      · refine lv_tableIn (off := 289) (tgt := 341) hx hb d_L_law_52 (by rw [s8]; decide) (by rw [s8]; decide) (by rw [s8]; rfl) (by decide) ?_
                        exact lc_repair hL C0 hK0 hz hd hle kk _ _ _ ⟨g, q, c0, w, hP, hS, hG, hM, hs, hI⟩ ls hl
                      · by_cases s9 : ((xs i) &&& (nI 31)) = 9
                        · refine lv_tableIn (off := 312) (tgt := 364) hx hb d_L_law_52 (by rw [s9]; decide) (by rw [s9]; decide) (by rw [s9]; rfl) (by decide) ?_
                          exact lc_server hL C0 hK0 hz hd hle kk _ _ _ ⟨g, q, c0, w, hP, hS, hG, hM, hs, hI⟩ ls hl
                        · by_cases s10 : ((xs i) &&& (nI 31)) = 10
                          · refine lv_tableIn (off := 387) (tgt := 439) hx hb d_L_law_52 (by rw [s10]; decide) (by rw [s10]; decide) (by rw [s10]; rfl) (by decide) ?_
                            exact lc_tamper hL C0 hK0 hz hd hle kk _ _ _ ⟨g, q, c0, w, hP, hS, hG, hM, hs, hI⟩ ls hl
                          · by_cases s11 : ((xs i) &&& (nI 31)) = 11
                            · refine lv_tableIn (off := 440) (tgt := 492) hx hb d_L_law_52 (by rw [s11]; decide) (by rw [s11]; decide) (by rw [s11]; rfl) (by decide) ?_
                              exact lc_picture hL C0 hK0 hz hd hle kk _ _ _ ⟨g, q, c0, w, hP, hS, hG, hM, hs, hI⟩ ls hl
                            · by_cases s12 : ((xs i) &&& (nI 31)) = 12
                              · refine lv_tableIn (off := 473) (tgt := 525) hx hb d_L_law_52 (by rw [s12]; decide) (by rw [s12]; decide) (by rw [s12]; rfl) (by decide) ?_
                                exact lc_fallBack hL C0 hK0 hz hd hle kk _ _ _ ⟨g, q, c0, w, hP, hS, hG, hM, hs, hI⟩ ls hl
                              · by_cases s13 : ((xs i) &&& (nI 31)) = 13
                                · refine lv_tableIn (off := 506) (tgt := 558) hx hb d_L_law_52 (by rw [s13]; decide) (by rw [s13]; decide) (by rw [s13]; rfl) (by decide) ?_
                                  exact lc_wipe hL C0 hK0 hz hd hle kk _ _ _ ⟨g, q, c0, w, hP, hS, hG, hM, hs, hI⟩ ls hl
                                · by_cases s14 : ((xs i) &&& (nI 31)) = 14
                                  · refine lv_tableIn (off := 539) (tgt := 591) hx hb d_L_law_52 (by rw [s14]; decide) (by rw [s14]; decide) (by rw [s14]; rfl) (by decide) ?_
                                    exact lc_share hL C0 hK0 hz hd hle kk _ _ _ ⟨g, q, c0, w, hP, hS, hG, hM, hs, hI⟩ ls hl
                                  · by_cases s15 : ((xs i) &&& (nI 31)) = 15
                                    · refine lv_tableIn (off := 583) (tgt := 635) hx hb d_L_law_52 (by rw [s15]; decide) (by rw [s15]; decide) (by rw [s15]; rfl) (by decide) ?_
                                      exact lc_times hL C0 hK0 hz hd hle kk _ _ _ ⟨g, q, c0, w, hP, hS, hG, hM, hs, hI⟩ ls hl
                                    · by_cases s16 : ((xs i) &&& (nI 31)) = 16
                                      · refine lv_tableIn (off := 616) (tgt := 668) hx hb d_L_law_52 (by rw [s16]; decide) (by rw [s16]; decide) (by rw [s16]; rfl) (by decide) ?_
                                        exact lc_count hL C0 hK0 hz hd hle kk _ _ _ ⟨g, q, c0, w, hP, hS, hG, hM, hs, hI⟩ ls hl
                                      · have hout : (((xs i) &&& (nI 31))).toInt < 0 ∨ 16 < (((xs i) &&& (nI 31))).toInt := by
                                          have q0 := lv_neT s0 (a := 0) (by decide)
                                          have q1 := lv_neT s1 (a := 1) (by decide)
                                          have q2 := lv_neT s2 (a := 2) (by decide)
                                          have q3 := lv_neT s3 (a := 3) (by decide)
                                          have q4 := lv_neT s4 (a := 4) (by decide)
                                          have q5 := lv_neT s5 (a := 5) (by decide)
                                          have q6 := lv_neT s6 (a := 6) (by decide)
                                          have q7 := lv_neT s7 (a := 7) (by decide)
                                          have q8 := lv_neT s8 (a := 8) (by decide)
                                          have q9 := lv_neT s9 (a := 9) (by decide)
                                          have q10 := lv_neT s10 (a := 10) (by decide)
                                          have q11 := lv_neT s11 (a := 11) (by decide)
                                          have q12 := lv_neT s12 (a := 12) (by decide)
                                          have q13 := lv_neT s13 (a := 13) (by decide)
                                          have q14 := lv_neT s14 (a := 14) (by decide)
                                          have q15 := lv_neT s15 (a := 15) (by decide)
                                          have q16 := lv_neT s16 (a := 16) (by decide)
                                          omega
                                        refine lv_tableOut (tgt := 691) hx hb d_L_law_52 hout (by decide) ?_
                                        exact kk _ _ _ ⟨g, q, c0, w, hP, hS, hG, hM, hs, hI⟩ ls hl
theorem xN_tbl : ∀ w ∈ xN, w ∈ lw_tbl := by decide +kernel
set_option maxHeartbeats 4000000 in
set_option maxRecDepth 100000 in
theorem whole_start {p : Program} {e : Env} {s : State} {m : MethodId} {below : List Frame} {meth : Method} {c : Code} (l : Launch) {b L : Nat} {xs : Nat → Int32} (hL : L ≤ 2562) (C0 : lw_At p s m meth c b L xs) : W p l e room_1 s m #[Value.ref b] below meth c s.heap [] 0 0 (lw_Z below #[Value.ref b] s) (entryFrame m ([Value.ref b] : List Value).toArray 4) := by
  obtain ⟨hx, hb, hr, hml, hown, hts, hX, hbl, hlocks, hgv⟩ := id C0
  have hown : s.vm.findClass "ShareGridLaw" = some m.cls := hown
  have hg : ∀ w ∈ gw, w.before #[Value.ref b] s = true := fun w hw => hts w (List.mem_filter.mp hw).1
  have hA : ∀ q : Nat, s.heap.size ≤ q → lA s q := fun _ h => h
  have hbA : ¬ lA s b := Nat.not_le.mpr hbl
  obtain ⟨cC, iC, hKnC⟩ := u_known (C := R_C) (T := F_C) (N := 3) (n := 3) hg i_C (hg _ w_91)
  obtain ⟨cR, iR, hKnR⟩ := u_known (C := R_R) (T := F_R) (N := 5) (n := 5) hg i_R (hg _ w_35)
  obtain ⟨cF, iF, hKnF⟩ := u_known (C := R_F) (T := F_F) (N := 6) (n := 6) hg i_F (hg _ w_28)
  obtain ⟨cG, iG, hKnG⟩ := u_known (C := R_G) (T := F_G) (N := 12) (n := 12) hg i_G (hg _ w_10)
  obtain ⟨cM, iM, hKnM⟩ := u_known (C := R_M) (T := F_M) (N := 17) (n := 17) hg i_M (hg _ w_349)
  obtain ⟨dC, dI, hKc⟩ : ∃ (dC : Nat → ClassId) (dI : Nat → Nat → Nat), ∀ (k : Nat) (q : vw_C), classes[k]? = some q → u_Kn s q.1 q.2.1 q.2.2 (dC k) (dI k) := by
    refine ⟨fun k => if k = 0 then cC else if k = 1 then cR else if k = 2 then cF else if k = 3 then cG else cM, fun k => if k = 0 then iC else if k = 1 then iR else if k = 2 then iF else if k = 3 then iG else iM, ?_⟩
    intro k q hq
    match k, hq with
    | 0, hq => cases hq; exact hKnC
    | 1, hq => cases hq; exact hKnR
    | 2, hq => cases hq; exact hKnF
    | 3, hq => cases hq; exact hKnG
    | 4, hq => cases hq; exact hKnM
    | k + 5, hq => simp [classes] at hq
  obtain ⟨t0, k0, p0, f0, g0, e0⟩ := Cond.arrayClass_spec (hg _ w_67)
  obtain ⟨t1, k1, p1, f1, g1, e1⟩ := Cond.arrayClass_spec (hg _ w_66)
  have hO2 : va_AO "ShareGrid$ServerRecord" s := va_AO.of (hts (.arrayOver (.object "ShareGrid$ServerRecord")) (by decide +kernel))
  have hO3 : va_AO "ShareGrid$StoredFile" s := va_AO.of (hts (.arrayOver (.object "ShareGrid$StoredFile")) (by decide +kernel))
  obtain ⟨p2, t2, k2, f2, -, g2, e2, n2⟩ := Cond.arrayOver_spec hO2
  obtain ⟨p3, t3, k3, f3, -, g3, e3, n3⟩ := Cond.arrayOver_spec hO3
  obtain ⟨T, hT⟩ : ∃ T : Nat → ClassId, va_K (dC, dI) classes (tyT T) s := by
    refine ⟨fun k => if k = 0 then t0 else if k = 1 then t1 else if k = 2 then t2 else t3, hKc, ?_⟩
    intro k q hq
    match k, hq with
    | 0, hq => cases hq; exact ⟨fun n z => ⟨fun k h => (by cases h), k0, g0, p0, e0⟩, f0⟩
    | 1, hq => cases hq; exact ⟨fun n z => ⟨fun k h => (by cases h), k1, g1, p1, e1⟩, f1⟩
    | 2, hq => cases hq; exact ⟨fun n z => ⟨fun k h => (by cases h), k2, g2, p2, e2⟩, k2, p2, g2, e2, f2, n2⟩
    | 3, hq => cases hq; exact ⟨fun n z => ⟨fun k h => (by cases h), k3, g3, p3, e3⟩, k3, p3, g3, e3, f3, n3⟩
    | k + 4, hq => simp [tyT] at hq
  obtain ⟨D, hD⟩ : ∃ D : va_G, D = (dC, dI) := ⟨_, rfl⟩
  rw [← hD] at hT
  have hK0 : xK D T s := by
    refine ⟨hT, fun w hw => va_Nw.of (xIsN_tab (xN_ok w hw)) (hts w (xN_tbl w hw)), fun C hC => ?_⟩
    rcases List.mem_cons.mp hC with rfl | hC
    · exact hO2
    · rcases List.mem_cons.mp hC with rfl | hC
      · exact hO3
      · cases hC
  have hK := hK0.1
  have hN := hK0.2.1
  have hP : xW D classes (lA s) (fun _ => none) s.heap := ⟨[], fun k q h => by simp at h, ⟨fun i j p q h => by simp at h, fun k q h => by simp at h⟩, fun a e => by simp⟩
  have hS : va_S (lA s) s.heap s.heap [] := va_S.rf
  obtain ⟨v0, hv0⟩ : ∃ z : Int32, (if 0 < L then xs 0 else 0) = z := ⟨_, rfl⟩
  obtain ⟨v1, hv1⟩ : ∃ z : Int32, (if 1 < L then xs 1 else 0) = z := ⟨_, rfl⟩
  obtain ⟨K, N, hz, hKx, hNx⟩ := clF_KN v0 v1
  have hl := lv_entry ([.ref b]) (n := 4) (Nat.le_of_ble_eq_true rfl)
  rw [lg_entry_eq]
  generalize (lg_sl ([.ref b]) ++ List.replicate (4 - (lg_sl ([.ref b])).length) Slot.unset).toArray = ls at hl ⊢
  have hl : lv_has ls 4 [(0, .ref b)] := hl
  refine x_new (ci := 3) (fs := [.int 0, .int 0, .null, .null, .null, .null, .null, .null, .null, .null, .int 0, .int 0]) (C := R_G) (T := F_G) (N := 12) hx hb hg i_G t_G t_G_ok hown (hg _ w_9) (hg _ w_10) (hg _ w_1) hK hP hS hA rfl (fun j hj => by rcases (show j = 0 ∨ j = 1 ∨ j = 2 ∨ j = 3 ∨ j = 4 ∨ j = 5 ∨ j = 6 ∨ j = 7 ∨ j = 8 ∨ j = 9 ∨ j = 10 ∨ j = 11 by omega) with rfl | rfl | rfl | rfl | rfl | rfl | rfl | rfl | rfl | rfl | rfl | rfl <;> rfl) (Nat.le_of_ble_eq_true rfl) (Nat.le_of_ble_eq_true rfl) d_L_law_0 (fun q1 H_449 hq1 hP hS => ?_)
  refine lv_dup hx hb d_L_law_3 rfl ?_
  refine lv_aload_n hx hb d_L_law_4 rfl (lv_at hl 0 rfl) ?_
  refine lv_iconst (v := nI 0) hx hb d_L_law_5 (by decide) ?_
  refine xs_X (n := 2) (As := [.ref b, .int (nI 0)]) (rest := [.ref q1, .ref q1]) hx hb hml hown hg (hX.kept (hS.2.1 b hbl hbA)) (c_L_cell l b L xs 0 (by decide) (by omega)) w_347 w_0 w_345 w_346 (by decide +kernel) ⟨(Nat.le_of_ble_eq_true rfl), (Nat.le_of_ble_eq_true rfl)⟩ rfl hl.1 rfl (Nat.le_of_ble_eq_true rfl) ⟨(Nat.le_of_ble_eq_true rfl), (Nat.le_of_ble_eq_true rfl)⟩ rfl rfl d_L_law_6 (fun r hr => ?_)
  subst hr
  rw [hv0]
  refine x_fr (pc := 9) [.int v0, .ref q1, .ref q1] rfl rfl ?_
  refine lv_aload_n hx hb d_L_law_9 rfl (lv_at hl 0 rfl) ?_
  refine lv_iconst (v := nI 1) hx hb d_L_law_10 (by decide) ?_
  refine xs_X (n := 2) (As := [.ref b, .int (nI 1)]) (rest := [.int v0, .ref q1, .ref q1]) hx hb hml hown hg (hX.kept (hS.2.1 b hbl hbA)) (c_L_cell l b L xs 1 (by decide) (by omega)) w_347 w_0 w_345 w_346 (by decide +kernel) ⟨(Nat.le_of_ble_eq_true rfl), (Nat.le_of_ble_eq_true rfl)⟩ rfl hl.1 rfl (Nat.le_of_ble_eq_true rfl) ⟨(Nat.le_of_ble_eq_true rfl), (Nat.le_of_ble_eq_true rfl)⟩ rfl rfl d_L_law_11 (fun r hr => ?_)
  subst hr
  rw [hv1]
  refine x_fr (pc := 14) [.int v1, .int v0, .ref q1, .ref q1] rfl rfl ?_
  refine xi_N (n := 2) (As := [.int v0, .int v1]) (rest := [.ref q1]) hx hb hml hown hg hK0 hP (c_G_init l D T (lA s) _ _ (fun q hq => hA q (Nat.le_trans hS.1 hq)) q1 K N v0 v1 hz hKx hNx xU_s) w_13 w_1 w_11 w_12 rfl (by decide +kernel) ⟨Nat.le_of_ble_eq_true rfl, Nat.le_of_ble_eq_true rfl⟩ rfl hl.1 rfl (Nat.le_of_ble_eq_true rfl) hS ⟨Nat.le_of_ble_eq_true rfl, Nat.le_of_ble_eq_true rfl⟩ rfl rfl d_L_law_14 (fun r M1 H_450 L_451 hr hP hS => ?_)
  obtain ⟨rfl, ad, hB, ha0, hB0⟩ := hr
  have hG := gG_of hB ha0 hB0
  refine x_fr (pc := 17) [.ref q1] rfl rfl ?_
  refine lv_astore_n (lv' := [(1, .ref q1), (0, .ref b)]) hx hb d_L_law_17 rfl hl (by decide) rfl (fun ls hl => ?_)
  refine x_new (ci := 4) (fs := [.int 0, .int 0, .null, .null, .null, .null, .int 0, .null, .null, .null, .null, .null, .null, .int 0, .null, .null, .null]) (C := R_M) (T := F_M) (N := 17) hx hb hg i_M t_M t_M_ok hown (hg _ w_348) (hg _ w_349) (hg _ w_6) hK hP hS hA rfl (fun j hj => by rcases (show j = 0 ∨ j = 1 ∨ j = 2 ∨ j = 3 ∨ j = 4 ∨ j = 5 ∨ j = 6 ∨ j = 7 ∨ j = 8 ∨ j = 9 ∨ j = 10 ∨ j = 11 ∨ j = 12 ∨ j = 13 ∨ j = 14 ∨ j = 15 ∨ j = 16 by omega) with rfl | rfl | rfl | rfl | rfl | rfl | rfl | rfl | rfl | rfl | rfl | rfl | rfl | rfl | rfl | rfl | rfl <;> rfl) (Nat.le_of_ble_eq_true rfl) (Nat.le_of_ble_eq_true rfl) d_L_law_18 (fun q2 H_452 hq2 hP hS => ?_)
  refine lv_dup hx hb d_L_law_21 rfl ?_
  refine lv_aload_n hx hb d_L_law_22 rfl (lv_at hl 1 rfl) ?_
  refine lv_iconst (v := nI 0) hx hb d_L_law_23 (by decide) ?_
  refine xs_X (n := 2) (As := [.ref b, .int (nI 0)]) (rest := [.ref q2, .ref q2]) hx hb hml hown hg (hX.kept (hS.2.1 b hbl hbA)) (c_L_cell l b L xs 0 (by decide) (by omega)) w_347 w_0 w_345 w_346 (by decide +kernel) ⟨(Nat.le_of_ble_eq_true rfl), (Nat.le_of_ble_eq_true rfl)⟩ rfl hl.1 rfl (Nat.le_of_ble_eq_true rfl) ⟨(Nat.le_of_ble_eq_true rfl), (Nat.le_of_ble_eq_true rfl)⟩ rfl rfl d_L_law_24 (fun r hr => ?_)
  subst hr
  rw [hv0]
  refine x_fr (pc := 27) [.int v0, .ref q2, .ref q2] rfl rfl ?_
  refine lv_aload_n hx hb d_L_law_27 rfl (lv_at hl 1 rfl) ?_
  refine lv_iconst (v := nI 1) hx hb d_L_law_28 (by decide) ?_
  refine xs_X (n := 2) (As := [.ref b, .int (nI 1)]) (rest := [.int v0, .ref q2, .ref q2]) hx hb hml hown hg (hX.kept (hS.2.1 b hbl hbA)) (c_L_cell l b L xs 1 (by decide) (by omega)) w_347 w_0 w_345 w_346 (by decide +kernel) ⟨(Nat.le_of_ble_eq_true rfl), (Nat.le_of_ble_eq_true rfl)⟩ rfl hl.1 rfl (Nat.le_of_ble_eq_true rfl) ⟨(Nat.le_of_ble_eq_true rfl), (Nat.le_of_ble_eq_true rfl)⟩ rfl rfl d_L_law_29 (fun r hr => ?_)
  subst hr
  rw [hv1]
  refine x_fr (pc := 32) [.int v1, .int v0, .ref q2, .ref q2] rfl rfl ?_
  refine xi_N (n := 2) (As := [.int v0, .int v1]) (rest := [.ref q2]) hx hb hml hown hg hK0 hP (c_M_init l D T (lA s) _ _ (fun q hq => hA q (Nat.le_trans hS.1 hq)) q2 K N v0 v1 hz hKx hNx xU_s) w_352 w_6 w_350 w_351 rfl (by decide +kernel) ⟨Nat.le_of_ble_eq_true rfl, Nat.le_of_ble_eq_true rfl⟩ rfl hl.1 rfl (Nat.le_of_ble_eq_true rfl) hS ⟨Nat.le_of_ble_eq_true rfl, Nat.le_of_ble_eq_true rfl⟩ rfl rfl d_L_law_32 (fun r M1 H_453 L_454 hr hP hS => ?_)
  obtain ⟨rfl, bd, hB, hb0, hB0⟩ := hr
  have hM := mG_of hB hb0 hB0
  obtain ⟨hG, hd⟩ := two_of hG hq2 hB hb0
  refine x_fr (pc := 35) [.ref q2] rfl rfl ?_
  refine lv_astore_n (lv' := [(2, .ref q2), (1, .ref q1), (0, .ref b)]) hx hb d_L_law_35 rfl hl (by decide) rfl (fun ls hl => ?_)
  refine lv_iconst (v := nI 2) hx hb d_L_law_36 (by decide) ?_
  refine lv_istore_n (lv' := [(3, .int (nI 2)), (2, .ref q2), (1, .ref q1), (0, .ref b)]) hx hb d_L_law_37 rfl hl (by decide) rfl (fun ls hl => ?_)
  refine W.widen (k := 224) (n := 2965) (Nat.le_of_ble_eq_true rfl) (Nat.le_of_ble_eq_true rfl) ?_
  exact law_loop hL C0 hK0 hz hd (L + 9) 2 (by omega) (by omega) _ _ _ ⟨_, _, _, _, hP, hS, hG, hM, sM_0 hz, iG_0⟩ ls (by rw [ha0, hb0]; exact (lv_sub hl [3, 2, 1, 0] rfl))
