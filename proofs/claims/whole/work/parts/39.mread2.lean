/-! the reference: read and repair -/
theorem sM_q {K N : Nat} {g : gT} {q q' : qT} (h : ∀ k, k ≠ 11 → k ≠ 12 → k ≠ 13 → q' k = q k) (hs : sM K N g q) : sM K N g q' := by
  obtain ⟨a1, a2, a3, a4, a5, a6, a7⟩ := hs
  refine ⟨?_, ?_, fun s hs1 => ?_, fun t ht => ?_, fun t j ht hj => ?_, fun t u ht hu => ?_, fun j hj => ?_⟩
  · rw [h 0 (by omega) (by omega) (by omega)]; exact a1
  · rw [h 0 (by omega) (by omega) (by omega)]; exact a2
  · rw [h 1 (by omega) (by omega) (by omega), h 2 (by omega) (by omega) (by omega)]; exact a3 s hs1
  · rw [h 3 (by omega) (by omega) (by omega), h 4 (by omega) (by omega) (by omega)]; exact a4 t ht
  · rw [h 5 (by omega) (by omega) (by omega), h 6 (by omega) (by omega) (by omega)]; exact a5 t j ht hj
  · have z := a6 t u ht hu
    unfold rwS at z ⊢
    rw [h 7 (by omega) (by omega) (by omega), h 8 (by omega) (by omega) (by omega)]
    exact z
  · rw [h 9 (by omega) (by omega) (by omega), h 10 (by omega) (by omega) (by omega)]; exact a7 j hj
theorem sM_cg {K N : Nat} {g g' : gT} {q : qT} (h : ∀ k f s, vG N k f s → k ≠ 7 → k ≠ 8 → k ≠ 9 → k ≠ 10 → k ≠ 11 → g' k f s = g k f s) (hs : sM K N g q) : sM K N g' q := by
  obtain ⟨a1, a2, a3, a4, a5, a6, a7⟩ := hs
  have lo : ∀ k, k < 12 → k ≠ 7 → k ≠ 8 → k ≠ 9 → k ≠ 10 → k ≠ 11 → g' k 0 0 = g k 0 0 := fun k hk b c d e f => h k 0 0 (Or.inl ⟨hk, rfl, rfl⟩) b c d e f
  have mi : ∀ k f, 12 ≤ k → k < 17 → f < 6 → g' k f 0 = g k f 0 := fun k f h1 h2 h3 => h k f 0 (Or.inr (Or.inl ⟨h1, h2, h3, rfl⟩)) (by omega) (by omega) (by omega) (by omega) (by omega)
  have hi : ∀ k f s, 17 ≤ k → k < 21 → f < 6 → s < N → g' k f s = g k f s := fun k f s h1 h2 h3 h4 => h k f s (Or.inr (Or.inr ⟨h1, h2, h3, h4⟩)) (by omega) (by omega) (by omega) (by omega) (by omega)
  refine ⟨?_, ?_, fun s hs1 => ?_, fun t ht => ?_, fun t j ht hj => ?_, fun t u ht hu => ?_, fun j hj => ?_⟩
  · rw [lo 0 (by omega) (by omega) (by omega) (by omega) (by omega) (by omega)]; exact a1
  · rw [lo 0 (by omega) (by omega) (by omega) (by omega) (by omega) (by omega)]; exact a2
  · rw [lo 1 (by omega) (by omega) (by omega) (by omega) (by omega) (by omega), lo 2 (by omega) (by omega) (by omega) (by omega) (by omega) (by omega)]; exact a3 s hs1
  · rw [mi 12 t (by omega) (by omega) ht]; exact a4 t ht
  · rw [mi 15 t (by omega) (by omega) ht, mi 16 t (by omega) (by omega) ht]; exact a5 t j ht hj
  · rw [hi 17 t u (by omega) (by omega) ht hu, hi 18 t u (by omega) (by omega) ht hu, hi 19 t u (by omega) (by omega) ht hu, hi 20 t u (by omega) (by omega) ht hu]; exact a6 t u ht hu
  · rw [lo 4 (by omega) (by omega) (by omega) (by omega) (by omega) (by omega), lo 5 (by omega) (by omega) (by omega) (by omega) (by omega) (by omega)]; exact a7 j hj
theorem sM_kp {K N : Nat} {g g' : gT} {q : qT} (h : kpS g g') (hs : sM K N g q) : sM K N g' q := sM_cg (fun k f s _ a b c d e => h k f s a b c d e) hs
theorem sM_read {K N : Nat} {g g' : gT} {q q' : qT} {f : Nat} {x : Int32} (hs : sM K N g q) (hr : rdR K N g g' f x) (hq : ∀ k, k ≠ 0 → k ≠ 10 → k ≠ 11 → k ≠ 12 → k ≠ 13 → q' k = q k) (h0 : q' 0 0 = q 0 0) (h1 : q' 0 1 = 1) (h10 : ∀ j, j < K → q' 10 j = dcV K N g f (nI (beF K N g f)) j ^^^ mixF x (nI (beF K N g f) * 8 + nI j)) : sM K N g' q' := by
  obtain ⟨r1, r2, r3, r4⟩ := hr
  have hq2 : sM K N g (upQ (upQ q 11 (q' 11)) 12 (q' 12)) := sM_q (fun k a b c => by rw [upQ_n b, upQ_n a]) hs
  obtain ⟨a1, a2, a3, a4, a5, a6, a7⟩ := hs
  refine ⟨?_, ?_, fun s hs1 => ?_, fun t ht => ?_, fun t j ht hj => ?_, fun t u ht hu => ?_, fun j hj => ?_⟩
  · rw [h0, r2]; exact a1
  · rw [h1, r3]
  · rw [hq 1 (by omega) (by omega) (by omega) (by omega) (by omega), hq 2 (by omega) (by omega) (by omega) (by omega) (by omega), r1 1 0 0 (by omega) (by omega) (by omega) (by omega) (by omega) (by omega) (by omega), r1 2 0 0 (by omega) (by omega) (by omega) (by omega) (by omega) (by omega) (by omega)]; exact a3 s hs1
  · rw [hq 3 (by omega) (by omega) (by omega) (by omega) (by omega), hq 4 (by omega) (by omega) (by omega) (by omega) (by omega), r1 12 t 0 (by omega) (by omega) (by omega) (by omega) (by omega) (by omega) (by omega)]; exact a4 t ht
  · rw [hq 5 (by omega) (by omega) (by omega) (by omega) (by omega), hq 6 (by omega) (by omega) (by omega) (by omega) (by omega), r1 15 t 0 (by omega) (by omega) (by omega) (by omega) (by omega) (by omega) (by omega), r1 16 t 0 (by omega) (by omega) (by omega) (by omega) (by omega) (by omega) (by omega)]; exact a5 t j ht hj
  · rw [r1 17 t u (by omega) (by omega) (by omega) (by omega) (by omega) (by omega) (by omega), r1 18 t u (by omega) (by omega) (by omega) (by omega) (by omega) (by omega) (by omega), r1 19 t u (by omega) (by omega) (by omega) (by omega) (by omega) (by omega) (by omega), r1 20 t u (by omega) (by omega) (by omega) (by omega) (by omega) (by omega) (by omega)]
    have z := a6 t u ht hu
    unfold rwS at z ⊢
    rw [hq 7 (by omega) (by omega) (by omega) (by omega) (by omega), hq 8 (by omega) (by omega) (by omega) (by omega) (by omega)]
    exact z
  · rw [hq 9 (by omega) (by omega) (by omega) (by omega) (by omega), r1 4 0 0 (by omega) (by omega) (by omega) (by omega) (by omega) (by omega) (by omega), h10 j hj, r4 j hj]; exact ⟨(a7 j hj).1, rfl⟩
def gyI (N : Nat) (g g' : gT) (f : Nat) (nu : Int32) (i : Nat) : gT := fun k f1 s1 => if (k = 17 ∨ k = 18) ∧ f1 = f ∧ s1 < i ∧ ¬ rpV N g f nu s1 = 0 then g' k f1 s1 else g k f1 s1
theorem gyI_o {N : Nat} {g g' : gT} {f : Nat} {nu : Int32} {i k f1 s1 : Nat} (h : ¬ ((k = 17 ∨ k = 18) ∧ f1 = f ∧ s1 < i ∧ ¬ rpV N g f nu s1 = 0)) : gyI N g g' f nu i k f1 s1 = g k f1 s1 := by rw [gyI, if_neg h]
theorem gyI_y {N : Nat} {g g' : gT} {f : Nat} {nu : Int32} {i k f1 s1 : Nat} (h : (k = 17 ∨ k = 18) ∧ f1 = f ∧ s1 < i ∧ ¬ rpV N g f nu s1 = 0) : gyI N g g' f nu i k f1 s1 = g' k f1 s1 := by rw [gyI, if_pos h]
theorem gyI_z {N : Nat} {g g' : gT} {f : Nat} {nu : Int32} {i : Nat} (h : rpV N g f nu i = 0) : gyI N g g' f nu (i + 1) = gyI N g g' f nu i := by
  funext k f1 s1
  by_cases e : (k = 17 ∨ k = 18) ∧ f1 = f ∧ s1 < i ∧ ¬ rpV N g f nu s1 = 0
  · rw [gyI_y e, gyI_y ⟨e.1, e.2.1, by omega, e.2.2.2⟩]
  · rw [gyI_o e, gyI_o (fun z => e ⟨z.1, z.2.1, by
      rcases Nat.lt_succ_iff_lt_or_eq.mp z.2.2.1 with q | q
      · exact q
      · exact absurd (by rw [q]; exact h) z.2.2.2, z.2.2.2⟩)]
set_option maxHeartbeats 4000000 in
set_option maxRecDepth 100000 in
theorem c_M_read (l : Launch) (D : va_G) (T : Nat → ClassId) (A : Nat → Prop) (M : xM) (bd : Nat → Nat) (K N : Nat) (q : Nat → Nat → Int32) (hz : zB K N) (hM : mG T bd K N q M) (g : gT) (hs : sM K N g q) (c0 : Nat) (w : Nat → Nat) (hI : iG N g c0 w) (x : Int32) (g' : gT) (hst : stR K N g g' c0 x) : Met l y_M_read (Cond.code y_M_read b_M_read 5 (some .int) :: gw) (rmH 6) (xPc D T A M [.ref (bd 0), .int x]) (xQ D A (fun r M1 => pM T bd K N M (aRead K N g c0 x, g') r M1)) 0 0 A := by
  refine xMetQi (by decide) (Nat.le_of_ble_eq_true rfl) ?_
  intro p e s m below meth c Q ls hB hP hS hl hret
  obtain ⟨hx, hb, hml, hown, hg, hK0, hnm⟩ := hB
  have hown : s.vm.findClass "ShareGridModel" = some m.cls := hown
  have hK := hK0.1
  have hN := hK0.2.1
  obtain ⟨hz1, hz4, hzn, hz7⟩ := id hz
  obtain ⟨hq, hq6, hwr, hbo⟩ := id hI
  have hR := hM.rf
  have hl : lv_has ls 5 [(0, .ref (bd 0)), (1, .int x)] := hl
  refine lv_aload_n hx hb d_M_read_0 rfl (lv_at hl 0 rfl) ?_
  refine lv_aload_n hx hb d_M_read_1 rfl (lv_at hl 0 rfl) ?_
  refine lv_iload_n hx hb d_M_read_2 rfl (lv_at hl 1 rfl) ?_
  refine lv_iconst (v := 2) hx hb d_M_read_3 (by decide) ?_
  refine xv_R (n := 2) (As := [.int x, .int 2]) (rest := [.ref (bd 0)]) hx hb hml hown hg hK0 hP (c_M_mix l D T A _ bd K N q hz hM x 2) w_413 w_6 w_410 w_412 s_20 (ma_0 hM) rfl rfl (by decide +kernel) ⟨Nat.le_of_ble_eq_true rfl, Nat.le_of_ble_eq_true rfl⟩ rfl hl.1 rfl (Nat.le_of_ble_eq_true rfl) ⟨Nat.zero_le _, Nat.zero_le _⟩ rfl rfl d_M_read_4 (fun r hr => ?_)
  subst hr
  refine x_fr (pc := 7) [.int (mixF x 2), .ref (bd 0)] rfl rfl ?_
  refine xv_R (n := 1) (As := [.int (mixF x 2)]) (rest := []) hx hb hml hown hg hK0 hP (c_M_fileOf l D T A _ bd K N q hz hM g hs c0 w hI (mixF x 2)) w_424 w_6 w_421 w_423 s_21 (ma_0 hM) rfl rfl (by decide +kernel) ⟨Nat.le_of_ble_eq_true rfl, Nat.le_of_ble_eq_true rfl⟩ rfl hl.1 rfl (Nat.le_of_ble_eq_true rfl) ⟨Nat.zero_le _, Nat.zero_le _⟩ rfl rfl d_M_read_7 (fun r hr => ?_)
  subst hr
  refine x_fr (pc := 10) [.int (fuF g c0 (mixF x 2))] rfl rfl ?_
  refine lv_istore_n (lv' := [(2, .int (fuF g c0 (mixF x 2))), (0, .ref (bd 0)), (1, .int x)]) hx hb d_M_read_10 rfl hl (by decide) rfl (fun ls hl => ?_)
  refine lv_iload_n hx hb d_M_read_11 rfl (lv_at hl 0 rfl) ?_
  refine lv_if_ge (tgt := 17) hx hb d_M_read_12 (by decide) (fun c7 => ?_) (fun c7 => ?_)
  · obtain ⟨f, hf, hfe⟩ := fuF_ge (g := g) (q := c0) (x := mixF x 2) c7
    rw [hfe] at hl
    have ef : (fuF g c0 (mixF x 2)).toNatClampNeg = f := by rw [hfe, nI_clamp (by omega)]
    obtain ⟨hw0, hw30⟩ := hwr f (by omega)
    have hbe := beF_le (K := K) (N := N) hw0 hw30
    refine lv_aload_n hx hb d_M_read_17 rfl (lv_at hl 1 rfl) ?_
    refine lv_iload_n hx hb d_M_read_18 rfl (lv_at hl 0 rfl) ?_
    refine xv_R (n := 1) (As := [.int (nI f)]) (rest := []) hx hb hml hown hg hK0 hP (c_M_bestOf l D T A _ bd K N q hz hM g hs c0 w hI f (by omega)) w_464 w_6 w_461 w_463 s_28 (ma_0 hM) rfl rfl (by decide +kernel) ⟨Nat.le_of_ble_eq_true rfl, Nat.le_of_ble_eq_true rfl⟩ rfl hl.1 rfl (Nat.le_of_ble_eq_true rfl) ⟨Nat.zero_le _, Nat.zero_le _⟩ rfl rfl d_M_read_19 (fun r hr => ?_)
    subst hr
    refine x_fr (pc := 22) [.int (nI (beF K N g f))] rfl rfl ?_
    refine lv_istore_n (lv' := [(3, .int (nI (beF K N g f))), (2, .int (nI f)), (0, .ref (bd 0)), (1, .int x)]) hx hb d_M_read_22 rfl hl (by decide) rfl (fun ls hl => ?_)
    refine lv_iload_n hx hb d_M_read_23 rfl (lv_at hl 0 rfl) ?_
    refine lv_if_ne (tgt := 30) hx hb d_M_read_24 (by decide) (fun cbe => ?_) (fun cbe => ?_)
    · have hbn : beF K N g f ≠ 0 := nI_nz cbe
      have ehc := beF_pos hbn
      have hokr : okR K N g c0 (mixF x 2) := ⟨c7, by rw [ef]; exact hbn⟩
      have hrd := hst.1 hokr
      rw [ef] at hrd
      refine lv_aload_n hx hb d_M_read_30 rfl (lv_at hl 2 rfl) ?_
      refine lv_iload_n hx hb d_M_read_31 rfl (lv_at hl 1 rfl) ?_
      refine lv_iload_n hx hb d_M_read_32 rfl (lv_at hl 0 rfl) ?_
      refine xv_Q (n := 2) (As := [.int (nI f), .int (nI (beF K N g f))]) (rest := []) hx hb hml hown hg hK0 hP (c_M_decode l D T A _ bd K N q hz hM g hs c0 w hI f (by omega) (nI (beF K N g f)) ehc) w_480 w_6 w_477 w_479 s_32 (ma_0 hM) rfl rfl (by decide +kernel) ⟨Nat.le_of_ble_eq_true rfl, Nat.le_of_ble_eq_true rfl⟩ rfl hl.1 rfl (Nat.le_of_ble_eq_true rfl) hS ⟨Nat.zero_le _, Nat.zero_le _⟩ rfl rfl d_M_read_33 (fun r M1 H_289 L_290 hr hP hS => ?_)
      obtain ⟨rfl, q_291, hR1, hdc1, hdc2⟩ := hr
      have hR := hR.tr hR1
      have hM := hR.1
      refine x_fr (pc := 36) [] rfl rfl ?_
      refine lv_iconst (v := nI 0) hx hb d_M_read_36 (by decide) ?_
      refine lv_istore (lv' := [(4, .int (nI 0)), (3, .int (nI (beF K N g f))), (2, .int (nI f)), (0, .ref (bd 0)), (1, .int x)]) hx hb d_M_read_37 hl (by decide) rfl (fun ls hl => ?_)
      have loop : ∀ (n : Nat) (i : Nat) (qx : qT), K + 1 ≤ i + n → i ≤ K → (∀ k, k ≠ 10 → qx k = q_291 k) → (∀ j, j < i → qx 10 j = dcV K N g f (nI (beF K N g f)) j ^^^ mixF x (nI (beF K N g f) * 8 + nI j)) → ∀ (Mx : xM) (Hx : Heap) (Lx : List Loc), xW D classes A Mx Hx → va_S A s.heap Hx Lx → mR T bd K N M qx Mx → ∀ (ls : Array Slot), lv_has ls 5 [(0, .ref (bd 0)), (1, .int x), (2, .int (nI f)), (3, .int (nI (beF K N g f))), (4, .int (nI i))] → W p l e (rmH 6) s m [.ref (bd 0), .int x].toArray below meth c Hx Lx 0 0 Q (F0 m 39 ls []) := by
        intro n
        induction n with
        | zero =>
          intro i qx h2 h1 r1 r2
          exact absurd h2 (by omega)
        | succ n ih =>
          intro i qx h2 h1 r1 r2 Mx Hx Lx hP hS hR ls hl
          have hM := hR.1
          refine lv_iload hx hb d_M_read_39 (lv_at hl 4 rfl) ?_
          refine lv_aload_n hx hb d_M_read_41 rfl (lv_at hl 0 rfl) ?_
          refine x_get (v := .int (nI K)) (C := R_M) (T := F_M) (N := 17) hx hb hg i_M hown hK hP (ma_0 hM) rfl 0 (by decide) (hg _ w_354) (fun _ h9 => h9) rfl d_M_read_42 ?_
          refine x_nc_ge (tgt := 81) hx hb d_M_read_45 (by decide) (by omega) (by omega) (fun c54 => ?_) (fun c54 => ?_)
          · have hiK : i = K := by omega
            rw [hiK] at r2
            refine lv_aload_n hx hb d_M_read_81 rfl (lv_at hl 0 rfl) ?_
            refine lv_iconst (v := 1) hx hb d_M_read_82 (by decide) ?_
            refine x_put (v := .int 1) (ty := .boolean) (C := R_M) (T := F_M) (N := 17) hx hb hg i_M t_M t_M_ok n_M hown hK hP hS (ma_0 hM) rfl 13 (by decide) (hg _ w_367) (fun _ h9 => h9) rfl (by decide +kernel) (by rfl) (by rfl) (Nat.le_of_ble_eq_true rfl) d_M_read_83 (fun H_292 L_293 hP hS => ?_)
            obtain ⟨q_294, hq_294⟩ : ∃ z, z = upQ qx 0 (upd (qx 0) 1 1) := ⟨_, rfl⟩
            obtain ⟨M_295, hP, hR⟩ : ∃ z, xW D classes A z H_292 ∧ mR T bd K N M q_294 z := ⟨_, hP, by rw [hq_294]; exact hR.set (by omega) rfl⟩
            have hM := hR.1
            refine lv_iload_n hx hb d_M_read_86 rfl (lv_at hl 3 rfl) ?_
            refine hret _ _ _ _ _ _ d_M_read_87 hP hS ⟨by rw [aRead, if_pos c7, ef, if_neg hbn], _, hR, sM_read hs hrd ?_ ?_ ?_ ?_⟩
            · intro k k0 k10 k11 k12 k13; rw [hq_294, upQ_n k0, r1 k k10]; exact hdc1 k k11 k12 k13
            · rw [hq_294, upQ_s, upd_n (by omega), r1 0 (by omega), hdc1 0 (by omega) (by omega) (by omega)]
            · rw [hq_294, upQ_s, upd_s]
            · intro j hj; rw [hq_294, upQ_n (by omega)]; exact r2 j hj
          · refine lv_aload_n hx hb d_M_read_48 rfl (lv_at hl 0 rfl) ?_
            refine x_get (v := .ref (bd 10)) (C := R_M) (T := F_M) (N := 17) hx hb hg i_M hown hK hP (ma_0 hM) rfl 12 (by decide) (hg _ w_366) (fun _ h9 => h9) rfl d_M_read_49 ?_
            refine lv_iload hx hb d_M_read_52 (lv_at hl 4 rfl) ?_
            refine lv_aload_n hx hb d_M_read_54 rfl (lv_at hl 0 rfl) ?_
            refine x_get (v := .ref (bd 11)) (C := R_M) (T := F_M) (N := 17) hx hb hg i_M hown hK hP (ma_0 hM) rfl 14 (by decide) (hg _ w_368) (fun _ h9 => h9) rfl d_M_read_55 ?_
            refine lv_iload hx hb d_M_read_58 (lv_at hl 4 rfl) ?_
            refine x_iald (v := qx 11 i) hx hb hK hP 0 (ma_11 hM) rfl (vp_in_nI (by omega) (by omega)) (by rw [nI_clamp (by omega)]) d_M_read_60 ?_
            refine x_top (y := (dcV K N g f (nI (beF K N g f)) i)) (by rw [r1 11 (by omega)]; exact hdc2 i (by omega)) ?_
            refine lv_aload_n hx hb d_M_read_61 rfl (lv_at hl 0 rfl) ?_
            refine lv_iload_n hx hb d_M_read_62 rfl (lv_at hl 1 rfl) ?_
            refine lv_iload_n hx hb d_M_read_63 rfl (lv_at hl 3 rfl) ?_
            refine lv_bipush (v := 8) hx hb d_M_read_64 (by decide) ?_
            refine lv_imul hx hb d_M_read_66 ?_
            refine lv_iload hx hb d_M_read_67 (lv_at hl 4 rfl) ?_
            refine lv_iadd hx hb d_M_read_69 ?_
            refine xv_R (n := 2) (As := [.int x, .int (((nI (beF K N g f)) * 8) + (nI i))]) (rest := [.int (dcV K N g f (nI (beF K N g f)) i), .int (nI i), .ref (bd 10)]) hx hb hml hown hg hK0 hP (c_M_mix l D T A _ bd K N qx hz hM x (((nI (beF K N g f)) * 8) + (nI i))) w_413 w_6 w_410 w_412 s_20 (ma_0 hM) rfl rfl (by decide +kernel) ⟨Nat.le_of_ble_eq_true rfl, Nat.le_of_ble_eq_true rfl⟩ rfl hl.1 rfl (Nat.le_of_ble_eq_true rfl) ⟨Nat.zero_le _, Nat.zero_le _⟩ rfl rfl d_M_read_70 (fun r hr => ?_)
            subst hr
            refine x_fr (pc := 73) [.int (mixF x (((nI (beF K N g f)) * 8) + (nI i))), .int (dcV K N g f (nI (beF K N g f)) i), .int (nI i), .ref (bd 10)] rfl rfl ?_
            refine lv_ixor hx hb d_M_read_73 ?_
            refine x_iast hx hb hK hP hS 0 (ma_10 hM) rfl (vp_in_nI (by omega) (by omega)) d_M_read_74 (fun H_296 L_297 hP hS => ?_)
            rw [nI_clamp (by omega)] at hP
            obtain ⟨q_298, hq_298⟩ : ∃ z, z = upQ qx 10 (upd (qx 10) i ((dcV K N g f (nI (beF K N g f)) i) ^^^ (mixF x (((nI (beF K N g f)) * 8) + (nI i))))) := ⟨_, rfl⟩
            obtain ⟨M_299, hP, hR⟩ : ∃ z, xW D classes A z H_296 ∧ mR T bd K N M q_298 z := ⟨_, hP, by rw [hq_298]; exact hR.set (by omega) rfl⟩
            have hM := hR.1
            refine lv_iinc (v := nI (i + 1)) (lv' := [(4, .int (nI (i + 1))), (0, .ref (bd 0)), (1, .int x), (2, .int (nI f)), (3, .int (nI (beF K N g f)))]) hx hb d_M_read_75 hl (k := 4) rfl (nI_1 _) (by decide) rfl (fun ls hl => ?_)
            refine lv_goto (tgt := 39) hx hb d_M_read_78 (by decide) ?_
            refine ih (i + 1) q_298 (by omega) (by omega) (fun k k1 => by rw [hq_298, upQ_n k1]; exact r1 k k1) (fun j hj => ?_) _ _ _ hP hS hR ls (lv_sub hl [1, 2, 3, 4, 0] rfl)
            rw [hq_298, upQ_s]
            by_cases e : j = i
            · subst e; rw [upd_s]
            · rw [upd_n e]; exact r2 j (by omega)
      exact loop (K + 1) 0 q_291 (by omega) (by omega) (fun _ _ => rfl) (fun j hj => absurd hj (by omega)) _ _ _ hP hS hR ls (lv_sub hl [3, 4, 2, 1, 0] rfl)
    · have hbn : beF K N g f = 0 := nI_z (by omega) cbe
      have hno : ¬ okR K N g c0 (mixF x 2) := fun z => z.2 (by rw [ef]; exact hbn)
      refine lv_bipush (v := (-3)) hx hb d_M_read_27 (by decide) ?_
      exact hret _ _ _ _ _ _ d_M_read_29 hP hS ⟨by rw [aRead, if_pos c7, ef, if_pos hbn], q, hR, sM_kp (hst.2 hno) hs⟩
  · have hno : ¬ okR K N g c0 (mixF x 2) := fun z => c7 z.1
    refine lv_iconst (v := (-1)) hx hb d_M_read_15 (by decide) ?_
    exact hret _ _ _ _ _ _ d_M_read_16 hP hS ⟨by rw [aRead, if_neg c7], q, hR, sM_kp (hst.2 hno) hs⟩
set_option maxHeartbeats 4000000 in
set_option maxRecDepth 100000 in
theorem c_M_repair (l : Launch) (D : va_G) (T : Nat → ClassId) (A : Nat → Prop) (M : xM) (bd : Nat → Nat) (K N : Nat) (q : Nat → Nat → Int32) (hz : zB K N) (hM : mG T bd K N q M) (g : gT) (hs : sM K N g q) (c0 : Nat) (w : Nat → Nat) (hI : iG N g c0 w) (x : Int32) (g' : gT) (hst : stP K N g g' c0 x) : Met l y_M_repair (Cond.code y_M_repair b_M_repair 7 (some .int) :: gw) (rmH 6) (xPc D T A M [.ref (bd 0), .int x]) (xQ D A (fun r M1 => pM T bd K N M (aRepair K N g c0 x (cuF (rpV N g (fuF g c0 x).toNatClampNeg (nI (beF K N g (fuF g c0 x).toNatClampNeg))) N), g') r M1)) 0 0 A := by
  refine xMetQi (by decide) (Nat.le_of_ble_eq_true rfl) ?_
  intro p e s m below meth c Q ls hB hP hS hl hret
  obtain ⟨hx, hb, hml, hown, hg, hK0, hnm⟩ := hB
  have hown : s.vm.findClass "ShareGridModel" = some m.cls := hown
  have hK := hK0.1
  have hN := hK0.2.1
  obtain ⟨hz1, hz4, hzn, hz7⟩ := id hz
  obtain ⟨hq, hq6, hwr, hbo⟩ := id hI
  have hR := hM.rf
  have hl : lv_has ls 7 [(0, .ref (bd 0)), (1, .int x)] := hl
  refine lv_aload_n hx hb d_M_repair_0 rfl (lv_at hl 0 rfl) ?_
  refine lv_iload_n hx hb d_M_repair_1 rfl (lv_at hl 1 rfl) ?_
  refine xv_R (n := 1) (As := [.int x]) (rest := []) hx hb hml hown hg hK0 hP (c_M_fileOf l D T A _ bd K N q hz hM g hs c0 w hI x) w_424 w_6 w_421 w_423 s_21 (ma_0 hM) rfl rfl (by decide +kernel) ⟨Nat.le_of_ble_eq_true rfl, Nat.le_of_ble_eq_true rfl⟩ rfl hl.1 rfl (Nat.le_of_ble_eq_true rfl) ⟨Nat.zero_le _, Nat.zero_le _⟩ rfl rfl d_M_repair_2 (fun r hr => ?_)
  subst hr
  refine x_fr (pc := 5) [.int (fuF g c0 x)] rfl rfl ?_
  refine lv_istore_n (lv' := [(2, .int (fuF g c0 x)), (0, .ref (bd 0)), (1, .int x)]) hx hb d_M_repair_5 rfl hl (by decide) rfl (fun ls hl => ?_)
  refine lv_iload_n hx hb d_M_repair_6 rfl (lv_at hl 0 rfl) ?_
  refine lv_if_ge (tgt := 12) hx hb d_M_repair_7 (by decide) (fun c7 => ?_) (fun c7 => ?_)
  · obtain ⟨f, hf, hfe⟩ := fuF_ge (g := g) (q := c0) (x := x) c7
    rw [hfe] at hl
    have ef : (fuF g c0 (x)).toNatClampNeg = f := by rw [hfe, nI_clamp (by omega)]
    obtain ⟨hw0, hw30⟩ := hwr f (by omega)
    have hbe := beF_le (K := K) (N := N) hw0 hw30
    refine lv_aload_n hx hb d_M_repair_12 rfl (lv_at hl 1 rfl) ?_
    refine lv_iload_n hx hb d_M_repair_13 rfl (lv_at hl 0 rfl) ?_
    refine xv_R (n := 1) (As := [.int (nI f)]) (rest := []) hx hb hml hown hg hK0 hP (c_M_bestOf l D T A _ bd K N q hz hM g hs c0 w hI f (by omega)) w_464 w_6 w_461 w_463 s_28 (ma_0 hM) rfl rfl (by decide +kernel) ⟨Nat.le_of_ble_eq_true rfl, Nat.le_of_ble_eq_true rfl⟩ rfl hl.1 rfl (Nat.le_of_ble_eq_true rfl) ⟨Nat.zero_le _, Nat.zero_le _⟩ rfl rfl d_M_repair_14 (fun r hr => ?_)
    subst hr
    refine x_fr (pc := 17) [.int (nI (beF K N g f))] rfl rfl ?_
    refine lv_istore_n (lv' := [(3, .int (nI (beF K N g f))), (2, .int (nI f)), (0, .ref (bd 0)), (1, .int x)]) hx hb d_M_repair_17 rfl hl (by decide) rfl (fun ls hl => ?_)
    refine lv_iload_n hx hb d_M_repair_18 rfl (lv_at hl 0 rfl) ?_
    refine lv_if_ne (tgt := 25) hx hb d_M_repair_19 (by decide) (fun cbe => ?_) (fun cbe => ?_)
    · have hbn : beF K N g f ≠ 0 := nI_nz cbe
      have ehc := beF_pos hbn
      have hokr : okR K N g c0 (x) := ⟨c7, by rw [ef]; exact hbn⟩
      have hrd := hst.1 hokr
      rw [ef] at hrd
      refine lv_aload_n hx hb d_M_repair_25 rfl (lv_at hl 2 rfl) ?_
      refine lv_iload_n hx hb d_M_repair_26 rfl (lv_at hl 1 rfl) ?_
      refine lv_iload_n hx hb d_M_repair_27 rfl (lv_at hl 0 rfl) ?_
      refine xv_Q (n := 2) (As := [.int (nI f), .int (nI (beF K N g f))]) (rest := []) hx hb hml hown hg hK0 hP (c_M_decode l D T A _ bd K N q hz hM g hs c0 w hI f (by omega) (nI (beF K N g f)) ehc) w_480 w_6 w_477 w_479 s_32 (ma_0 hM) rfl rfl (by decide +kernel) ⟨Nat.le_of_ble_eq_true rfl, Nat.le_of_ble_eq_true rfl⟩ rfl hl.1 rfl (Nat.le_of_ble_eq_true rfl) hS ⟨Nat.zero_le _, Nat.zero_le _⟩ rfl rfl d_M_repair_28 (fun r M1 H_300 L_301 hr hP hS => ?_)
      obtain ⟨rfl, q_302, hR1, hdc1, hdc2⟩ := hr
      have hR := hR.tr hR1
      have hM := hR.1
      refine x_fr (pc := 31) [] rfl rfl ?_
      refine lv_iconst (v := nI 0) hx hb d_M_repair_31 (by decide) ?_
      refine lv_istore (lv' := [(4, .int (nI 0)), (3, .int (nI (beF K N g f))), (2, .int (nI f)), (0, .ref (bd 0)), (1, .int x)]) hx hb d_M_repair_32 hl (by decide) rfl (fun ls hl => ?_)
      have hs1 : sM K N g q_302 := sM_q hdc1 hs
      obtain ⟨p0, hp0⟩ : ∃ z, z = plF N (svF N g f (nI (beF K N g f))) 0 := ⟨_, rfl⟩
      have hpl := plF_ok (N := N) (n := N) (j := 0) (u := svF N g f (nI (beF K N g f))) (Nat.le_refl N) (by omega)
      rw [← hp0] at hpl
      have hp0N := hpl.1
      have cont : ∀ (ls : Array Slot), lv_has ls 7 [(0, .ref (bd 0)), (1, .int x), (2, .int (nI f)), (3, .int (nI (beF K N g f))), (4, .int (nI p0))] → W p l e (rmH 6) s m [.ref (bd 0), .int x].toArray below meth c H_300 L_301 0 0 Q (F0 m 51 ls []) := by
        intro ls hl
        refine lv_iconst (v := nI 0) hx hb d_M_repair_51 (by decide) ?_
        refine lv_istore (lv' := [(5, .int (nI 0)), (0, .ref (bd 0)), (1, .int x), (2, .int (nI f)), (3, .int (nI (beF K N g f))), (4, .int (nI p0))]) hx hb d_M_repair_52 hl (by decide) rfl (fun ls hl => ?_)
        refine lv_iconst (v := nI 0) hx hb d_M_repair_54 (by decide) ?_
        refine lv_istore (lv' := [(6, .int (nI 0)), (5, .int (nI 0)), (0, .ref (bd 0)), (1, .int x), (2, .int (nI f)), (3, .int (nI (beF K N g f))), (4, .int (nI p0))]) hx hb d_M_repair_55 hl (by decide) rfl (fun ls hl => ?_)
        obtain ⟨v1, v2, v3⟩ := id hrd
        have hrp0 : rpV N g f (nI (beF K N g f)) p0 = 0 := by
          rw [rpV]
          by_cases e : tkV g p0 = 0
          · rw [if_pos e]
          · rw [if_neg e, if_neg (fun z => hpl.2.1 (svF_0.mpr (Or.inr z)))]
        have loop : ∀ (n : Nat) (i : Nat) (qy : qT), N + 1 ≤ i + n → i ≤ N → (∀ j, j < K → qy 11 j = dcV K N g f (nI (beF K N g f)) j) → sM K N (gyI N g g' f (nI (beF K N g f)) i) qy → ∀ (Mx : xM) (Hx : Heap) (Lx : List Loc), xW D classes A Mx Hx → va_S A s.heap Hx Lx → mR T bd K N M qy Mx → ∀ (ls : Array Slot), lv_has ls 7 [(0, .ref (bd 0)), (1, .int x), (2, .int (nI f)), (3, .int (nI (beF K N g f))), (4, .int (nI p0)), (5, .int (nI (cuF (rpV N g f (nI (beF K N g f))) i))), (6, .int (nI i))] → W p l e (rmH 6) s m [.ref (bd 0), .int x].toArray below meth c Hx Lx 0 0 Q (F0 m 57 ls []) := by
          intro n
          induction n with
          | zero =>
            intro i qy h2 h1 r0 r1
            exact absurd h2 (by omega)
          | succ n ih =>
            intro i qy h2 h1 r0 r1 Mx Hx Lx hP hS hR ls hl
            have hM := hR.1
            have hcl2 := cuF_le (rpV N g f (nI (beF K N g f))) i
            have hIy : iG N (gyI N g g' f (nI (beF K N g f)) i) c0 w := by
              refine ⟨by rw [gyI_o (by omega)]; exact hq, hq6, fun f1 hf1 => by rw [gyI_o (by omega)]; exact hwr f1 hf1, fun f1 s1 hf1 hs1 => ⟨?_, by rw [gyI_o (by omega)]; exact (hbo f1 s1 hf1 hs1).2⟩⟩
              by_cases e : (17 = 17 ∨ 17 = 18) ∧ f1 = f ∧ s1 < i ∧ ¬ rpV N g f (nI (beF K N g f)) s1 = 0
              · rw [gyI_y e, e.2.1, (v3 s1 hs1 e.2.2.2).1, ← hp0]; exact (hbo f p0 (by omega) (by omega)).1
              · rw [gyI_o e]; exact (hbo f1 s1 hf1 hs1).1
            refine lv_iload hx hb d_M_repair_57 (lv_at hl 6 rfl) ?_
            refine lv_aload_n hx hb d_M_repair_59 rfl (lv_at hl 0 rfl) ?_
            refine x_get (v := .int (nI N)) (C := R_M) (T := F_M) (N := 17) hx hb hg i_M hown hK hP (ma_0 hM) rfl 1 (by decide) (hg _ w_355) (fun _ h9 => h9) rfl d_M_repair_60 ?_
            refine x_nc_ge (tgt := 145) hx hb d_M_repair_63 (by decide) (by omega) (by omega) (fun c63 => ?_) (fun c63 => ?_)
            · have hiN : i = N := by omega
              rw [hiN] at r1
              refine lv_iload hx hb d_M_repair_145 (lv_at hl 5 rfl) ?_
              have hfin : sM K N g' qy := sM_cg (fun k f1 s1 hv a b c d e => by
                by_cases ek : k = 17 ∨ k = 18
                · by_cases ey : f1 = f ∧ s1 < N ∧ ¬ rpV N g f (nI (beF K N g f)) s1 = 0
                  · rw [gyI_y ⟨ek, ey⟩]
                  · rw [gyI_o (fun z => ey z.2)]
                    have hs1 : s1 < N := by rcases hv with z | z | z <;> omega
                    have hc : f1 ≠ f ∨ rpV N g f (nI (beF K N g f)) s1 = 0 := by
                      by_cases e1 : f1 = f
                      · exact Or.inr (Decidable.not_not.mp (fun z => ey ⟨e1, hs1, z⟩))
                      · exact Or.inl e1
                    rcases ek with rfl | rfl
                    · exact (v2 f1 s1 hc).1
                    · exact (v2 f1 s1 hc).2
                · rw [gyI_o (fun z => ek z.1)]; exact v1 k f1 s1 a b c d e (fun z => ek (Or.inl z)) (fun z => ek (Or.inr z))) r1
              exact hret _ _ _ _ _ _ d_M_repair_147 hP hS ⟨by rw [aRepair, if_pos c7, ef, if_neg hbn, hiN], qy, hR, hfin⟩
            · refine lv_aload_n hx hb d_M_repair_66 rfl (lv_at hl 0 rfl) ?_
              refine x_get (v := .ref (bd 1)) (C := R_M) (T := F_M) (N := 17) hx hb hg i_M hown hK hP (ma_0 hM) rfl 2 (by decide) (hg _ w_356) (fun _ h9 => h9) rfl d_M_repair_67 ?_
              refine lv_iload hx hb d_M_repair_70 (lv_at hl 6 rfl) ?_
              refine x_zald (v := qy 1 i) hx hb hK hP 1 (ma_1 hM) rfl (vp_in_nI (by omega) (by omega)) (by rw [nI_clamp (by omega)]) d_M_repair_72 ?_
              refine x_top (y := (g 1 0 0 i)) ((r1.up (by omega)).trans (by rw [gyI_o (by omega)])) ?_
              refine lv_if_eq (tgt := 139) hx hb d_M_repair_73 (by decide) (fun c73 => ?_) (fun c73 => ?_)
              · have hz0 : rpV N g f (nI (beF K N g f)) i = 0 := by rw [rpV, if_pos (by rw [tkV, tkF, if_pos c73])]
                have ecu := cuF_z hz0
                refine lv_iinc (v := nI (i + 1)) (lv' := [(6, .int (nI (i + 1))), (0, .ref (bd 0)), (1, .int x), (2, .int (nI f)), (3, .int (nI (beF K N g f))), (4, .int (nI p0)), (5, .int (nI (cuF (rpV N g f (nI (beF K N g f))) i)))]) hx hb d_M_repair_139 hl (k := 6) rfl (nI_1 _) (by decide) rfl (fun ls hl => ?_)
                refine lv_goto (tgt := 57) hx hb d_M_repair_142 (by decide) ?_
                exact ih (i + 1) qy (by omega) (by omega) r0 (by rw [gyI_z hz0]; exact r1) _ _ _ hP hS hR ls (by rw [ecu]; exact (lv_sub hl [1, 2, 3, 4, 5, 6, 0] rfl))
              · refine lv_aload_n hx hb d_M_repair_76 rfl (lv_at hl 0 rfl) ?_
                refine x_get (v := .ref (bd 2)) (C := R_M) (T := F_M) (N := 17) hx hb hg i_M hown hK hP (ma_0 hM) rfl 3 (by decide) (hg _ w_357) (fun _ h9 => h9) rfl d_M_repair_77 ?_
                refine lv_iload hx hb d_M_repair_80 (lv_at hl 6 rfl) ?_
                refine x_zald (v := qy 2 i) hx hb hK hP 1 (ma_2 hM) rfl (vp_in_nI (by omega) (by omega)) (by rw [nI_clamp (by omega)]) d_M_repair_82 ?_
                refine x_top (y := (g 2 0 0 i)) ((r1.st (by omega)).trans (by rw [gyI_o (by omega)])) ?_
                refine lv_if_ne (tgt := 139) hx hb d_M_repair_83 (by decide) (fun c83 => ?_) (fun c83 => ?_)
                · have hz0 : rpV N g f (nI (beF K N g f)) i = 0 := by rw [rpV, if_pos (by rw [tkV, tkF, if_neg c73, if_neg c83])]
                  have ecu := cuF_z hz0
                  refine lv_iinc (v := nI (i + 1)) (lv' := [(6, .int (nI (i + 1))), (0, .ref (bd 0)), (1, .int x), (2, .int (nI f)), (3, .int (nI (beF K N g f))), (4, .int (nI p0)), (5, .int (nI (cuF (rpV N g f (nI (beF K N g f))) i)))]) hx hb d_M_repair_139 hl (k := 6) rfl (nI_1 _) (by decide) rfl (fun ls hl => ?_)
                  refine lv_goto (tgt := 57) hx hb d_M_repair_142 (by decide) ?_
                  exact ih (i + 1) qy (by omega) (by omega) r0 (by rw [gyI_z hz0]; exact r1) _ _ _ hP hS hR ls (by rw [ecu]; exact (lv_sub hl [1, 2, 3, 4, 5, 6, 0] rfl))
                · have htk : ¬ tkV g i = 0 := by rw [tkV, tkF, if_neg c73, if_pos c83]; decide
                  have esv : svF N (gyI N g g' f (nI (beF K N g f)) i) f (nI (beF K N g f)) i = svF N g f (nI (beF K N g f)) i := by
                    rw [svF, svF]
                    show (if gyI N g g' f (nI (beF K N g f)) i 1 0 0 i = 0 then 0 else if sdF N (gyI N g g' f (nI (beF K N g f)) i 17 f i) (gyI N g g' f (nI (beF K N g f)) i 18 f i) (gyI N g g' f (nI (beF K N g f)) i 15 f 0) (gyI N g g' f (nI (beF K N g f)) i 16 f 0) (gyI N g g' f (nI (beF K N g f)) i 12 f 0 1) i = 0 then 0 else if gyI N g g' f (nI (beF K N g f)) i 17 f i 2 = _ then 1 else 0) = _
                    rw [gyI_o (k := 1) (by omega), gyI_o (k := 17) (by omega), gyI_o (k := 18) (by omega), gyI_o (k := 15) (by omega), gyI_o (k := 16) (by omega), gyI_o (k := 12) (by omega)]
                  refine lv_aload_n hx hb d_M_repair_86 rfl (lv_at hl 0 rfl) ?_
                  refine lv_iload_n hx hb d_M_repair_87 rfl (lv_at hl 2 rfl) ?_
                  refine lv_iload hx hb d_M_repair_88 (lv_at hl 6 rfl) ?_
                  refine lv_iload_n hx hb d_M_repair_90 rfl (lv_at hl 3 rfl) ?_
                  refine xv_R (n := 3) (As := [.int (nI f), .int (nI i), .int (nI (beF K N g f))]) (rest := []) hx hb hml hown hg hK0 hP (c_M_serves l D T A _ bd K N qy hz hM (gyI N g g' f (nI (beF K N g f)) i) r1 c0 w hIy f i (by omega) (by omega) (nI (beF K N g f))) w_468 w_6 w_465 w_467 s_29 (ma_0 hM) rfl rfl (by decide +kernel) ⟨Nat.le_of_ble_eq_true rfl, Nat.le_of_ble_eq_true rfl⟩ rfl hl.1 rfl (Nat.le_of_ble_eq_true rfl) ⟨Nat.zero_le _, Nat.zero_le _⟩ rfl rfl d_M_repair_91 (fun r hr => ?_)
                  subst hr
                  refine x_fr (pc := 94) [.int (svF N (gyI N g g' f (nI (beF K N g f)) i) f (nI (beF K N g f)) i)] rfl rfl ?_
                  refine lv_if_ne (tgt := 139) hx hb d_M_repair_94 (by decide) (fun c94 => ?_) (fun c94 => ?_)
                  · have hz0 : rpV N g f (nI (beF K N g f)) i = 0 := by rw [rpV, if_neg htk, if_neg (fun z => c94 (by rw [esv]; exact svF_0.mpr (Or.inr z)))]
                    have ecu := cuF_z hz0
                    refine lv_iinc (v := nI (i + 1)) (lv' := [(6, .int (nI (i + 1))), (0, .ref (bd 0)), (1, .int x), (2, .int (nI f)), (3, .int (nI (beF K N g f))), (4, .int (nI p0)), (5, .int (nI (cuF (rpV N g f (nI (beF K N g f))) i)))]) hx hb d_M_repair_139 hl (k := 6) rfl (nI_1 _) (by decide) rfl (fun ls hl => ?_)
                    refine lv_goto (tgt := 57) hx hb d_M_repair_142 (by decide) ?_
                    exact ih (i + 1) qy (by omega) (by omega) r0 (by rw [gyI_z hz0]; exact r1) _ _ _ hP hS hR ls (by rw [ecu]; exact (lv_sub hl [1, 2, 3, 4, 5, 6, 0] rfl))
                  · have hsw : swG N g f i (nI (beF K N g f)) = 0 := by rw [esv] at c94; exact (svF_0.mp c94).resolve_left c73
                    have hz0 : ¬ rpV N g f (nI (beF K N g f)) i = 0 := by rw [rpV, if_neg htk, if_pos hsw]; decide
                    have ecu := cuF_s hz0
                    have hpi : p0 ≠ i := fun z => hz0 (by rw [← z]; exact hrp0)
                    have rp := r1.rc (f := f) (s := p0) (by omega) hp0N
                    rw [gyI_o (k := 17) (fun z => z.2.2.2 hrp0), gyI_o (k := 18) (fun z => z.2.2.2 hrp0)] at rp
                    refine lv_aload_n hx hb d_M_repair_97 rfl (lv_at hl 0 rfl) ?_
                    refine lv_iload_n hx hb d_M_repair_98 rfl (lv_at hl 2 rfl) ?_
                    refine lv_bipush (v := nI 7) hx hb d_M_repair_99 (by decide) ?_
                    refine lv_imul hx hb d_M_repair_101 ?_
                    refine x_top (y := nI (f * 7)) (pk_mul _ _) ?_
                    refine lv_iload hx hb d_M_repair_102 (lv_at hl 4 rfl) ?_
                    refine lv_iadd hx hb d_M_repair_104 ?_
                    refine x_top (y := nI ((f * 7) + p0)) (nI_add _ _) ?_
                    refine lv_iload_n hx hb d_M_repair_105 rfl (lv_at hl 2 rfl) ?_
                    refine lv_bipush (v := nI 7) hx hb d_M_repair_106 (by decide) ?_
                    refine lv_imul hx hb d_M_repair_108 ?_
                    refine x_top (y := nI (f * 7)) (pk_mul _ _) ?_
                    refine lv_iload hx hb d_M_repair_109 (lv_at hl 6 rfl) ?_
                    refine lv_iadd hx hb d_M_repair_111 ?_
                    refine x_top (y := nI ((f * 7) + i)) (nI_add _ _) ?_
                    refine xv_Q (n := 2) (As := [.int (nI ((f * 7) + p0)), .int (nI ((f * 7) + i))]) (rest := []) hx hb hml hown hg hK0 hP (c_M_copyRow l D T A _ bd K N qy hz hM ((f * 7) + p0) ((f * 7) + i) (by omega) (by omega) (by omega) (by rw [rp.1]; exact (hbo f p0 (by omega) (by omega)).1)) w_505 w_6 w_502 w_504 s_34 (ma_0 hM) rfl rfl (by decide +kernel) ⟨Nat.le_of_ble_eq_true rfl, Nat.le_of_ble_eq_true rfl⟩ rfl hl.1 rfl (Nat.le_of_ble_eq_true rfl) hS ⟨Nat.zero_le _, Nat.zero_le _⟩ rfl rfl d_M_repair_112 (fun r M1 H_303 L_304 hr hP hS => ?_)
                    obtain ⟨rfl, q_305, hR1, k1, k2, k3, k4⟩ := hr
                    have hR := hR.tr hR1
                    have hM := hR.1
                    refine x_fr (pc := 115) [] rfl rfl ?_
                    have e11 : ∀ j, j < K → q_305 11 j = dcV K N g f (nI (beF K N g f)) j := fun j hj => by rw [k1 11 (by omega) (by omega)]; exact r0 j hj
                    refine lv_aload_n hx hb d_M_repair_115 rfl (lv_at hl 0 rfl) ?_
                    refine x_get (v := .ref (bd 7)) (C := R_M) (T := F_M) (N := 17) hx hb hg i_M hown hK hP (ma_0 hM) rfl 9 (by decide) (hg _ w_363) (fun _ h9 => h9) rfl d_M_repair_116 ?_
                    refine lv_iload_n hx hb d_M_repair_119 rfl (lv_at hl 2 rfl) ?_
                    refine lv_bipush (v := nI 70) hx hb d_M_repair_120 (by decide) ?_
                    refine lv_imul hx hb d_M_repair_122 ?_
                    refine x_top (y := nI (f * 70)) (pk_mul _ _) ?_
                    refine lv_iload hx hb d_M_repair_123 (lv_at hl 6 rfl) ?_
                    refine lv_bipush (v := nI 10) hx hb d_M_repair_125 (by decide) ?_
                    refine lv_imul hx hb d_M_repair_127 ?_
                    refine x_top (y := nI (i * 10)) (pk_mul _ _) ?_
                    refine lv_iadd hx hb d_M_repair_128 ?_
                    refine x_top (y := nI ((f * 70) + (i * 10))) (nI_add _ _) ?_
                    refine lv_aload_n hx hb d_M_repair_129 rfl (lv_at hl 0 rfl) ?_
                    refine lv_iload hx hb d_M_repair_130 (lv_at hl 6 rfl) ?_
                    refine xv_R (n := 1) (As := [.int (nI i)]) (rest := [.int (nI ((f * 70) + (i * 10))), .ref (bd 7)]) hx hb hml hown hg hK0 hP (c_M_shareAt l D T A _ bd K N q_305 hz hM (nI i)) w_440 w_6 w_437 w_439 s_23 (ma_0 hM) rfl rfl (by decide +kernel) ⟨Nat.le_of_ble_eq_true rfl, Nat.le_of_ble_eq_true rfl⟩ rfl hl.1 rfl (Nat.le_of_ble_eq_true rfl) ⟨Nat.zero_le _, Nat.zero_le _⟩ rfl rfl d_M_repair_132 (fun r hr => ?_)
                    subst hr
                    refine x_fr (pc := 135) [.int (shM (q_305 11) ((nI i) + 1) K), .int (nI ((f * 70) + (i * 10))), .ref (bd 7)] rfl rfl ?_
                    refine x_iast hx hb hK hP hS 0 (ma_7 hM) rfl (vp_in_nI (by omega) (by omega)) d_M_repair_135 (fun H_306 L_307 hP hS => ?_)
                    rw [nI_clamp (by omega)] at hP
                    obtain ⟨q_308, hq_308⟩ : ∃ z, z = upQ q_305 7 (upd (q_305 7) ((f * 70) + (i * 10)) (shM (q_305 11) ((nI i) + 1) K)) := ⟨_, rfl⟩
                    obtain ⟨M_309, hP, hR⟩ : ∃ z, xW D classes A z H_306 ∧ mR T bd K N M q_308 z := ⟨_, hP, by rw [hq_308]; exact hR.set (by omega) rfl⟩
                    have hM := hR.1
                    rw [show f * 70 + i * 10 = (f * 7 + i) * 10 + 0 by omega] at hq_308
                    refine lv_iinc (v := nI ((cuF (rpV N g f (nI (beF K N g f))) i) + 1)) (lv' := [(5, .int (nI ((cuF (rpV N g f (nI (beF K N g f))) i) + 1))), (0, .ref (bd 0)), (1, .int x), (2, .int (nI f)), (3, .int (nI (beF K N g f))), (4, .int (nI p0)), (6, .int (nI i))]) hx hb d_M_repair_136 hl (k := 5) rfl (nI_1 _) (by decide) rfl (fun ls hl => ?_)
                    refine lv_iinc (v := nI (i + 1)) (lv' := [(6, .int (nI (i + 1))), (5, .int (nI ((cuF (rpV N g f (nI (beF K N g f))) i) + 1))), (0, .ref (bd 0)), (1, .int x), (2, .int (nI f)), (3, .int (nI (beF K N g f))), (4, .int (nI p0))]) hx hb d_M_repair_139 hl (k := 6) rfl (nI_1 _) (by decide) rfl (fun ls hl => ?_)
                    refine lv_goto (tgt := 57) hx hb d_M_repair_142 (by decide) ?_
                    obtain ⟨u0, u1, u2, u3, u4⟩ := v3 i (by omega) hz0
                    have egy : ∀ k, k = 17 ∨ k = 18 → gyI N g g' f (nI (beF K N g f)) (i + 1) k f i = g' k f i := fun k hk => gyI_y ⟨hk, rfl, by omega, hz0⟩
                    refine ih (i + 1) q_308 (by omega) (by omega) (fun j hj => by rw [hq_308, upQ_n (by omega)]; exact e11 j hj) ?_ _ _ _ hP hS hR ls (by rw [ecu]; exact (lv_sub hl [2, 3, 4, 5, 6, 1, 0] rfl))
                    refine sM_rec r1 (f := f) (s := i) (by omega) (by omega) hz7 (fun k f1 s1 hk => ?_) (fun k z1 z2 => by rw [hq_308, upQ_n z1]; exact k1 k z1 z2) (fun a ha => by rw [hq_308, upQ_n (by omega), k2, upd_n ha]) (fun a b ha hb => by rw [hq_308, upQ_s, upd_n (by omega)]; exact k4 a b ha hb) ?_
                    · by_cases e : (k = 17 ∨ k = 18) ∧ f1 = f ∧ s1 < i ∧ ¬ rpV N g f (nI (beF K N g f)) s1 = 0
                      · rw [gyI_y e, gyI_y ⟨e.1, e.2.1, by omega, e.2.2.2⟩]
                      · rw [gyI_o e, gyI_o (fun z => e ⟨z.1, z.2.1, by
                          rcases Nat.lt_succ_iff_lt_or_eq.mp z.2.2.1 with q | q
                          · exact q
                          · exact absurd ⟨z.1, z.2.1, q⟩ hk, z.2.2.2⟩)]
                    · rw [egy 17 (Or.inl rfl), egy 18 (Or.inr rfl), hq_308]
                      have rc := rwS_cp hz7 rp k2 k3
                      rw [← hp0] at u0 u2 u3 u4
                      refine rwS_7 rc hz7 (by omega) u0 ?_ (by rw [if_neg (by omega)]; exact u2) (by rw [if_neg (by omega)]; exact u3) (fun j hj => by rw [if_neg (by omega), u4])
                      rw [if_pos rfl, u1, sh_eq (by omega)]; exact (shG_congr0 e11).symm
        exact loop (N + 1) 0 q_302 (by omega) (by omega) hdc2 (sM_cg (fun k f1 s1 _ _ _ _ _ _ => gyI_o (fun z => absurd z.2.2.1 (by omega))) hs1) _ _ _ hP hS hR ls (lv_sub hl [2, 3, 4, 5, 6, 1, 0] rfl)
      have loopF : ∀ (n fr : Nat), p0 + 1 ≤ fr + n → fr ≤ p0 → cuF (svF N g f (nI (beF K N g f))) fr = 0 → ∀ (ls : Array Slot), lv_has ls 7 [(0, .ref (bd 0)), (1, .int x), (2, .int (nI f)), (3, .int (nI (beF K N g f))), (4, .int (nI fr))] → W p l e (rmH 6) s m [.ref (bd 0), .int x].toArray below meth c H_300 L_301 0 0 Q (F0 m 34 ls []) := by
        intro n
        induction n with
        | zero => intro fr h1 h2; exact absurd h1 (by omega)
        | succ n ih =>
          intro fr h1 h2 h3 ls hl
          refine lv_aload_n hx hb d_M_repair_34 rfl (lv_at hl 0 rfl) ?_
          refine lv_iload_n hx hb d_M_repair_35 rfl (lv_at hl 2 rfl) ?_
          refine lv_iload hx hb d_M_repair_36 (lv_at hl 4 rfl) ?_
          refine lv_iload_n hx hb d_M_repair_38 rfl (lv_at hl 3 rfl) ?_
          refine xv_R (n := 3) (As := [.int (nI f), .int (nI fr), .int (nI (beF K N g f))]) (rest := []) hx hb hml hown hg hK0 hP (c_M_serves l D T A _ bd K N q_302 hz hM g hs1 c0 w hI f fr (by omega) (by omega) (nI (beF K N g f))) w_468 w_6 w_465 w_467 s_29 (ma_0 hM) rfl rfl (by decide +kernel) ⟨Nat.le_of_ble_eq_true rfl, Nat.le_of_ble_eq_true rfl⟩ rfl hl.1 rfl (Nat.le_of_ble_eq_true rfl) ⟨Nat.zero_le _, Nat.zero_le _⟩ rfl rfl d_M_repair_39 (fun r hr => ?_)
          subst hr
          refine x_fr (pc := 42) [.int (svF N g f (nI (beF K N g f)) fr)] rfl rfl ?_
          refine lv_if_ne (tgt := 51) hx hb d_M_repair_42 (by decide) (fun c42 => ?_) (fun c42 => ?_)
          · have efr : p0 = fr := by have := plF_eq (N := N) (u := svF N g f (nI (beF K N g f))) (s := fr) (by omega) c42; rw [h3] at this; rw [hp0]; exact this
            exact cont ls (by rw [efr]; exact (lv_sub hl [0, 1, 2, 3, 4] rfl))
          · have hne : fr ≠ p0 := fun z => hpl.2.1 (by rw [← z]; exact c42)
            refine lv_iinc (v := nI (fr + 1)) (lv' := [(4, .int (nI (fr + 1))), (0, .ref (bd 0)), (1, .int x), (2, .int (nI f)), (3, .int (nI (beF K N g f)))]) hx hb d_M_repair_45 hl (k := 4) rfl (nI_1 _) (by decide) rfl (fun ls hl => ?_)
            refine lv_goto (tgt := 34) hx hb d_M_repair_48 (by decide) ?_
            exact ih (fr + 1) (by omega) (by omega) (by rw [cuF_z c42]; exact h3) ls (lv_sub hl [1, 2, 3, 4, 0] rfl)
      exact loopF (p0 + 1) 0 (by omega) (by omega) rfl ls (lv_sub hl [3, 4, 2, 1, 0] rfl)
    · have hbn : beF K N g f = 0 := nI_z (by omega) cbe
      have hno : ¬ okR K N g c0 x := fun z => z.2 (by rw [ef]; exact hbn)
      refine lv_bipush (v := (-3)) hx hb d_M_repair_22 (by decide) ?_
      exact hret _ _ _ _ _ _ d_M_repair_24 hP hS ⟨by rw [aRepair, if_pos c7, ef, if_pos hbn], q, hR, sM_kp (hst.2 hno) hs⟩
  · have hno : ¬ okR K N g c0 x := fun z => c7 z.1
    refine lv_iconst (v := (-1)) hx hb d_M_repair_10 (by decide) ?_
    exact hret _ _ _ _ _ _ d_M_repair_11 hP hS ⟨by rw [aRepair, if_neg c7], q, hR, sM_kp (hst.2 hno) hs⟩
