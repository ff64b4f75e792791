/-! the reference: reading methods -/
set_option maxHeartbeats 4000000 in
set_option maxRecDepth 100000 in
theorem c_M_isSound (l : Launch) (D : va_G) (T : Nat → ClassId) (A : Nat → Prop) (M : xM) (bd : Nat → Nat) (K N : Nat) (q : Nat → Nat → Int32) (hz : zB K N) (hM : mG T bd K N q M) (g : gT) (hs : sM K N g q) (c0 : Nat) (w : Nat → Nat) (hI : iG N g c0 w) (f i : Nat) (hf : f < 6) (hi : i < N) : Met l y_M_isSound (Cond.code y_M_isSound b_M_isSound 5 (some .boolean) :: gw) (rmH 2) (xPc D T A M [.ref (bd 0), .int (nI f), .int (nI i)]) (xR (fun r => r = some (.int (sdG N g f i)))) 0 0 (fun _ => False) := by
  refine xMetRz (by decide) (Nat.le_of_ble_eq_true rfl) ?_
  intro p e s m below meth c Q ls hB hP hl hret
  obtain ⟨hx, hb, hml, hown, hg, hK0, hnm⟩ := hB
  have hown : s.vm.findClass "ShareGridModel" = some m.cls := hown
  have hK := hK0.1
  have hN := hK0.2.1
  obtain ⟨hz1, hz4, hzn, hz7⟩ := id hz
  obtain ⟨hq, hq6, hwr, hbo⟩ := id hI
  obtain ⟨t8, t0, t1, t2, t3⟩ := hs.rc hf hi
  obtain ⟨hw0, hw30⟩ := hwr f hf
  have hl : lv_has ls 5 [(0, .ref (bd 0)), (1, .int (nI f)), (2, .int (nI i))] := hl
  refine lv_iload_n hx hb d_M_isSound_0 rfl (lv_at hl 1 rfl) ?_
  refine lv_bipush (v := nI 7) hx hb d_M_isSound_1 (by decide) ?_
  refine lv_imul hx hb d_M_isSound_3 ?_
  refine x_top (y := nI (f * 7)) (pk_mul _ _) ?_
  refine lv_iload_n hx hb d_M_isSound_4 rfl (lv_at hl 2 rfl) ?_
  refine lv_iadd hx hb d_M_isSound_5 ?_
  refine x_top (y := nI ((f * 7) + i)) (nI_add _ _) ?_
  refine lv_istore_n (lv' := [(3, .int (nI ((f * 7) + i))), (0, .ref (bd 0)), (1, .int (nI f)), (2, .int (nI i))]) hx hb d_M_isSound_6 rfl hl (by decide) rfl (fun ls hl => ?_)
  refine lv_aload_n hx hb d_M_isSound_7 rfl (lv_at hl 1 rfl) ?_
  refine x_get (v := .ref (bd 7)) (C := R_M) (T := F_M) (N := 17) hx hb hg i_M hown hK hP (ma_0 hM) rfl 9 (by decide) (hg _ w_363) (fun _ h9 => h9) rfl d_M_isSound_8 ?_
  refine lv_iload_n hx hb d_M_isSound_11 rfl (lv_at hl 0 rfl) ?_
  refine lv_bipush (v := nI 10) hx hb d_M_isSound_12 (by decide) ?_
  refine lv_imul hx hb d_M_isSound_14 ?_
  refine x_top (y := nI (((f * 7) + i) * 10)) (pk_mul _ _) ?_
  refine lv_iconst (v := nI 1) hx hb d_M_isSound_15 (by decide) ?_
  refine lv_iadd hx hb d_M_isSound_16 ?_
  refine x_top (y := nI ((((f * 7) + i) * 10) + 1)) (nI_add _ _) ?_
  refine x_iald (v := q 7 ((((f * 7) + i) * 10) + 1)) hx hb hK hP 0 (ma_7 hM) rfl (vp_in_nI (by omega) (by omega)) (by rw [nI_clamp (by omega)]) d_M_isSound_17 ?_
  refine x_top (y := (g 17 f i 2)) t1 ?_
  refine lv_istore (lv' := [(4, .int (g 17 f i 2)), (3, .int (nI ((f * 7) + i))), (0, .ref (bd 0)), (1, .int (nI f)), (2, .int (nI i))]) hx hb d_M_isSound_18 hl (by decide) rfl (fun ls hl => ?_)
  refine lv_aload_n hx hb d_M_isSound_20 rfl (lv_at hl 2 rfl) ?_
  refine x_get (v := .ref (bd 8)) (C := R_M) (T := F_M) (N := 17) hx hb hg i_M hown hK hP (ma_0 hM) rfl 10 (by decide) (hg _ w_364) (fun _ h9 => h9) rfl d_M_isSound_21 ?_
  refine lv_iload_n hx hb d_M_isSound_24 rfl (lv_at hl 1 rfl) ?_
  refine x_zald (v := q 8 ((f * 7) + i)) hx hb hK hP 1 (ma_8 hM) rfl (vp_in_nI (by omega) (by omega)) (by rw [nI_clamp (by omega)]) d_M_isSound_25 ?_
  refine x_top (y := (g 17 f i 0)) t8 ?_
  refine lv_if_eq (tgt := 46) hx hb d_M_isSound_26 (by decide) (fun c_26 => ?_) (fun c_26 => ?_)
  · refine lv_iconst (v := 0) hx hb d_M_isSound_46 (by decide) ?_
    exact hret _ _ _ d_M_isSound_47 (by first | exact Or.inl rfl | exact Or.inr rfl) (by simp [sdG, sdF, c_26])
  · refine lv_iload hx hb d_M_isSound_29 (lv_at hl 0 rfl) ?_
    refine lv_iconst (v := 1) hx hb d_M_isSound_31 (by decide) ?_
    refine lv_icmp_lt (tgt := 46) hx hb d_M_isSound_32 (by decide) (fun c_32 => ?_) (fun c_32 => ?_)
    · refine lv_iconst (v := 0) hx hb d_M_isSound_46 (by decide) ?_
      exact hret _ _ _ d_M_isSound_47 (by first | exact Or.inl rfl | exact Or.inr rfl) (by simp [sdG, sdF, c_26, c_32])
    · refine lv_iload hx hb d_M_isSound_35 (lv_at hl 0 rfl) ?_
      refine lv_aload_n hx hb d_M_isSound_37 rfl (lv_at hl 2 rfl) ?_
      refine x_get (v := .ref (bd 4)) (C := R_M) (T := F_M) (N := 17) hx hb hg i_M hown hK hP (ma_0 hM) rfl 5 (by decide) (hg _ w_359) (fun _ h9 => h9) rfl d_M_isSound_38 ?_
      refine lv_iload_n hx hb d_M_isSound_41 rfl (lv_at hl 3 rfl) ?_
      refine x_iald (v := q 4 f) hx hb hK hP 0 (ma_4 hM) rfl (vp_in_nI (by omega) (by omega)) (by rw [nI_clamp (by omega)]) d_M_isSound_42 ?_
      refine x_top (y := (g 12 f 0 1)) (hs.wr hf) ?_
      refine lv_icmp_le (tgt := 48) hx hb d_M_isSound_43 (by decide) (fun c_43 => ?_) (fun c_43 => ?_)
      · obtain ⟨j, hj1, hj2, hj⟩ := ixw hw30 c_32 (by rw [← hw0]; exact c_43)
        have ej : (g 17 f i 2).toNatClampNeg = j := by rw [hj, nI_clamp (by omega)]
        refine lv_aload_n hx hb d_M_isSound_48 rfl (lv_at hl 2 rfl) ?_
        refine lv_aload_n hx hb d_M_isSound_49 rfl (lv_at hl 2 rfl) ?_
        refine x_get (v := .ref (bd 7)) (C := R_M) (T := F_M) (N := 17) hx hb hg i_M hown hK hP (ma_0 hM) rfl 9 (by decide) (hg _ w_363) (fun _ h9 => h9) rfl d_M_isSound_50 ?_
        refine lv_iload_n hx hb d_M_isSound_53 rfl (lv_at hl 1 rfl) ?_
        refine lv_bipush (v := nI 10) hx hb d_M_isSound_54 (by decide) ?_
        refine lv_imul hx hb d_M_isSound_56 ?_
        refine x_top (y := nI (((f * 7) + i) * 10)) (pk_mul _ _) ?_
        refine x_iald (v := q 7 (((f * 7) + i) * 10)) hx hb hK hP 0 (ma_7 hM) rfl (vp_in_nI (by omega) (by omega)) (by rw [nI_clamp (by omega)]) d_M_isSound_57 ?_
        refine x_top (y := (g 17 f i 1)) t0 ?_
        refine lv_iload_n hx hb d_M_isSound_58 rfl (lv_at hl 4 rfl) ?_
        refine lv_bipush (v := 100) hx hb d_M_isSound_59 (by decide) ?_
        refine lv_iadd hx hb d_M_isSound_61 ?_
        refine xv_R (n := 2) (As := [.int (g 17 f i 1), .int ((nI i) + 100)]) (rest := []) hx hb hml hown hg hK0 hP (c_M_mix l D T A _ bd K N q hz hM (g 17 f i 1) ((nI i) + 100)) w_413 w_6 w_410 w_412 s_20 (ma_0 hM) rfl rfl (by decide +kernel) ⟨Nat.le_of_ble_eq_true rfl, Nat.le_of_ble_eq_true rfl⟩ rfl hl.1 rfl (Nat.le_of_ble_eq_true rfl) ⟨Nat.zero_le _, Nat.zero_le _⟩ rfl rfl d_M_isSound_62 (fun r hr => ?_)
        subst hr
        refine x_fr (pc := 65) [.int (mixF (g 17 f i 1) ((nI i) + 100))] rfl rfl ?_
        refine lv_aload_n hx hb d_M_isSound_65 rfl (lv_at hl 2 rfl) ?_
        refine x_get (v := .ref (bd 7)) (C := R_M) (T := F_M) (N := 17) hx hb hg i_M hown hK hP (ma_0 hM) rfl 9 (by decide) (hg _ w_363) (fun _ h9 => h9) rfl d_M_isSound_66 ?_
        refine lv_iload_n hx hb d_M_isSound_69 rfl (lv_at hl 1 rfl) ?_
        refine lv_bipush (v := nI 10) hx hb d_M_isSound_70 (by decide) ?_
        refine lv_imul hx hb d_M_isSound_72 ?_
        refine x_top (y := nI (((f * 7) + i) * 10)) (pk_mul _ _) ?_
        refine lv_iconst (v := nI 3) hx hb d_M_isSound_73 (by decide) ?_
        refine lv_iadd hx hb d_M_isSound_74 ?_
        refine x_top (y := nI ((((f * 7) + i) * 10) + 3)) (nI_add _ _) ?_
        refine lv_iload_n hx hb d_M_isSound_75 rfl (lv_at hl 4 rfl) ?_
        refine lv_iadd hx hb d_M_isSound_76 ?_
        refine x_top (y := nI (((((f * 7) + i) * 10) + 3) + i)) (nI_add _ _) ?_
        refine x_iald (v := q 7 (((((f * 7) + i) * 10) + 3) + i)) hx hb hK hP 0 (ma_7 hM) rfl (vp_in_nI (by omega) (by omega)) (by rw [nI_clamp (by omega)]) d_M_isSound_77 ?_
        refine x_top (y := (g 18 f i i)) (t3 i hi) ?_
        refine lv_icmp_eq (tgt := 83) hx hb d_M_isSound_78 (by decide) (fun c_78 => ?_) (fun c_78 => ?_)
        · refine lv_aload_n hx hb d_M_isSound_83 rfl (lv_at hl 2 rfl) ?_
          refine lv_iload_n hx hb d_M_isSound_84 rfl (lv_at hl 1 rfl) ?_
          refine lv_iload hx hb d_M_isSound_85 (lv_at hl 0 rfl) ?_
          refine xv_R (n := 2) (As := [.int (nI ((f * 7) + i)), .int (g 17 f i 2)]) (rest := []) hx hb hml hown hg hK0 hP (c_M_rootOf l D T A _ bd K N q hz hM ((f * 7) + i) (by omega) (g 17 f i 2)) w_476 w_6 w_473 w_475 s_31 (ma_0 hM) rfl rfl (by decide +kernel) ⟨Nat.le_of_ble_eq_true rfl, Nat.le_of_ble_eq_true rfl⟩ rfl hl.1 rfl (Nat.le_of_ble_eq_true rfl) ⟨Nat.zero_le _, Nat.zero_le _⟩ rfl rfl d_M_isSound_87 (fun r hr => ?_)
          subst hr
          refine x_fr (pc := 90) [.int (rtF (fun j => q 7 (((f * 7) + i) * 10 + 3 + j)) N (g 17 f i 2))] rfl rfl ?_
          refine x_top (y := (rtF (g 18 f i) N (g 17 f i 2))) (rtF_congr t3) ?_
          refine lv_aload_n hx hb d_M_isSound_90 rfl (lv_at hl 2 rfl) ?_
          refine x_get (v := .ref (bd 5)) (C := R_M) (T := F_M) (N := 17) hx hb hg i_M hown hK hP (ma_0 hM) rfl 7 (by decide) (hg _ w_361) (fun _ h9 => h9) rfl d_M_isSound_91 ?_
          refine lv_iload_n hx hb d_M_isSound_94 rfl (lv_at hl 3 rfl) ?_
          refine lv_bipush (v := nI 31) hx hb d_M_isSound_95 (by decide) ?_
          refine lv_imul hx hb d_M_isSound_97 ?_
          refine x_top (y := nI (f * 31)) (pk_mul _ _) ?_
          refine lv_iload hx hb d_M_isSound_98 (lv_at hl 0 rfl) ?_
          refine lv_iadd hx hb d_M_isSound_100 ?_
          refine x_top (y := nI ((f * 31) + j)) (by rw [hj]; exact nI_add _ _) ?_
          refine x_iald (v := q 5 ((f * 31) + j)) hx hb hK hP 0 (ma_5 hM) rfl (vp_in_nI (by omega) (by omega)) (by rw [nI_clamp (by omega)]) d_M_isSound_101 ?_
          refine x_top (y := (g 15 f 0 (g 17 f i 2).toNatClampNeg)) (by rw [ej]; exact hs.ro hf (by omega)) ?_
          refine lv_icmp_ne (tgt := 135) hx hb d_M_isSound_102 (by decide) (fun c_102 => ?_) (fun c_102 => ?_)
          · refine lv_iconst (v := 0) hx hb d_M_isSound_135 (by decide) ?_
            exact hret _ _ _ d_M_isSound_136 (by first | exact Or.inl rfl | exact Or.inr rfl) (by simp [sdG, sdF, c_26, c_32, c_43, c_78, c_102])
          · refine lv_aload_n hx hb d_M_isSound_105 rfl (lv_at hl 2 rfl) ?_
            refine x_get (v := .ref (bd 7)) (C := R_M) (T := F_M) (N := 17) hx hb hg i_M hown hK hP (ma_0 hM) rfl 9 (by decide) (hg _ w_363) (fun _ h9 => h9) rfl d_M_isSound_106 ?_
            refine lv_iload_n hx hb d_M_isSound_109 rfl (lv_at hl 1 rfl) ?_
            refine lv_bipush (v := nI 10) hx hb d_M_isSound_110 (by decide) ?_
            refine lv_imul hx hb d_M_isSound_112 ?_
            refine x_top (y := nI (((f * 7) + i) * 10)) (pk_mul _ _) ?_
            refine lv_iconst (v := nI 2) hx hb d_M_isSound_113 (by decide) ?_
            refine lv_iadd hx hb d_M_isSound_114 ?_
            refine x_top (y := nI ((((f * 7) + i) * 10) + 2)) (nI_add _ _) ?_
            refine x_iald (v := q 7 ((((f * 7) + i) * 10) + 2)) hx hb hK hP 0 (ma_7 hM) rfl (vp_in_nI (by omega) (by omega)) (by rw [nI_clamp (by omega)]) d_M_isSound_115 ?_
            refine x_top (y := (g 17 f i 3)) t2 ?_
            refine lv_aload_n hx hb d_M_isSound_116 rfl (lv_at hl 2 rfl) ?_
            refine x_get (v := .ref (bd 6)) (C := R_M) (T := F_M) (N := 17) hx hb hg i_M hown hK hP (ma_0 hM) rfl 8 (by decide) (hg _ w_362) (fun _ h9 => h9) rfl d_M_isSound_117 ?_
            refine lv_iload_n hx hb d_M_isSound_120 rfl (lv_at hl 3 rfl) ?_
            refine lv_bipush (v := nI 31) hx hb d_M_isSound_121 (by decide) ?_
            refine lv_imul hx hb d_M_isSound_123 ?_
            refine x_top (y := nI (f * 31)) (pk_mul _ _) ?_
            refine lv_iload hx hb d_M_isSound_124 (lv_at hl 0 rfl) ?_
            refine lv_iadd hx hb d_M_isSound_126 ?_
            refine x_top (y := nI ((f * 31) + j)) (by rw [hj]; exact nI_add _ _) ?_
            refine x_iald (v := q 6 ((f * 31) + j)) hx hb hK hP 0 (ma_6 hM) rfl (vp_in_nI (by omega) (by omega)) (by rw [nI_clamp (by omega)]) d_M_isSound_127 ?_
            refine x_top (y := (g 16 f 0 (g 17 f i 2).toNatClampNeg)) (by rw [ej]; exact hs.se hf (by omega)) ?_
            refine lv_icmp_ne (tgt := 135) hx hb d_M_isSound_128 (by decide) (fun c_128 => ?_) (fun c_128 => ?_)
            · refine lv_iconst (v := 0) hx hb d_M_isSound_135 (by decide) ?_
              exact hret _ _ _ d_M_isSound_136 (by first | exact Or.inl rfl | exact Or.inr rfl) (by simp [sdG, sdF, c_26, c_32, c_43, c_78, c_102, c_128])
            · refine lv_iconst (v := 1) hx hb d_M_isSound_131 (by decide) ?_
              refine lv_goto (tgt := 136) hx hb d_M_isSound_132 (by decide) ?_
              exact hret _ _ _ d_M_isSound_136 (by first | exact Or.inl rfl | exact Or.inr rfl) (by simp [sdG, sdF, c_26, c_32, c_43, c_78, c_102, c_128])
        · refine lv_iconst (v := 0) hx hb d_M_isSound_81 (by decide) ?_
          exact hret _ _ _ d_M_isSound_82 (by first | exact Or.inl rfl | exact Or.inr rfl) (by simp [sdG, sdF, c_26, c_32, c_43, c_78])
      · refine lv_iconst (v := 0) hx hb d_M_isSound_46 (by decide) ?_
        exact hret _ _ _ d_M_isSound_47 (by first | exact Or.inl rfl | exact Or.inr rfl) (by simp [sdG, sdF, c_26, c_32, c_43])
set_option maxHeartbeats 4000000 in
set_option maxRecDepth 100000 in
theorem c_M_serves (l : Launch) (D : va_G) (T : Nat → ClassId) (A : Nat → Prop) (M : xM) (bd : Nat → Nat) (K N : Nat) (q : Nat → Nat → Int32) (hz : zB K N) (hM : mG T bd K N q M) (g : gT) (hs : sM K N g q) (c0 : Nat) (w : Nat → Nat) (hI : iG N g c0 w) (f i : Nat) (hf : f < 6) (hi : i < N) (x : Int32) : Met l y_M_serves (Cond.code y_M_serves b_M_serves 4 (some .boolean) :: gw) (rmH 3) (xPc D T A M [.ref (bd 0), .int (nI f), .int (nI i), .int x]) (xR (fun r => r = some (.int (svF N g f x i)))) 0 0 (fun _ => False) := by
  refine xMetRz (by decide) (Nat.le_of_ble_eq_true rfl) ?_
  intro p e s m below meth c Q ls hB hP hl hret
  obtain ⟨hx, hb, hml, hown, hg, hK0, hnm⟩ := hB
  have hown : s.vm.findClass "ShareGridModel" = some m.cls := hown
  have hK := hK0.1
  have hN := hK0.2.1
  obtain ⟨hz1, hz4, hzn, hz7⟩ := id hz
  obtain ⟨hq, hq6, hwr, hbo⟩ := id hI
  obtain ⟨t8, t0, t1, t2, t3⟩ := hs.rc hf hi
  have hl : lv_has ls 4 [(0, .ref (bd 0)), (1, .int (nI f)), (2, .int (nI i)), (3, .int x)] := hl
  refine lv_aload_n hx hb d_M_serves_0 rfl (lv_at hl 0 rfl) ?_
  refine x_get (v := .ref (bd 1)) (C := R_M) (T := F_M) (N := 17) hx hb hg i_M hown hK hP (ma_0 hM) rfl 2 (by decide) (hg _ w_356) (fun _ h9 => h9) rfl d_M_serves_1 ?_
  refine lv_iload_n hx hb d_M_serves_4 rfl (lv_at hl 2 rfl) ?_
  refine x_zald (v := q 1 i) hx hb hK hP 1 (ma_1 hM) rfl (vp_in_nI (by omega) (by omega)) (by rw [nI_clamp (by omega)]) d_M_serves_5 ?_
  refine x_top (y := (g 1 0 0 i)) (hs.up hi) ?_
  refine lv_if_eq (tgt := 42) hx hb d_M_serves_6 (by decide) (fun c_6 => ?_) (fun c_6 => ?_)
  · refine lv_iconst (v := 0) hx hb d_M_serves_42 (by decide) ?_
    exact hret _ _ _ d_M_serves_43 (by first | exact Or.inl rfl | exact Or.inr rfl) (by simp only [svF, c_6, reduceIte])
  · refine lv_aload_n hx hb d_M_serves_9 rfl (lv_at hl 0 rfl) ?_
    refine lv_iload_n hx hb d_M_serves_10 rfl (lv_at hl 1 rfl) ?_
    refine lv_iload_n hx hb d_M_serves_11 rfl (lv_at hl 2 rfl) ?_
    refine xv_R (n := 2) (As := [.int (nI f), .int (nI i)]) (rest := []) hx hb hml hown hg hK0 hP (c_M_isSound l D T A _ bd K N q hz hM g hs c0 w hI f i (by omega) (by omega)) w_472 w_6 w_469 w_471 s_30 (ma_0 hM) rfl rfl (by decide +kernel) ⟨Nat.le_of_ble_eq_true rfl, Nat.le_of_ble_eq_true rfl⟩ rfl hl.1 rfl (Nat.le_of_ble_eq_true rfl) ⟨Nat.zero_le _, Nat.zero_le _⟩ rfl rfl d_M_serves_12 (fun r hr => ?_)
    subst hr
    refine x_fr (pc := 15) [.int (sdG N g f i)] rfl rfl ?_
    refine lv_if_eq (tgt := 42) hx hb d_M_serves_15 (by decide) (fun c_15 => ?_) (fun c_15 => ?_)
    · refine lv_iconst (v := 0) hx hb d_M_serves_42 (by decide) ?_
      exact hret _ _ _ d_M_serves_43 (by first | exact Or.inl rfl | exact Or.inr rfl) (by simp only [svF, c_6, c_15, reduceIte])
    · refine lv_aload_n hx hb d_M_serves_18 rfl (lv_at hl 0 rfl) ?_
      refine x_get (v := .ref (bd 7)) (C := R_M) (T := F_M) (N := 17) hx hb hg i_M hown hK hP (ma_0 hM) rfl 9 (by decide) (hg _ w_363) (fun _ h9 => h9) rfl d_M_serves_19 ?_
      refine lv_iload_n hx hb d_M_serves_22 rfl (lv_at hl 1 rfl) ?_
      refine lv_bipush (v := nI 70) hx hb d_M_serves_23 (by decide) ?_
      refine lv_imul hx hb d_M_serves_25 ?_
      refine x_top (y := nI (f * 70)) (pk_mul _ _) ?_
      refine lv_iload_n hx hb d_M_serves_26 rfl (lv_at hl 2 rfl) ?_
      refine lv_bipush (v := nI 10) hx hb d_M_serves_27 (by decide) ?_
      refine lv_imul hx hb d_M_serves_29 ?_
      refine x_top (y := nI (i * 10)) (pk_mul _ _) ?_
      refine lv_iadd hx hb d_M_serves_30 ?_
      refine x_top (y := nI ((f * 70) + (i * 10))) (nI_add _ _) ?_
      refine lv_iconst (v := nI 1) hx hb d_M_serves_31 (by decide) ?_
      refine lv_iadd hx hb d_M_serves_32 ?_
      refine x_top (y := nI (((f * 70) + (i * 10)) + 1)) (nI_add _ _) ?_
      refine x_iald (v := q 7 (((f * 70) + (i * 10)) + 1)) hx hb hK hP 0 (ma_7 hM) rfl (vp_in_nI (by omega) (by omega)) (by rw [nI_clamp (by omega)]) d_M_serves_33 ?_
      refine x_top (y := (g 17 f i 2)) (by rw [show f * 70 + i * 10 + 1 = (f * 7 + i) * 10 + 1 by omega]; exact t1) ?_
      refine lv_iload_n hx hb d_M_serves_34 rfl (lv_at hl 3 rfl) ?_
      refine lv_icmp_ne (tgt := 42) hx hb d_M_serves_35 (by decide) (fun c_35 => ?_) (fun c_35 => ?_)
      · refine lv_iconst (v := 0) hx hb d_M_serves_42 (by decide) ?_
        exact hret _ _ _ d_M_serves_43 (by first | exact Or.inl rfl | exact Or.inr rfl) (by simp only [svF, c_6, c_15, c_35, reduceIte])
      · refine lv_iconst (v := 1) hx hb d_M_serves_38 (by decide) ?_
        refine lv_goto (tgt := 43) hx hb d_M_serves_39 (by decide) ?_
        exact hret _ _ _ d_M_serves_43 (by first | exact Or.inl rfl | exact Or.inr rfl) (by simp only [svF, c_6, c_15, c_35, reduceIte])
set_option maxHeartbeats 4000000 in
set_option maxRecDepth 100000 in
theorem c_M_bestOf (l : Launch) (D : va_G) (T : Nat → ClassId) (A : Nat → Prop) (M : xM) (bd : Nat → Nat) (K N : Nat) (q : Nat → Nat → Int32) (hz : zB K N) (hM : mG T bd K N q M) (g : gT) (hs : sM K N g q) (c0 : Nat) (w : Nat → Nat) (hI : iG N g c0 w) (f : Nat) (hf : f < 6) : Met l y_M_bestOf (Cond.code y_M_bestOf b_M_bestOf 5 (some .int) :: gw) (rmH 4) (xPc D T A M [.ref (bd 0), .int (nI f)]) (xR (fun r => r = some (.int (nI (beF K N g f))))) 0 0 (fun _ => False) := by
  refine xMetRi (by decide) (Nat.le_of_ble_eq_true rfl) ?_
  intro p e s m below meth c Q ls hB hP hl hret
  obtain ⟨hx, hb, hml, hown, hg, hK0, hnm⟩ := hB
  have hown : s.vm.findClass "ShareGridModel" = some m.cls := hown
  have hK := hK0.1
  have hN := hK0.2.1
  obtain ⟨hz1, hz4, hzn, hz7⟩ := id hz
  obtain ⟨hq, hq6, hwr, hbo⟩ := id hI
  obtain ⟨hw0, hw30⟩ := hwr f hf
  have ebe : beF K N g f = bdF (fun j => cuF (svF N g f (nI j)) N) K (w f) := by rw [beF, hw0, nI_clamp (by omega)]
  have hl : lv_has ls 5 [(0, .ref (bd 0)), (1, .int (nI f))] := hl
  refine lv_aload_n hx hb d_M_bestOf_0 rfl (lv_at hl 0 rfl) ?_
  refine x_get (v := .ref (bd 4)) (C := R_M) (T := F_M) (N := 17) hx hb hg i_M hown hK hP (ma_0 hM) rfl 5 (by decide) (hg _ w_359) (fun _ h9 => h9) rfl d_M_bestOf_1 ?_
  refine lv_iload_n hx hb d_M_bestOf_4 rfl (lv_at hl 1 rfl) ?_
  refine x_iald (v := q 4 f) hx hb hK hP 0 (ma_4 hM) rfl (vp_in_nI (by omega) (by omega)) (by rw [nI_clamp (by omega)]) d_M_bestOf_5 ?_
  refine x_top (y := nI (w f)) ((hs.wr hf).trans hw0) ?_
  refine lv_istore_n (lv' := [(2, .int (nI (w f))), (0, .ref (bd 0)), (1, .int (nI f))]) hx hb d_M_bestOf_6 rfl hl (by decide) rfl (fun ls hl => ?_)
  have loop2 : ∀ (u : Nat), u ≤ w f → beF K N g f = bdF (fun j => cuF (svF N g f (nI j)) N) K u → ∀ (ls : Array Slot), lv_has ls 5 [(0, .ref (bd 0)), (1, .int (nI f)), (2, .int (nI u))] → W p l e (rmH 4) s m [.ref (bd 0), .int (nI f)].toArray below meth c s.heap [] 0 0 Q (F0 m 7 ls []) := by
    intro u
    induction u with
    | zero =>
      intro hu he ls hl
      refine lv_iload_n hx hb d_M_bestOf_7 rfl (lv_at hl 2 rfl) ?_
      refine lv_if_le (tgt := 61) hx hb d_M_bestOf_8 (by decide) (fun c8 => ?_) (fun c8 => ?_)
      · refine lv_iconst (v := nI 0) hx hb d_M_bestOf_61 (by decide) ?_
        exact hret _ _ _ d_M_bestOf_62 (by rw [he]; rfl)
      · exact absurd (by decide) c8
    | succ u ihu =>
      intro hu he ls hl
      refine lv_iload_n hx hb d_M_bestOf_7 rfl (lv_at hl 2 rfl) ?_
      refine lv_if_le (tgt := 61) hx hb d_M_bestOf_8 (by decide) (fun c8 => ?_) (fun c8 => ?_)
      · exact absurd c8 (nI_nle (by omega) (by omega))
      · refine lv_iconst (v := nI 0) hx hb d_M_bestOf_11 (by decide) ?_
        refine lv_istore_n (lv' := [(3, .int (nI 0)), (0, .ref (bd 0)), (1, .int (nI f)), (2, .int (nI (u + 1)))]) hx hb d_M_bestOf_12 rfl hl (by decide) rfl (fun ls hl => ?_)
        refine lv_iconst (v := nI 0) hx hb d_M_bestOf_13 (by decide) ?_
        refine lv_istore (lv' := [(4, .int (nI 0)), (3, .int (nI 0)), (0, .ref (bd 0)), (1, .int (nI f)), (2, .int (nI (u + 1)))]) hx hb d_M_bestOf_14 hl (by decide) rfl (fun ls hl => ?_)
        have loop : ∀ (n : Nat) (i : Nat), N + 1 ≤ i + n → i ≤ N → ∀ (ls : Array Slot), lv_has ls 5 [(0, .ref (bd 0)), (1, .int (nI f)), (2, .int (nI (u + 1))), (3, .int (nI (cuF (svF N g f (nI (u + 1))) i))), (4, .int (nI i))] → W p l e (rmH 4) s m [.ref (bd 0), .int (nI f)].toArray below meth c s.heap [] 0 0 Q (F0 m 16 ls []) := by
          intro n
          induction n with
          | zero =>
            intro i h2 h1
            exact absurd h2 (by omega)
          | succ n ih =>
            intro i h2 h1 ls hl
            have hcl := cuF_le (svF N g f (nI (u + 1))) i
            refine lv_iload hx hb d_M_bestOf_16 (lv_at hl 4 rfl) ?_
            refine lv_aload_n hx hb d_M_bestOf_18 rfl (lv_at hl 0 rfl) ?_
            refine x_get (v := .int (nI N)) (C := R_M) (T := F_M) (N := 17) hx hb hg i_M hown hK hP (ma_0 hM) rfl 1 (by decide) (hg _ w_355) (fun _ h9 => h9) rfl d_M_bestOf_19 ?_
            refine x_nc_ge (tgt := 45) hx hb d_M_bestOf_22 (by decide) (by omega) (by omega) (fun c22 => ?_) (fun c22 => ?_)
            · have hiN : i = N := by omega
              rw [hiN] at hl
              rw [hiN] at hcl
              refine lv_iload_n hx hb d_M_bestOf_45 rfl (lv_at hl 3 rfl) ?_
              refine lv_aload_n hx hb d_M_bestOf_46 rfl (lv_at hl 0 rfl) ?_
              refine x_get (v := .int (nI K)) (C := R_M) (T := F_M) (N := 17) hx hb hg i_M hown hK hP (ma_0 hM) rfl 0 (by decide) (hg _ w_354) (fun _ h9 => h9) rfl d_M_bestOf_47 ?_
              refine x_nc_lt (tgt := 55) hx hb d_M_bestOf_50 (by decide) (by omega) (by omega) (fun c50 => ?_) (fun c50 => ?_)
              · refine lv_iinc (v := nI u) (lv' := [(2, .int (nI u)), (0, .ref (bd 0)), (1, .int (nI f)), (3, .int (nI (cuF (svF N g f (nI (u + 1))) N))), (4, .int (nI N))]) hx hb d_M_bestOf_55 hl (k := 2) rfl (pk_m1 u) (by decide) rfl (fun ls hl => ?_)
                refine lv_goto (tgt := 7) hx hb d_M_bestOf_58 (by decide) ?_
                exact ihu (by omega) (by rw [he, bdF, if_neg (Nat.not_le.mpr c50)]) ls (lv_sub hl [1, 2, 0] rfl)
              · refine lv_iload_n hx hb d_M_bestOf_53 rfl (lv_at hl 2 rfl) ?_
                exact hret _ _ _ d_M_bestOf_54 (by rw [he, bdF, if_pos c50])
            · refine lv_aload_n hx hb d_M_bestOf_25 rfl (lv_at hl 0 rfl) ?_
              refine lv_iload_n hx hb d_M_bestOf_26 rfl (lv_at hl 1 rfl) ?_
              refine lv_iload hx hb d_M_bestOf_27 (lv_at hl 4 rfl) ?_
              refine lv_iload_n hx hb d_M_bestOf_29 rfl (lv_at hl 2 rfl) ?_
              refine xv_R (n := 3) (As := [.int (nI f), .int (nI i), .int (nI (u + 1))]) (rest := []) hx hb hml hown hg hK0 hP (c_M_serves l D T A _ bd K N q hz hM g hs c0 w hI f i (by omega) (by omega) (nI (u + 1))) w_468 w_6 w_465 w_467 s_29 (ma_0 hM) rfl rfl (by decide +kernel) ⟨Nat.le_of_ble_eq_true rfl, Nat.le_of_ble_eq_true rfl⟩ rfl hl.1 rfl (Nat.le_of_ble_eq_true rfl) ⟨Nat.zero_le _, Nat.zero_le _⟩ rfl rfl d_M_bestOf_30 (fun r hr => ?_)
              subst hr
              refine x_fr (pc := 33) [.int (svF N g f (nI (u + 1)) i)] rfl rfl ?_
              refine lv_if_eq (tgt := 39) hx hb d_M_bestOf_33 (by decide) (fun c33 => ?_) (fun c33 => ?_)
              · have ecu : cuF (svF N g f (nI (u + 1))) (i + 1) = cuF (svF N g f (nI (u + 1))) i := cuF_z c33
                refine lv_iinc (v := nI (i + 1)) (lv' := [(4, .int (nI (i + 1))), (0, .ref (bd 0)), (1, .int (nI f)), (2, .int (nI (u + 1))), (3, .int (nI (cuF (svF N g f (nI (u + 1))) i)))]) hx hb d_M_bestOf_39 hl (k := 4) rfl (nI_1 _) (by decide) rfl (fun ls hl => ?_)
                refine lv_goto (tgt := 16) hx hb d_M_bestOf_42 (by decide) ?_
                exact ih (i + 1) (by omega) (by omega) ls (by rw [ecu]; exact (lv_sub hl [1, 2, 3, 4, 0] rfl))
              · have ecu : cuF (svF N g f (nI (u + 1))) (i + 1) = cuF (svF N g f (nI (u + 1))) i + 1 := cuF_s c33
                refine lv_iinc (v := nI ((cuF (svF N g f (nI (u + 1))) i) + 1)) (lv' := [(3, .int (nI ((cuF (svF N g f (nI (u + 1))) i) + 1))), (0, .ref (bd 0)), (1, .int (nI f)), (2, .int (nI (u + 1))), (4, .int (nI i))]) hx hb d_M_bestOf_36 hl (k := 3) rfl (nI_1 _) (by decide) rfl (fun ls hl => ?_)
                refine lv_iinc (v := nI (i + 1)) (lv' := [(4, .int (nI (i + 1))), (3, .int (nI ((cuF (svF N g f (nI (u + 1))) i) + 1))), (0, .ref (bd 0)), (1, .int (nI f)), (2, .int (nI (u + 1)))]) hx hb d_M_bestOf_39 hl (k := 4) rfl (nI_1 _) (by decide) rfl (fun ls hl => ?_)
                refine lv_goto (tgt := 16) hx hb d_M_bestOf_42 (by decide) ?_
                exact ih (i + 1) (by omega) (by omega) ls (by rw [ecu]; exact (lv_sub hl [2, 3, 4, 1, 0] rfl))
        exact loop (N + 1) 0 (by omega) (by omega) ls (lv_sub hl [2, 3, 4, 1, 0] rfl)
  exact loop2 (w f) (Nat.le_refl _) ebe ls (lv_sub hl [1, 2, 0] rfl)
def baF (N : Nat) (g : gT) (x y : Int32) : Int32 := if inF x (g 0 0 0 0) = 0 then 1 else if inF y (nI N) = 0 then 1 else 0
theorem baF_0 {N : Nat} {g : gT} {x y : Int32} (h : baF N g x y = 0) : ¬ inF x (g 0 0 0 0) = 0 ∧ ¬ inF y (nI N) = 0 := by
  unfold baF at h
  by_cases h1 : inF x (g 0 0 0 0) = 0
  · rw [if_pos h1] at h; exact absurd h (by decide)
  · rw [if_neg h1] at h
    by_cases h2 : inF y (nI N) = 0
    · rw [if_pos h2] at h; exact absurd h (by decide)
    · exact ⟨h1, h2⟩
theorem baF_1 {N : Nat} {g : gT} {x y : Int32} (h : ¬ baF N g x y = 0) : inF x (g 0 0 0 0) = 0 ∨ (¬ inF x (g 0 0 0 0) = 0 ∧ inF y (nI N) = 0) := by
  unfold baF at h
  by_cases h1 : inF x (g 0 0 0 0) = 0
  · exact Or.inl h1
  · rw [if_neg h1] at h
    by_cases h2 : inF y (nI N) = 0
    · exact Or.inr ⟨h1, h2⟩
    · rw [if_neg h2] at h; exact absurd rfl h
set_option maxHeartbeats 4000000 in
set_option maxRecDepth 100000 in
theorem c_M_bad (l : Launch) (D : va_G) (T : Nat → ClassId) (A : Nat → Prop) (M : xM) (bd : Nat → Nat) (K N : Nat) (q : Nat → Nat → Int32) (hz : zB K N) (hM : mG T bd K N q M) (g : gT) (hs : sM K N g q) (c0 : Nat) (w : Nat → Nat) (hI : iG N g c0 w) (x y : Int32) : Met l y_M_bad (Cond.code y_M_bad b_M_bad 3 (some .boolean) :: gw) (rmH 0) (xPc D T A M [.ref (bd 0), .int x, .int y]) (xR (fun r => r = some (.int (baF N g x y)))) 0 0 (fun _ => False) := by
  refine xMetRz (by decide) (Nat.le_of_ble_eq_true rfl) ?_
  intro p e s m below meth c Q ls hB hP hl hret
  obtain ⟨hx, hb, hml, hown, hg, hK0, hnm⟩ := hB
  have hown : s.vm.findClass "ShareGridModel" = some m.cls := hown
  have hK := hK0.1
  have hN := hK0.2.1
  obtain ⟨hz1, hz4, hzn, hz7⟩ := id hz
  obtain ⟨hq, hq6, hwr, hbo⟩ := id hI
  have hl : lv_has ls 3 [(0, .ref (bd 0)), (1, .int x), (2, .int y)] := hl
  refine lv_iload_n hx hb d_M_bad_0 rfl (lv_at hl 1 rfl) ?_
  refine lv_if_lt (tgt := 24) hx hb d_M_bad_1 (by decide) (fun c_1 => ?_) (fun c_1 => ?_)
  · refine lv_iconst (v := 1) hx hb d_M_bad_24 (by decide) ?_
    refine lv_goto (tgt := 29) hx hb d_M_bad_25 (by decide) ?_
    exact hret _ _ _ d_M_bad_29 (by first | exact Or.inl rfl | exact Or.inr rfl) (by simp [baF, inF, c_1])
  · refine lv_iload_n hx hb d_M_bad_4 rfl (lv_at hl 1 rfl) ?_
    refine lv_aload_n hx hb d_M_bad_5 rfl (lv_at hl 0 rfl) ?_
    refine x_get (v := .int (q 0 0)) (C := R_M) (T := F_M) (N := 17) hx hb hg i_M hown hK hP (ma_0 hM) rfl 6 (by decide) (hg _ w_360) (fun _ h9 => h9) rfl d_M_bad_6 ?_
    refine x_top (y := (g 0 0 0 0)) hs.n ?_
    refine lv_icmp_ge (tgt := 24) hx hb d_M_bad_9 (by decide) (fun c_9 => ?_) (fun c_9 => ?_)
    · refine lv_iconst (v := 1) hx hb d_M_bad_24 (by decide) ?_
      refine lv_goto (tgt := 29) hx hb d_M_bad_25 (by decide) ?_
      exact hret _ _ _ d_M_bad_29 (by first | exact Or.inl rfl | exact Or.inr rfl) (by simp [baF, inF, c_1, c_9])
    · refine lv_iload_n hx hb d_M_bad_12 rfl (lv_at hl 2 rfl) ?_
      refine lv_if_lt (tgt := 24) hx hb d_M_bad_13 (by decide) (fun c_13 => ?_) (fun c_13 => ?_)
      · refine lv_iconst (v := 1) hx hb d_M_bad_24 (by decide) ?_
        refine lv_goto (tgt := 29) hx hb d_M_bad_25 (by decide) ?_
        exact hret _ _ _ d_M_bad_29 (by first | exact Or.inl rfl | exact Or.inr rfl) (by simp [baF, inF, c_1, c_9, c_13])
      · refine lv_iload_n hx hb d_M_bad_16 rfl (lv_at hl 2 rfl) ?_
        refine lv_aload_n hx hb d_M_bad_17 rfl (lv_at hl 0 rfl) ?_
        refine x_get (v := .int (nI N)) (C := R_M) (T := F_M) (N := 17) hx hb hg i_M hown hK hP (ma_0 hM) rfl 1 (by decide) (hg _ w_355) (fun _ h9 => h9) rfl d_M_bad_18 ?_
        refine lv_icmp_lt (tgt := 28) hx hb d_M_bad_21 (by decide) (fun c_21 => ?_) (fun c_21 => ?_)
        · have c21n : ¬ nI N ≤ y := Int32.not_le.mpr c_21
          refine lv_iconst (v := 0) hx hb d_M_bad_28 (by decide) ?_
          exact hret _ _ _ d_M_bad_29 (by first | exact Or.inl rfl | exact Or.inr rfl) (by simp [baF, inF, c_1, c_9, c_13, c21n])
        · refine lv_iconst (v := 1) hx hb d_M_bad_24 (by decide) ?_
          refine lv_goto (tgt := 29) hx hb d_M_bad_25 (by decide) ?_
          exact hret _ _ _ d_M_bad_29 (by first | exact Or.inl rfl | exact Or.inr rfl) (by simp [baF, inF, c_1, c_9, c_13, Int32.not_lt.mp c_21])
set_option maxHeartbeats 4000000 in
set_option maxRecDepth 100000 in
theorem c_M_word (l : Launch) (D : va_G) (T : Nat → ClassId) (A : Nat → Prop) (M : xM) (bd : Nat → Nat) (K N : Nat) (q : Nat → Nat → Int32) (hz : zB K N) (hM : mG T bd K N q M) (g : gT) (hs : sM K N g q) (c0 : Nat) (w : Nat → Nat) (hI : iG N g c0 w) (x : Int32) : Met l y_M_word (Cond.code y_M_word b_M_word 2 (some .long) :: gw) (rmH 0) (xPc D T A M [.ref (bd 0), .int x]) (xR (fun r => r = some (.long (aWord K g x)))) 0 0 (fun _ => False) := by
  refine xMetRl (by decide) (Nat.le_of_ble_eq_true rfl) ?_
  intro p e s m below meth c Q ls hB hP hl hret
  obtain ⟨hx, hb, hml, hown, hg, hK0, hnm⟩ := hB
  have hown : s.vm.findClass "ShareGridModel" = some m.cls := hown
  have hK := hK0.1
  have hN := hK0.2.1
  obtain ⟨hz1, hz4, hzn, hz7⟩ := id hz
  obtain ⟨hq, hq6, hwr, hbo⟩ := id hI
  have hl : lv_has ls 2 [(0, .ref (bd 0)), (1, .int x)] := hl
  refine lv_aload_n hx hb d_M_word_0 rfl (lv_at hl 0 rfl) ?_
  refine x_get (v := .int (q 0 1)) (C := R_M) (T := F_M) (N := 17) hx hb hg i_M hown hK hP (ma_0 hM) rfl 13 (by decide) (hg _ w_367) (fun _ h9 => h9) rfl d_M_word_1 ?_
  refine x_top (y := (g 0 0 0 1)) hs.hr ?_
  refine lv_if_eq (tgt := 19) hx hb d_M_word_4 (by decide) (fun c_4 => ?_) (fun c_4 => ?_)
  · refine lv_ldc2 (v := (-1000000000000)) hx hb hown (hg _ w_489) d_M_word_19 ?_
    refine lv_goto (tgt := 32) hx hb d_M_word_22 (by decide) ?_
    exact hret _ _ _ d_M_word_32 (by simp [aWord, inF, c_4])
  · refine lv_iload_n hx hb d_M_word_7 rfl (lv_at hl 1 rfl) ?_
    refine lv_if_lt (tgt := 19) hx hb d_M_word_8 (by decide) (fun c_8 => ?_) (fun c_8 => ?_)
    · refine lv_ldc2 (v := (-1000000000000)) hx hb hown (hg _ w_489) d_M_word_19 ?_
      refine lv_goto (tgt := 32) hx hb d_M_word_22 (by decide) ?_
      exact hret _ _ _ d_M_word_32 (by simp [aWord, inF, c_4, c_8])
    · refine lv_iload_n hx hb d_M_word_11 rfl (lv_at hl 1 rfl) ?_
      refine lv_aload_n hx hb d_M_word_12 rfl (lv_at hl 0 rfl) ?_
      refine x_get (v := .int (nI K)) (C := R_M) (T := F_M) (N := 17) hx hb hg i_M hown hK hP (ma_0 hM) rfl 0 (by decide) (hg _ w_354) (fun _ h9 => h9) rfl d_M_word_13 ?_
      refine lv_icmp_lt (tgt := 25) hx hb d_M_word_16 (by decide) (fun c_16 => ?_) (fun c_16 => ?_)
      · have c16n : ¬ nI K ≤ x := Int32.not_le.mpr c_16
        have cin : ¬ inF x (nI K) = 0 := by simp [inF, c_8, c16n]
        obtain ⟨j, hj, rfl⟩ := inF_j (by omega) cin
        refine lv_aload_n hx hb d_M_word_25 rfl (lv_at hl 0 rfl) ?_
        refine x_get (v := .ref (bd 10)) (C := R_M) (T := F_M) (N := 17) hx hb hg i_M hown hK hP (ma_0 hM) rfl 12 (by decide) (hg _ w_366) (fun _ h9 => h9) rfl d_M_word_26 ?_
        refine lv_iload_n hx hb d_M_word_29 rfl (lv_at hl 1 rfl) ?_
        refine x_iald (v := q 10 j) hx hb hK hP 0 (ma_10 hM) rfl (vp_in_nI (by omega) (by omega)) (by rw [nI_clamp (by omega)]) d_M_word_30 ?_
        refine x_top (y := (g 5 0 0 j)) (hs.wo hj) ?_
        refine lv_i2l (v := (g 5 0 0 j).toInt64) hx hb d_M_word_31 rfl ?_
        exact hret _ _ _ d_M_word_32 (by rw [aWord, if_neg c_4, if_neg cin, nI_clamp (by omega)])
      · refine lv_ldc2 (v := (-1000000000000)) hx hb hown (hg _ w_489) d_M_word_19 ?_
        refine lv_goto (tgt := 32) hx hb d_M_word_22 (by decide) ?_
        exact hret _ _ _ d_M_word_32 (by simp [aWord, inF, c_4, c_8, Int32.not_lt.mp c_16])
theorem isB_of {x : Int32} (h1 : ¬ x < 0) (h2 : ¬ 255 < x) : isB x := by
  obtain ⟨j, hj, rfl⟩ := nI_of h1
  refine ⟨j, ?_, rfl⟩
  have a := Int32.not_lt.mp h2
  have := (nI_leI hj (b := 255) (by omega)).mp a
  omega
set_option maxHeartbeats 4000000 in
set_option maxRecDepth 100000 in
theorem c_M_times (l : Launch) (D : va_G) (T : Nat → ClassId) (A : Nat → Prop) (M : xM) (bd : Nat → Nat) (K N : Nat) (q : Nat → Nat → Int32) (hz : zB K N) (hM : mG T bd K N q M) (x y : Int32) : Met l y_M_times (Cond.code y_M_times b_M_times 3 (some .int) :: gw) (rmH 1) (xPc D T A M [.ref (bd 0), .int x, .int y]) (xR (fun r => r = some (.int (aTimes x y)))) 0 0 (fun _ => False) := by
  refine xMetRi (by decide) (Nat.le_of_ble_eq_true rfl) ?_
  intro p e s m below meth c Q ls hB hP hl hret
  obtain ⟨hx, hb, hml, hown, hg, hK0, hnm⟩ := hB
  have hown : s.vm.findClass "ShareGridModel" = some m.cls := hown
  have hK := hK0.1
  have hN := hK0.2.1
  obtain ⟨hz1, hz4, hzn, hz7⟩ := id hz
  have hl : lv_has ls 3 [(0, .ref (bd 0)), (1, .int x), (2, .int y)] := hl
  refine lv_iload_n hx hb d_M_times_0 rfl (lv_at hl 1 rfl) ?_
  refine lv_if_lt (tgt := 22) hx hb d_M_times_1 (by decide) (fun c_1 => ?_) (fun c_1 => ?_)
  · refine lv_iconst (v := (-1)) hx hb d_M_times_22 (by decide) ?_
    refine lv_goto (tgt := 32) hx hb d_M_times_23 (by decide) ?_
    exact hret _ _ _ d_M_times_32 (by simp [aTimes, byF, c_1])
  · refine lv_iload_n hx hb d_M_times_4 rfl (lv_at hl 1 rfl) ?_
    refine lv_sipush (v := 255) hx hb d_M_times_5 (by decide) ?_
    refine lv_icmp_gt (tgt := 22) hx hb d_M_times_8 (by decide) (fun c_8 => ?_) (fun c_8 => ?_)
    · refine lv_iconst (v := (-1)) hx hb d_M_times_22 (by decide) ?_
      refine lv_goto (tgt := 32) hx hb d_M_times_23 (by decide) ?_
      exact hret _ _ _ d_M_times_32 (by simp [aTimes, byF, c_1, c_8])
    · refine lv_iload_n hx hb d_M_times_11 rfl (lv_at hl 2 rfl) ?_
      refine lv_if_lt (tgt := 22) hx hb d_M_times_12 (by decide) (fun c_12 => ?_) (fun c_12 => ?_)
      · refine lv_iconst (v := (-1)) hx hb d_M_times_22 (by decide) ?_
        refine lv_goto (tgt := 32) hx hb d_M_times_23 (by decide) ?_
        exact hret _ _ _ d_M_times_32 (by simp [aTimes, byF, c_1, c_8, c_12])
      · refine lv_iload_n hx hb d_M_times_15 rfl (lv_at hl 2 rfl) ?_
        refine lv_sipush (v := 255) hx hb d_M_times_16 (by decide) ?_
        refine lv_icmp_le (tgt := 26) hx hb d_M_times_19 (by decide) (fun c_19 => ?_) (fun c_19 => ?_)
        · refine lv_aload_n hx hb d_M_times_26 rfl (lv_at hl 0 rfl) ?_
          refine lv_iload_n hx hb d_M_times_27 rfl (lv_at hl 1 rfl) ?_
          refine lv_iload_n hx hb d_M_times_28 rfl (lv_at hl 2 rfl) ?_
          refine xv_R (n := 2) (As := [.int x, .int y]) (rest := []) hx hb hml hown hg hK0 hP (c_M_product l D T A _ bd K N q hz hM x y) w_448 w_6 w_445 w_447 s_25 (ma_0 hM) rfl rfl (by decide +kernel) ⟨Nat.le_of_ble_eq_true rfl, Nat.le_of_ble_eq_true rfl⟩ rfl hl.1 rfl (Nat.le_of_ble_eq_true rfl) ⟨Nat.zero_le _, Nat.zero_le _⟩ rfl rfl d_M_times_29 (fun r hr => ?_)
          subst hr
          refine x_fr (pc := 32) [.int (prF x y)] rfl rfl ?_
          have hby := isB_of c_12 (Int32.not_lt.mpr c_19)
          have hbx := isB_of c_1 c_8
          exact hret _ _ _ d_M_times_32 (by rw [aTimes, if_neg (by simp [byF, c_1, c_8]), if_neg (by simp [byF, c_12, Int32.not_lt.mpr c_19]), prF_eq hbx hby])
        · refine lv_iconst (v := (-1)) hx hb d_M_times_22 (by decide) ?_
          refine lv_goto (tgt := 32) hx hb d_M_times_23 (by decide) ?_
          exact hret _ _ _ d_M_times_32 (by simp [aTimes, byF, c_1, c_8, c_12, Int32.not_le.mp c_19])
theorem cn_lo {x : Int32} {c0 : Nat} (hc : c0 ≤ 6) (h : x < 10) : inF (x - 10) (nI c0) = 0 := by
  have h1 := Int32.lt_iff_toInt_lt.mp h
  have e10 : (10 : Int32).toInt = 10 := by decide
  rw [e10] at h1
  have hs := Int32.toInt_sub x 10
  rw [e10] at hs
  have hx1 := Int32.le_toInt x
  by_cases hq : x - 10 < 0
  · simp [inF, hq]
  · have hq1 : ¬ (x - 10).toInt < 0 := fun z => hq (Int32.lt_iff_toInt_lt.mpr (by rw [show (0 : Int32).toInt = 0 by decide]; exact z))
    have hge : nI c0 ≤ x - 10 := by
      rw [Int32.le_iff_toInt_le, nI_toInt (by omega), hs]
      rw [hs] at hq1
      simp only [Int.bmod] at hq1 ⊢
      split at hq1 <;> split <;> omega
    simp [inF, hq, hge]
theorem cn_hi {x : Int32} {c0 : Nat} (hc : c0 ≤ 6) (h : ¬ x < 10) : ∃ j, x = nI (10 + j) ∧ j < 2 ^ 31 - 10 ∧ x - 10 = nI j := by
  have h0 : ¬ x < 0 := fun z => h (by
    have a := Int32.lt_iff_toInt_lt.mp z
    rw [show (0 : Int32).toInt = 0 by decide] at a
    exact Int32.lt_iff_toInt_lt.mpr (by rw [show (10 : Int32).toInt = 10 by decide]; omega))
  obtain ⟨k, hk, rfl⟩ := nI_of h0
  have hk10 : 10 ≤ k := by
    have := (nI_leI (a := 10) (b := k) (by omega) hk).mp (Int32.not_lt.mp h)
    exact this
  refine ⟨k - 10, by rw [show 10 + (k - 10) = k by omega], by omega, ?_⟩
  show nI k - nI 10 = nI (k - 10)
  exact pk_sub hk10
set_option maxHeartbeats 4000000 in
set_option maxRecDepth 100000 in
theorem c_M_count (l : Launch) (D : va_G) (T : Nat → ClassId) (A : Nat → Prop) (M : xM) (bd : Nat → Nat) (K N : Nat) (q : Nat → Nat → Int32) (hz : zB K N) (hM : mG T bd K N q M) (g : gT) (hs : sM K N g q) (c0 : Nat) (w : Nat → Nat) (hI : iG N g c0 w) (x : Int32) : Met l y_M_count (Cond.code y_M_count b_M_count 2 (some .int) :: gw) (rmH 1) (xPc D T A M [.ref (bd 0), .int x]) (xR (fun r => r = some (.int (aCount K N g c0 x)))) 0 0 (fun _ => False) := by
  refine xMetRi (by decide) (Nat.le_of_ble_eq_true rfl) ?_
  intro p e s m below meth c Q ls hB hP hl hret
  obtain ⟨hx, hb, hml, hown, hg, hK0, hnm⟩ := hB
  have hown : s.vm.findClass "ShareGridModel" = some m.cls := hown
  have hK := hK0.1
  have hN := hK0.2.1
  obtain ⟨hz1, hz4, hzn, hz7⟩ := id hz
  obtain ⟨hq, hq6, hwr, hbo⟩ := id hI
  have hl : lv_has ls 2 [(0, .ref (bd 0)), (1, .int x)] := hl
  refine lv_iload_n hx hb d_M_count_0 rfl (lv_at hl 1 rfl) ?_
  refine lv_if_ne (tgt := 9) hx hb d_M_count_1 (by decide) (fun c_1 => ?_) (fun c_1 => ?_)
  · refine lv_iload_n hx hb d_M_count_9 rfl (lv_at hl 1 rfl) ?_
    refine lv_iconst (v := 1) hx hb d_M_count_10 (by decide) ?_
    refine lv_icmp_ne (tgt := 19) hx hb d_M_count_11 (by decide) (fun c_11 => ?_) (fun c_11 => ?_)
    · refine lv_iload_n hx hb d_M_count_19 rfl (lv_at hl 1 rfl) ?_
      refine lv_iconst (v := 2) hx hb d_M_count_20 (by decide) ?_
      refine lv_icmp_ne (tgt := 29) hx hb d_M_count_21 (by decide) (fun c_21 => ?_) (fun c_21 => ?_)
      · refine lv_iload_n hx hb d_M_count_29 rfl (lv_at hl 1 rfl) ?_
        refine lv_iconst (v := 3) hx hb d_M_count_30 (by decide) ?_
        refine lv_icmp_ne (tgt := 39) hx hb d_M_count_31 (by decide) (fun c_31 => ?_) (fun c_31 => ?_)
        · refine lv_iload_n hx hb d_M_count_39 rfl (lv_at hl 1 rfl) ?_
          refine lv_bipush (v := 10) hx hb d_M_count_40 (by decide) ?_
          refine lv_icmp_lt (tgt := 68) hx hb d_M_count_42 (by decide) (fun c_42 => ?_) (fun c_42 => ?_)
          · refine lv_iconst (v := (-1)) hx hb d_M_count_68 (by decide) ?_
            exact hret _ _ _ d_M_count_69 (by rw [aCount, if_neg c_1, if_neg c_11, if_neg c_21, if_neg c_31, gnF, if_pos (cn_lo hq6 c_42)])
          · obtain ⟨j, hj, hj2, hj3⟩ := cn_hi hq6 c_42
            rw [hj] at hl
            refine lv_iload_n hx hb d_M_count_45 rfl (lv_at hl 1 rfl) ?_
            refine lv_bipush (v := nI 10) hx hb d_M_count_46 (by decide) ?_
            refine lv_aload_n hx hb d_M_count_48 rfl (lv_at hl 0 rfl) ?_
            refine x_get (v := .int (q 0 0)) (C := R_M) (T := F_M) (N := 17) hx hb hg i_M hown hK hP (ma_0 hM) rfl 6 (by decide) (hg _ w_360) (fun _ h9 => h9) rfl d_M_count_49 ?_
            refine x_top (y := nI c0) (hs.n.trans hq) ?_
            refine lv_iadd hx hb d_M_count_52 ?_
            refine x_top (y := nI (10 + c0)) (nI_add _ _) ?_
            refine x_nc_ge (tgt := 68) hx hb d_M_count_53 (by decide) (by omega) (by omega) (fun c_53 => ?_) (fun c_53 => ?_)
            · refine lv_iconst (v := (-1)) hx hb d_M_count_68 (by decide) ?_
              have hin : inF (x - 10) (nI c0) = 0 := by
                have q1 : ¬ nI j < 0 := nI_pos (by omega)
                have q2 : nI c0 ≤ nI j := (nI_leI (by omega) (by omega)).mpr (by omega)
                rw [hj3]; simp [inF, q1, q2]
              exact hret _ _ _ d_M_count_69 (by rw [aCount, if_neg c_1, if_neg c_11, if_neg c_21, if_neg c_31, gnF, if_pos hin])
            · refine lv_aload_n hx hb d_M_count_56 rfl (lv_at hl 0 rfl) ?_
              refine x_get (v := .ref (bd 4)) (C := R_M) (T := F_M) (N := 17) hx hb hg i_M hown hK hP (ma_0 hM) rfl 5 (by decide) (hg _ w_359) (fun _ h9 => h9) rfl d_M_count_57 ?_
              refine lv_iload_n hx hb d_M_count_60 rfl (lv_at hl 1 rfl) ?_
              refine lv_bipush (v := nI 10) hx hb d_M_count_61 (by decide) ?_
              refine lv_isub hx hb d_M_count_63 ?_
              refine x_top (y := nI ((10 + j) - 10)) (pk_sub (by omega)) ?_
              refine x_iald (v := q 4 ((10 + j) - 10)) hx hb hK hP 0 (ma_4 hM) rfl (vp_in_nI (by omega) (by omega)) (by rw [nI_clamp (by omega)]) d_M_count_64 ?_
              refine x_top (y := (g 12 j 0 1)) (by rw [show 10 + j - 10 = j by omega]; exact hs.wr (by omega)) ?_
              refine lv_goto (tgt := 69) hx hb d_M_count_65 (by decide) ?_
              have hin : ¬ inF (x - 10) (nI c0) = 0 := by
                have q1 : ¬ nI j < 0 := nI_pos (by omega)
                have q2 : ¬ nI c0 ≤ nI j := fun z => by have := (nI_leI (by omega) (by omega)).mp z; omega
                rw [hj3]; simp [inF, q1, q2]
              exact hret _ _ _ d_M_count_69 (by rw [aCount, if_neg c_1, if_neg c_11, if_neg c_21, if_neg c_31, gnF, if_neg hin, hj3, nI_clamp (by omega)])
        · refine lv_aload_n hx hb d_M_count_34 rfl (lv_at hl 0 rfl) ?_
          refine x_get (v := .int (nI N)) (C := R_M) (T := F_M) (N := 17) hx hb hg i_M hown hK hP (ma_0 hM) rfl 1 (by decide) (hg _ w_355) (fun _ h9 => h9) rfl d_M_count_35 ?_
          exact hret _ _ _ d_M_count_38 (by simp [aCount, c_1, c_11, c_21, c_31])
      · refine lv_aload_n hx hb d_M_count_24 rfl (lv_at hl 0 rfl) ?_
        refine x_get (v := .int (nI K)) (C := R_M) (T := F_M) (N := 17) hx hb hg i_M hown hK hP (ma_0 hM) rfl 0 (by decide) (hg _ w_354) (fun _ h9 => h9) rfl d_M_count_25 ?_
        exact hret _ _ _ d_M_count_28 (by simp [aCount, c_1, c_11, c_21])
    · refine lv_aload_n hx hb d_M_count_14 rfl (lv_at hl 0 rfl) ?_
      refine xv_R (n := 0) (As := []) (rest := []) hx hb hml hown hg hK0 hP (c_M_upCount l D T A _ bd K N q hz hM g hs c0 w hI) w_436 w_6 w_433 w_435 s_22 (ma_0 hM) rfl rfl (by decide +kernel) ⟨Nat.le_of_ble_eq_true rfl, Nat.le_of_ble_eq_true rfl⟩ rfl hl.1 rfl (Nat.le_of_ble_eq_true rfl) ⟨Nat.zero_le _, Nat.zero_le _⟩ rfl rfl d_M_count_15 (fun r hr => ?_)
      subst hr
      refine x_fr (pc := 18) [.int (nI (cuF (g 1 0 0) N))] rfl rfl ?_
      exact hret _ _ _ d_M_count_18 (by simp [aCount, c_1, c_11])
  · refine lv_aload_n hx hb d_M_count_4 rfl (lv_at hl 0 rfl) ?_
    refine x_get (v := .int (q 0 0)) (C := R_M) (T := F_M) (N := 17) hx hb hg i_M hown hK hP (ma_0 hM) rfl 6 (by decide) (hg _ w_360) (fun _ h9 => h9) rfl d_M_count_5 ?_
    refine x_top (y := nI c0) (hs.n.trans hq) ?_
    exact hret _ _ _ d_M_count_8 (by simp [aCount, c_1, hq])
set_option maxHeartbeats 4000000 in
set_option maxRecDepth 100000 in
theorem c_M_sound (l : Launch) (D : va_G) (T : Nat → ClassId) (A : Nat → Prop) (M : xM) (bd : Nat → Nat) (K N : Nat) (q : Nat → Nat → Int32) (hz : zB K N) (hM : mG T bd K N q M) (g : gT) (hs : sM K N g q) (c0 : Nat) (w : Nat → Nat) (hI : iG N g c0 w) (x : Int32) : Met l y_M_sound (Cond.code y_M_sound b_M_sound 5 (some .int) :: gw) (rmH 3) (xPc D T A M [.ref (bd 0), .int x]) (xR (fun r => r = some (.int (aSound N g c0 x)))) 0 0 (fun _ => False) := by
  refine xMetRi (by decide) (Nat.le_of_ble_eq_true rfl) ?_
  intro p e s m below meth c Q ls hB hP hl hret
  obtain ⟨hx, hb, hml, hown, hg, hK0, hnm⟩ := hB
  have hown : s.vm.findClass "ShareGridModel" = some m.cls := hown
  have hK := hK0.1
  have hN := hK0.2.1
  obtain ⟨hz1, hz4, hzn, hz7⟩ := id hz
  obtain ⟨hq, hq6, hwr, hbo⟩ := id hI
  have hl : lv_has ls 5 [(0, .ref (bd 0)), (1, .int x)] := hl
  refine lv_aload_n hx hb d_M_sound_0 rfl (lv_at hl 0 rfl) ?_
  refine lv_iload_n hx hb d_M_sound_1 rfl (lv_at hl 1 rfl) ?_
  refine xv_R (n := 1) (As := [.int x]) (rest := []) hx hb hml hown hg hK0 hP (c_M_fileOf l D T A _ bd K N q hz hM g hs c0 w hI x) w_424 w_6 w_421 w_423 s_21 (ma_0 hM) rfl rfl (by decide +kernel) ⟨Nat.le_of_ble_eq_true rfl, Nat.le_of_ble_eq_true rfl⟩ rfl hl.1 rfl (Nat.le_of_ble_eq_true rfl) ⟨Nat.zero_le _, Nat.zero_le _⟩ rfl rfl d_M_sound_2 (fun r hr => ?_)
  subst hr
  refine x_fr (pc := 5) [.int (fuF g c0 x)] rfl rfl ?_
  refine lv_istore_n (lv' := [(2, .int (fuF g c0 x)), (0, .ref (bd 0)), (1, .int x)]) hx hb d_M_sound_5 rfl hl (by decide) rfl (fun ls hl => ?_)
  refine lv_iload_n hx hb d_M_sound_6 rfl (lv_at hl 0 rfl) ?_
  refine lv_if_ge (tgt := 12) hx hb d_M_sound_7 (by decide) (fun c7 => ?_) (fun c7 => ?_)
  · obtain ⟨f, hf, hfe⟩ := fuF_ge (g := g) (q := c0) (x := x) c7
    rw [hfe] at hl
    have ef : (fuF g c0 x).toNatClampNeg = f := by rw [hfe, nI_clamp (by omega)]
    refine lv_iconst (v := nI 0) hx hb d_M_sound_12 (by decide) ?_
    refine lv_istore_n (lv' := [(3, .int (nI 0)), (2, .int (nI f)), (0, .ref (bd 0)), (1, .int x)]) hx hb d_M_sound_13 rfl hl (by decide) rfl (fun ls hl => ?_)
    refine lv_iconst (v := nI 0) hx hb d_M_sound_14 (by decide) ?_
    refine lv_istore (lv' := [(4, .int (nI 0)), (3, .int (nI 0)), (2, .int (nI f)), (0, .ref (bd 0)), (1, .int x)]) hx hb d_M_sound_15 hl (by decide) rfl (fun ls hl => ?_)
    have loop : ∀ (n : Nat) (i : Nat), N + 1 ≤ i + n → i ≤ N → ∀ (ls : Array Slot), lv_has ls 5 [(0, .ref (bd 0)), (1, .int x), (2, .int (nI f)), (3, .int (nI (cuF (spF N g f) i))), (4, .int (nI i))] → W p l e (rmH 3) s m [.ref (bd 0), .int x].toArray below meth c s.heap [] 0 0 Q (F0 m 17 ls []) := by
      intro n
      induction n with
      | zero =>
        intro i h2 h1
        exact absurd h2 (by omega)
      | succ n ih =>
        intro i h2 h1 ls hl
        refine lv_iload hx hb d_M_sound_17 (lv_at hl 4 rfl) ?_
        refine lv_aload_n hx hb d_M_sound_19 rfl (lv_at hl 0 rfl) ?_
        refine x_get (v := .int (nI N)) (C := R_M) (T := F_M) (N := 17) hx hb hg i_M hown hK hP (ma_0 hM) rfl 1 (by decide) (hg _ w_355) (fun _ h9 => h9) rfl d_M_sound_20 ?_
        refine x_nc_ge (tgt := 55) hx hb d_M_sound_23 (by decide) (by omega) (by omega) (fun c1 => ?_) (fun c1 => ?_)
        · have hiN : i = N := by omega
          subst hiN
          refine lv_iload_n hx hb d_M_sound_55 rfl (lv_at hl 3 rfl) ?_
          exact hret _ _ _ d_M_sound_56 (by rw [aSound, if_pos c7, ef])
        · refine lv_aload_n hx hb d_M_sound_26 rfl (lv_at hl 0 rfl) ?_
          refine x_get (v := .ref (bd 1)) (C := R_M) (T := F_M) (N := 17) hx hb hg i_M hown hK hP (ma_0 hM) rfl 2 (by decide) (hg _ w_356) (fun _ h9 => h9) rfl d_M_sound_27 ?_
          refine lv_iload hx hb d_M_sound_30 (lv_at hl 4 rfl) ?_
          refine x_zald (v := q 1 i) hx hb hK hP 1 (ma_1 hM) rfl (vp_in_nI (by omega) (by omega)) (by rw [nI_clamp (by omega)]) d_M_sound_32 ?_
          refine x_top (y := (g 1 0 0 i)) (hs.up (by omega)) ?_
          refine lv_if_eq (tgt := 49) hx hb d_M_sound_33 (by decide) (fun c2 => ?_) (fun c2 => ?_)
          · have ecu : cuF (spF N g f) (i + 1) = cuF (spF N g f) i := cuF_z (by rw [spF, if_pos c2])
            refine lv_iinc (v := nI (i + 1)) (lv' := [(4, .int (nI (i + 1))), (0, .ref (bd 0)), (1, .int x), (2, .int (nI f)), (3, .int (nI (cuF (spF N g f) i)))]) hx hb d_M_sound_49 hl (k := 4) rfl (nI_1 _) (by decide) rfl (fun ls hl => ?_)
            refine lv_goto (tgt := 17) hx hb d_M_sound_52 (by decide) ?_
            exact ih (i + 1) (by omega) (by omega) ls (by rw [ecu]; exact (lv_sub hl [1, 2, 3, 4, 0] rfl))
          · refine lv_aload_n hx hb d_M_sound_36 rfl (lv_at hl 0 rfl) ?_
            refine lv_iload_n hx hb d_M_sound_37 rfl (lv_at hl 2 rfl) ?_
            refine lv_iload hx hb d_M_sound_38 (lv_at hl 4 rfl) ?_
            refine xv_R (n := 2) (As := [.int (nI f), .int (nI i)]) (rest := []) hx hb hml hown hg hK0 hP (c_M_isSound l D T A _ bd K N q hz hM g hs c0 w hI f i (by omega) (by omega)) w_472 w_6 w_469 w_471 s_30 (ma_0 hM) rfl rfl (by decide +kernel) ⟨Nat.le_of_ble_eq_true rfl, Nat.le_of_ble_eq_true rfl⟩ rfl hl.1 rfl (Nat.le_of_ble_eq_true rfl) ⟨Nat.zero_le _, Nat.zero_le _⟩ rfl rfl d_M_sound_40 (fun r hr => ?_)
            subst hr
            refine x_fr (pc := 43) [.int (sdG N g f i)] rfl rfl ?_
            refine lv_if_eq (tgt := 49) hx hb d_M_sound_43 (by decide) (fun c3 => ?_) (fun c3 => ?_)
            · have ecu : cuF (spF N g f) (i + 1) = cuF (spF N g f) i := cuF_z (by rw [spF, if_neg c2]; exact c3)
              refine lv_iinc (v := nI (i + 1)) (lv' := [(4, .int (nI (i + 1))), (0, .ref (bd 0)), (1, .int x), (2, .int (nI f)), (3, .int (nI (cuF (spF N g f) i)))]) hx hb d_M_sound_49 hl (k := 4) rfl (nI_1 _) (by decide) rfl (fun ls hl => ?_)
              refine lv_goto (tgt := 17) hx hb d_M_sound_52 (by decide) ?_
              exact ih (i + 1) (by omega) (by omega) ls (by rw [ecu]; exact (lv_sub hl [1, 2, 3, 4, 0] rfl))
            · have ecu : cuF (spF N g f) (i + 1) = cuF (spF N g f) i + 1 := cuF_s (by rw [spF, if_neg c2]; exact c3)
              refine lv_iinc (v := nI ((cuF (spF N g f) i) + 1)) (lv' := [(3, .int (nI ((cuF (spF N g f) i) + 1))), (0, .ref (bd 0)), (1, .int x), (2, .int (nI f)), (4, .int (nI i))]) hx hb d_M_sound_46 hl (k := 3) rfl (nI_1 _) (by decide) rfl (fun ls hl => ?_)
              refine lv_iinc (v := nI (i + 1)) (lv' := [(4, .int (nI (i + 1))), (3, .int (nI ((cuF (spF N g f) i) + 1))), (0, .ref (bd 0)), (1, .int x), (2, .int (nI f))]) hx hb d_M_sound_49 hl (k := 4) rfl (nI_1 _) (by decide) rfl (fun ls hl => ?_)
              refine lv_goto (tgt := 17) hx hb d_M_sound_52 (by decide) ?_
              exact ih (i + 1) (by omega) (by omega) ls (by rw [ecu]; exact (lv_sub hl [2, 3, 4, 1, 0] rfl))
    exact loop (N + 1) 0 (by omega) (by omega) ls (lv_sub hl [3, 4, 2, 1, 0] rfl)
  · refine lv_iconst (v := (-1)) hx hb d_M_sound_10 (by decide) ?_
    exact hret _ _ _ d_M_sound_11 (by rw [aSound, if_neg c7])
set_option maxHeartbeats 4000000 in
set_option maxRecDepth 100000 in
theorem c_M_best (l : Launch) (D : va_G) (T : Nat → ClassId) (A : Nat → Prop) (M : xM) (bd : Nat → Nat) (K N : Nat) (q : Nat → Nat → Int32) (hz : zB K N) (hM : mG T bd K N q M) (g : gT) (hs : sM K N g q) (c0 : Nat) (w : Nat → Nat) (hI : iG N g c0 w) (x : Int32) : Met l y_M_best (Cond.code y_M_best b_M_best 3 (some .int) :: gw) (rmH 5) (xPc D T A M [.ref (bd 0), .int x]) (xR (fun r => r = some (.int (aBest K N g c0 x)))) 0 0 (fun _ => False) := by
  refine xMetRi (by decide) (Nat.le_of_ble_eq_true rfl) ?_
  intro p e s m below meth c Q ls hB hP hl hret
  obtain ⟨hx, hb, hml, hown, hg, hK0, hnm⟩ := hB
  have hown : s.vm.findClass "ShareGridModel" = some m.cls := hown
  have hK := hK0.1
  have hN := hK0.2.1
  obtain ⟨hz1, hz4, hzn, hz7⟩ := id hz
  obtain ⟨hq, hq6, hwr, hbo⟩ := id hI
  have hl : lv_has ls 3 [(0, .ref (bd 0)), (1, .int x)] := hl
  refine lv_aload_n hx hb d_M_best_0 rfl (lv_at hl 0 rfl) ?_
  refine lv_iload_n hx hb d_M_best_1 rfl (lv_at hl 1 rfl) ?_
  refine xv_R (n := 1) (As := [.int x]) (rest := []) hx hb hml hown hg hK0 hP (c_M_fileOf l D T A _ bd K N q hz hM g hs c0 w hI x) w_424 w_6 w_421 w_423 s_21 (ma_0 hM) rfl rfl (by decide +kernel) ⟨Nat.le_of_ble_eq_true rfl, Nat.le_of_ble_eq_true rfl⟩ rfl hl.1 rfl (Nat.le_of_ble_eq_true rfl) ⟨Nat.zero_le _, Nat.zero_le _⟩ rfl rfl d_M_best_2 (fun r hr => ?_)
  subst hr
  refine x_fr (pc := 5) [.int (fuF g c0 x)] rfl rfl ?_
  refine lv_istore_n (lv' := [(2, .int (fuF g c0 x)), (0, .ref (bd 0)), (1, .int x)]) hx hb d_M_best_5 rfl hl (by decide) rfl (fun ls hl => ?_)
  refine lv_iload_n hx hb d_M_best_6 rfl (lv_at hl 0 rfl) ?_
  refine lv_if_ge (tgt := 14) hx hb d_M_best_7 (by decide) (fun c7 => ?_) (fun c7 => ?_)
  · obtain ⟨f, hf, hfe⟩ := fuF_ge (g := g) (q := c0) (x := x) c7
    rw [hfe] at hl
    have ef : (fuF g c0 x).toNatClampNeg = f := by rw [hfe, nI_clamp (by omega)]
    refine lv_aload_n hx hb d_M_best_14 rfl (lv_at hl 1 rfl) ?_
    refine lv_iload_n hx hb d_M_best_15 rfl (lv_at hl 0 rfl) ?_
    refine xv_R (n := 1) (As := [.int (nI f)]) (rest := []) hx hb hml hown hg hK0 hP (c_M_bestOf l D T A _ bd K N q hz hM g hs c0 w hI f (by omega)) w_464 w_6 w_461 w_463 s_28 (ma_0 hM) rfl rfl (by decide +kernel) ⟨Nat.le_of_ble_eq_true rfl, Nat.le_of_ble_eq_true rfl⟩ rfl hl.1 rfl (Nat.le_of_ble_eq_true rfl) ⟨Nat.zero_le _, Nat.zero_le _⟩ rfl rfl d_M_best_16 (fun r hr => ?_)
    subst hr
    refine x_fr (pc := 19) [.int (nI (beF K N g f))] rfl rfl ?_
    exact hret _ _ _ d_M_best_19 (by rw [aBest, if_pos c7, ef])
  · refine lv_iconst (v := (-1)) hx hb d_M_best_10 (by decide) ?_
    refine lv_goto (tgt := 19) hx hb d_M_best_11 (by decide) ?_
    exact hret _ _ _ d_M_best_19 (by rw [aBest, if_neg c7])
set_option maxHeartbeats 4000000 in
set_option maxRecDepth 100000 in
theorem c_M_share (l : Launch) (D : va_G) (T : Nat → ClassId) (A : Nat → Prop) (M : xM) (bd : Nat → Nat) (K N : Nat) (q : Nat → Nat → Int32) (hz : zB K N) (hM : mG T bd K N q M) (g : gT) (hs : sM K N g q) (c0 : Nat) (w : Nat → Nat) (hI : iG N g c0 w) (x y z : Int32) : Met l y_M_share (Cond.code y_M_share b_M_share 4 (some .long) :: gw) (rmH 1) (xPc D T A M [.ref (bd 0), .int x, .int y, .int z]) (xR (fun r => r = some (.long (aShare N g x y z)))) 0 0 (fun _ => False) := by
  refine xMetRl (by decide) (Nat.le_of_ble_eq_true rfl) ?_
  intro p e s m below meth c Q ls hB hP hl hret
  obtain ⟨hx, hb, hml, hown, hg, hK0, hnm⟩ := hB
  have hown : s.vm.findClass "ShareGridModel" = some m.cls := hown
  have hK := hK0.1
  have hN := hK0.2.1
  obtain ⟨hz1, hz4, hzn, hz7⟩ := id hz
  obtain ⟨hq, hq6, hwr, hbo⟩ := id hI
  have hl : lv_has ls 4 [(0, .ref (bd 0)), (1, .int x), (2, .int y), (3, .int z)] := hl
  refine lv_aload_n hx hb d_M_share_0 rfl (lv_at hl 0 rfl) ?_
  refine lv_iload_n hx hb d_M_share_1 rfl (lv_at hl 1 rfl) ?_
  refine lv_iload_n hx hb d_M_share_2 rfl (lv_at hl 2 rfl) ?_
  refine xv_R (n := 2) (As := [.int x, .int y]) (rest := []) hx hb hml hown hg hK0 hP (c_M_bad l D T A _ bd K N q hz hM g hs c0 w hI x y) w_517 w_6 w_514 w_516 s_35 (ma_0 hM) rfl rfl (by decide +kernel) ⟨Nat.le_of_ble_eq_true rfl, Nat.le_of_ble_eq_true rfl⟩ rfl hl.1 rfl (Nat.le_of_ble_eq_true rfl) ⟨Nat.zero_le _, Nat.zero_le _⟩ rfl rfl d_M_share_3 (fun r hr => ?_)
  subst hr
  refine x_fr (pc := 6) [.int (baF N g x y)] rfl rfl ?_
  refine lv_if_ne (tgt := 32) hx hb d_M_share_6 (by decide) (fun c_6 => ?_) (fun c_6 => ?_)
  · refine lv_ldc2 (v := (-1000000000000)) hx hb hown (hg _ w_489) d_M_share_32 ?_
    exact hret _ _ _ d_M_share_35 (by
      rcases baF_1 (show ¬ baF N g x y = 0 from c_6) with h | ⟨h, h1⟩
      · rw [aShare, if_pos h]
      · rw [aShare, if_neg h, if_pos h1])
  · obtain ⟨c5, c13⟩ := baF_0 (show baF N g x y = 0 from by simpa using c_6)
    have c8 := c5
    rw [hq] at c8
    obtain ⟨f, hf, rfl⟩ := inF_j (by omega) c8
    obtain ⟨i, hi, rfl⟩ := inF_j (by omega) c13
    have ef : (nI f).toNatClampNeg = f := nI_clamp (by omega)
    have ei : (nI i).toNatClampNeg = i := nI_clamp (by omega)
    obtain ⟨t8, t0, t1, t2, t3⟩ := hs.rc (f := f) (s := i) (by omega) hi
    refine lv_aload_n hx hb d_M_share_9 rfl (lv_at hl 0 rfl) ?_
    refine x_get (v := .ref (bd 8)) (C := R_M) (T := F_M) (N := 17) hx hb hg i_M hown hK hP (ma_0 hM) rfl 10 (by decide) (hg _ w_364) (fun _ h9 => h9) rfl d_M_share_10 ?_
    refine lv_iload_n hx hb d_M_share_13 rfl (lv_at hl 1 rfl) ?_
    refine lv_bipush (v := nI 7) hx hb d_M_share_14 (by decide) ?_
    refine lv_imul hx hb d_M_share_16 ?_
    refine x_top (y := nI (f * 7)) (pk_mul _ _) ?_
    refine lv_iload_n hx hb d_M_share_17 rfl (lv_at hl 2 rfl) ?_
    refine lv_iadd hx hb d_M_share_18 ?_
    refine x_top (y := nI ((f * 7) + i)) (nI_add _ _) ?_
    refine x_zald (v := q 8 ((f * 7) + i)) hx hb hK hP 1 (ma_8 hM) rfl (vp_in_nI (by omega) (by omega)) (by rw [nI_clamp (by omega)]) d_M_share_19 ?_
    refine x_top (y := (g 17 f i 0)) t8 ?_
    refine lv_if_eq (tgt := 32) hx hb d_M_share_20 (by decide) (fun c_20 => ?_) (fun c_20 => ?_)
    · refine lv_ldc2 (v := (-1000000000000)) hx hb hown (hg _ w_489) d_M_share_32 ?_
      exact hret _ _ _ d_M_share_35 (by rw [aShare, if_neg c5, if_neg c13, ef, ei, if_pos c_20])
    · refine lv_iload_n hx hb d_M_share_23 rfl (lv_at hl 3 rfl) ?_
      refine lv_if_lt (tgt := 32) hx hb d_M_share_24 (by decide) (fun c_24 => ?_) (fun c_24 => ?_)
      · refine lv_ldc2 (v := (-1000000000000)) hx hb hown (hg _ w_489) d_M_share_32 ?_
        exact hret _ _ _ d_M_share_35 (by
          have z0 : ¬ z = 0 ∧ ¬ z = 1 ∧ ¬ z = 2 := by
            refine ⟨fun h => absurd c_24 (by rw [h]; decide), fun h => absurd c_24 (by rw [h]; decide), fun h => absurd c_24 (by rw [h]; decide)⟩
          rw [aShare, if_neg c5, if_neg c13, ef, ei, if_neg c_20, if_neg z0.1, if_neg z0.2.1, if_neg z0.2.2])
      · refine lv_iload_n hx hb d_M_share_27 rfl (lv_at hl 3 rfl) ?_
        refine lv_iconst (v := 2) hx hb d_M_share_28 (by decide) ?_
        refine lv_icmp_le (tgt := 36) hx hb d_M_share_29 (by decide) (fun c_29 => ?_) (fun c_29 => ?_)
        · obtain ⟨j, hj3, hj⟩ : ∃ j : Nat, j < 3 ∧ z = nI j := by
            obtain ⟨j, hj, rfl⟩ := nI_of c_24
            have := (nI_leI hj (b := 2) (by omega)).mp c_29
            exact ⟨j, by omega, rfl⟩
          rw [hj] at hl
          have ev : q 7 (f * 70 + i * 10 + j) = if z = 0 then g 17 f i 1 else if z = 1 then g 17 f i 2 else g 17 f i 3 := by
            rcases (show j = 0 ∨ j = 1 ∨ j = 2 by omega) with rfl | rfl | rfl
            · rw [hj, if_pos (show nI 0 = 0 by decide), show f * 70 + i * 10 + 0 = (f * 7 + i) * 10 by omega]; exact t0
            · rw [hj, if_neg (by decide), if_pos (show nI 1 = 1 by decide), show f * 70 + i * 10 + 1 = (f * 7 + i) * 10 + 1 by omega]; exact t1
            · rw [hj, if_neg (by decide), if_neg (by decide), show f * 70 + i * 10 + 2 = (f * 7 + i) * 10 + 2 by omega]; exact t2
          refine lv_aload_n hx hb d_M_share_36 rfl (lv_at hl 0 rfl) ?_
          refine x_get (v := .ref (bd 7)) (C := R_M) (T := F_M) (N := 17) hx hb hg i_M hown hK hP (ma_0 hM) rfl 9 (by decide) (hg _ w_363) (fun _ h9 => h9) rfl d_M_share_37 ?_
          refine lv_iload_n hx hb d_M_share_40 rfl (lv_at hl 1 rfl) ?_
          refine lv_bipush (v := nI 70) hx hb d_M_share_41 (by decide) ?_
          refine lv_imul hx hb d_M_share_43 ?_
          refine x_top (y := nI (f * 70)) (pk_mul _ _) ?_
          refine lv_iload_n hx hb d_M_share_44 rfl (lv_at hl 2 rfl) ?_
          refine lv_bipush (v := nI 10) hx hb d_M_share_45 (by decide) ?_
          refine lv_imul hx hb d_M_share_47 ?_
          refine x_top (y := nI (i * 10)) (pk_mul _ _) ?_
          refine lv_iadd hx hb d_M_share_48 ?_
          refine x_top (y := nI ((f * 70) + (i * 10))) (nI_add _ _) ?_
          refine lv_iload_n hx hb d_M_share_49 rfl (lv_at hl 3 rfl) ?_
          refine lv_iadd hx hb d_M_share_50 ?_
          refine x_top (y := nI (((f * 70) + (i * 10)) + j)) (nI_add _ _) ?_
          refine x_iald (v := q 7 (((f * 70) + (i * 10)) + j)) hx hb hK hP 0 (ma_7 hM) rfl (vp_in_nI (by omega) (by omega)) (by rw [nI_clamp (by omega)]) d_M_share_51 ?_
          refine lv_i2l (v := (q 7 (((f * 70) + (i * 10)) + j)).toInt64) hx hb d_M_share_52 rfl ?_
          exact hret _ _ _ d_M_share_53 (by
            rw [ev, aShare, if_neg c5, if_neg c13, ef, ei, if_neg c_20]
            rcases (show j = 0 ∨ j = 1 ∨ j = 2 by omega) with rfl | rfl | rfl
            · rw [hj]; rfl
            · rw [hj]; rfl
            · rw [hj]; rfl)
        · refine lv_ldc2 (v := (-1000000000000)) hx hb hown (hg _ w_489) d_M_share_32 ?_
          exact hret _ _ _ d_M_share_35 (by
            have z0 : ¬ z = 0 ∧ ¬ z = 1 ∧ ¬ z = 2 := by
              refine ⟨fun h => c_29 (by rw [h]; decide), fun h => c_29 (by rw [h]; decide), fun h => c_29 (by rw [h]; decide)⟩
            rw [aShare, if_neg c5, if_neg c13, ef, ei, if_neg c_20, if_neg z0.1, if_neg z0.2.1, if_neg z0.2.2])
