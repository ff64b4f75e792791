/-! the reference: decode -/
theorem upQ_id {q : qT} {k : Nat} : upQ q k (q k) = q := by
  funext k1
  by_cases e : k1 = k
  · subst e; rw [upQ_s]
  · rw [upQ_n e]
set_option maxHeartbeats 4000000 in
set_option maxRecDepth 100000 in
theorem c_M_subtract (l : Launch) (D : va_G) (T : Nat → ClassId) (A : Nat → Prop) (M : xM) (bd : Nat → Nat) (K N : Nat) (q : Nat → Nat → Int32) (hz : zB K N) (hM : mG T bd K N q M) (u v : Nat) (hu : u < 4) (hv : v < 4) (t : Int32) : Met l y_M_subtract (Cond.code y_M_subtract b_M_subtract 5 none :: gw) (rmH 2) (xPc D T A M [.ref (bd 0), .int (nI u), .int (nI v), .int t]) (xQ D A (fun r M1 => r = none ∧ mR T bd K N M (upQ (upQ q 12 (sbL u v t K (q 12))) 13 (sbR (q 13) u v t)) M1)) 0 0 A := by
  refine xMetQv (by decide) (Nat.le_of_ble_eq_true rfl) ?_
  intro p e s m below meth c Q ls hB hP hS hl hret
  obtain ⟨hx, hb, hml, hown, hg, hK0, hnm⟩ := hB
  have hown : s.vm.findClass "ShareGridModel" = some m.cls := hown
  have hK := hK0.1
  have hN := hK0.2.1
  obtain ⟨hz1, hz4, hzn, hz7⟩ := id hz
  have hR := hM.rf
  have hl : lv_has ls 5 [(0, .ref (bd 0)), (1, .int (nI u)), (2, .int (nI v)), (3, .int t)] := hl
  refine lv_iconst (v := nI 0) hx hb d_M_subtract_0 (by decide) ?_
  refine lv_istore (lv' := [(4, .int (nI 0)), (0, .ref (bd 0)), (1, .int (nI u)), (2, .int (nI v)), (3, .int t)]) hx hb d_M_subtract_1 hl (by decide) rfl (fun ls hl => ?_)
  have loop : ∀ (n : Nat) (i : Nat), K + 1 ≤ i + n → i ≤ K → ∀ (Mx : xM) (Hx : Heap) (Lx : List Loc), xW D classes A Mx Hx → va_S A s.heap Hx Lx → mR T bd K N M (upQ q 12 (sbL u v t i (q 12))) Mx → ∀ (ls : Array Slot), lv_has ls 5 [(0, .ref (bd 0)), (1, .int (nI u)), (2, .int (nI v)), (3, .int t), (4, .int (nI i))] → W p l e (rmH 2) s m [.ref (bd 0), .int (nI u), .int (nI v), .int t].toArray below meth c Hx Lx 0 0 Q (F0 m 3 ls []) := by
    intro n
    induction n with
    | zero =>
      intro i h2 h1
      exact absurd h2 (by omega)
    | succ n ih =>
      intro i h2 h1 Mx Hx Lx hP hS hR ls hl
      have hM := hR.1
      refine lv_iload hx hb d_M_subtract_3 (lv_at hl 4 rfl) ?_
      refine lv_aload_n hx hb d_M_subtract_5 rfl (lv_at hl 0 rfl) ?_
      refine x_get (v := .int (nI K)) (C := R_M) (T := F_M) (N := 17) hx hb hg i_M hown hK hP (ma_0 hM) rfl 0 (by decide) (hg _ w_354) (fun _ h9 => h9) rfl d_M_subtract_6 ?_
      refine x_nc_ge (tgt := 48) hx hb d_M_subtract_9 (by decide) (by omega) (by omega) (fun c1 => ?_) (fun c1 => ?_)
      · have hiK : i = K := by omega
        refine lv_aload_n hx hb d_M_subtract_48 rfl (lv_at hl 0 rfl) ?_
        refine x_get (v := .ref (bd 13)) (C := R_M) (T := F_M) (N := 17) hx hb hg i_M hown hK hP (ma_0 hM) rfl 16 (by decide) (hg _ w_370) (fun _ h9 => h9) rfl d_M_subtract_49 ?_
        refine lv_iload_n hx hb d_M_subtract_52 rfl (lv_at hl 1 rfl) ?_
        refine lv_dup2_11 hx hb d_M_subtract_53 rfl rfl ?_
        refine x_iald (v := (upQ q 12 (sbL u v t i (q 12))) 13 u) hx hb hK hP 0 (ma_13 hM) rfl (vp_in_nI (by omega) (by omega)) (by rw [nI_clamp (by omega)]) d_M_subtract_54 ?_
        refine lv_aload_n hx hb d_M_subtract_55 rfl (lv_at hl 0 rfl) ?_
        refine lv_aload_n hx hb d_M_subtract_56 rfl (lv_at hl 0 rfl) ?_
        refine x_get (v := .ref (bd 13)) (C := R_M) (T := F_M) (N := 17) hx hb hg i_M hown hK hP (ma_0 hM) rfl 16 (by decide) (hg _ w_370) (fun _ h9 => h9) rfl d_M_subtract_57 ?_
        refine lv_iload_n hx hb d_M_subtract_60 rfl (lv_at hl 2 rfl) ?_
        refine x_iald (v := (upQ q 12 (sbL u v t i (q 12))) 13 v) hx hb hK hP 0 (ma_13 hM) rfl (vp_in_nI (by omega) (by omega)) (by rw [nI_clamp (by omega)]) d_M_subtract_61 ?_
        refine lv_iload_n hx hb d_M_subtract_62 rfl (lv_at hl 3 rfl) ?_
        refine xv_R (n := 2) (As := [.int ((upQ q 12 (sbL u v t i (q 12))) 13 v), .int t]) (rest := [.int ((upQ q 12 (sbL u v t i (q 12))) 13 u), .int (nI u), .ref (bd 13)]) hx hb hml hown hg hK0 hP (c_M_scaled l D T A _ bd K N (upQ q 12 (sbL u v t i (q 12))) hz hM ((upQ q 12 (sbL u v t i (q 12))) 13 v) t) w_452 w_6 w_449 w_451 s_26 (ma_0 hM) rfl rfl (by decide +kernel) ⟨Nat.le_of_ble_eq_true rfl, Nat.le_of_ble_eq_true rfl⟩ rfl hl.1 rfl (Nat.le_of_ble_eq_true rfl) ⟨Nat.zero_le _, Nat.zero_le _⟩ rfl rfl d_M_subtract_63 (fun r hr => ?_)
        subst hr
        refine x_fr (pc := 66) [.int (smF ((upQ q 12 (sbL u v t i (q 12))) 13 v) t), .int ((upQ q 12 (sbL u v t i (q 12))) 13 u), .int (nI u), .ref (bd 13)] rfl rfl ?_
        refine lv_ixor hx hb d_M_subtract_66 ?_
        refine x_iast hx hb hK hP hS 0 (ma_13 hM) rfl (vp_in_nI (by omega) (by omega)) d_M_subtract_67 (fun H_255 L_256 hP hS => ?_)
        rw [nI_clamp (by omega)] at hP
        obtain ⟨q_257, hq_257⟩ : ∃ z, z = upQ (upQ q 12 (sbL u v t i (q 12))) 13 (upd ((upQ q 12 (sbL u v t i (q 12))) 13) u (((upQ q 12 (sbL u v t i (q 12))) 13 u) ^^^ (smF ((upQ q 12 (sbL u v t i (q 12))) 13 v) t))) := ⟨_, rfl⟩
        obtain ⟨M_258, hP, hR⟩ : ∃ z, xW D classes A z H_255 ∧ mR T bd K N M q_257 z := ⟨_, hP, by rw [hq_257]; exact hR.set (by omega) rfl⟩
        have hM := hR.1
        exact hret _ _ _ _ _ d_M_subtract_68 hP hS ⟨rfl, by rw [hq_257, hiK] at hR; exact hR⟩
      · refine lv_aload_n hx hb d_M_subtract_12 rfl (lv_at hl 0 rfl) ?_
        refine x_get (v := .ref (bd 12)) (C := R_M) (T := F_M) (N := 17) hx hb hg i_M hown hK hP (ma_0 hM) rfl 15 (by decide) (hg _ w_369) (fun _ h9 => h9) rfl d_M_subtract_13 ?_
        refine lv_iload_n hx hb d_M_subtract_16 rfl (lv_at hl 1 rfl) ?_
        refine lv_iconst (v := nI 4) hx hb d_M_subtract_17 (by decide) ?_
        refine lv_imul hx hb d_M_subtract_18 ?_
        refine x_top (y := nI (u * 4)) (pk_mul _ _) ?_
        refine lv_iload hx hb d_M_subtract_19 (lv_at hl 4 rfl) ?_
        refine lv_iadd hx hb d_M_subtract_21 ?_
        refine x_top (y := nI ((u * 4) + i)) (nI_add _ _) ?_
        refine lv_dup2_11 hx hb d_M_subtract_22 rfl rfl ?_
        refine x_iald (v := (upQ q 12 (sbL u v t i (q 12))) 12 ((u * 4) + i)) hx hb hK hP 0 (ma_12 hM) rfl (vp_in_nI (by omega) (by omega)) (by rw [nI_clamp (by omega)]) d_M_subtract_23 ?_
        refine lv_aload_n hx hb d_M_subtract_24 rfl (lv_at hl 0 rfl) ?_
        refine lv_aload_n hx hb d_M_subtract_25 rfl (lv_at hl 0 rfl) ?_
        refine x_get (v := .ref (bd 12)) (C := R_M) (T := F_M) (N := 17) hx hb hg i_M hown hK hP (ma_0 hM) rfl 15 (by decide) (hg _ w_369) (fun _ h9 => h9) rfl d_M_subtract_26 ?_
        refine lv_iload_n hx hb d_M_subtract_29 rfl (lv_at hl 2 rfl) ?_
        refine lv_iconst (v := nI 4) hx hb d_M_subtract_30 (by decide) ?_
        refine lv_imul hx hb d_M_subtract_31 ?_
        refine x_top (y := nI (v * 4)) (pk_mul _ _) ?_
        refine lv_iload hx hb d_M_subtract_32 (lv_at hl 4 rfl) ?_
        refine lv_iadd hx hb d_M_subtract_34 ?_
        refine x_top (y := nI ((v * 4) + i)) (nI_add _ _) ?_
        refine x_iald (v := (upQ q 12 (sbL u v t i (q 12))) 12 ((v * 4) + i)) hx hb hK hP 0 (ma_12 hM) rfl (vp_in_nI (by omega) (by omega)) (by rw [nI_clamp (by omega)]) d_M_subtract_35 ?_
        refine lv_iload_n hx hb d_M_subtract_36 rfl (lv_at hl 3 rfl) ?_
        refine xv_R (n := 2) (As := [.int ((upQ q 12 (sbL u v t i (q 12))) 12 ((v * 4) + i)), .int t]) (rest := [.int ((upQ q 12 (sbL u v t i (q 12))) 12 ((u * 4) + i)), .int (nI ((u * 4) + i)), .ref (bd 12)]) hx hb hml hown hg hK0 hP (c_M_product l D T A _ bd K N (upQ q 12 (sbL u v t i (q 12))) hz hM ((upQ q 12 (sbL u v t i (q 12))) 12 ((v * 4) + i)) t) w_448 w_6 w_445 w_447 s_25 (ma_0 hM) rfl rfl (by decide +kernel) ⟨Nat.le_of_ble_eq_true rfl, Nat.le_of_ble_eq_true rfl⟩ rfl hl.1 rfl (Nat.le_of_ble_eq_true rfl) ⟨Nat.zero_le _, Nat.zero_le _⟩ rfl rfl d_M_subtract_37 (fun r hr => ?_)
        subst hr
        refine x_fr (pc := 40) [.int (prF ((upQ q 12 (sbL u v t i (q 12))) 12 ((v * 4) + i)) t), .int ((upQ q 12 (sbL u v t i (q 12))) 12 ((u * 4) + i)), .int (nI ((u * 4) + i)), .ref (bd 12)] rfl rfl ?_
        refine lv_ixor hx hb d_M_subtract_40 ?_
        refine x_iast hx hb hK hP hS 0 (ma_12 hM) rfl (vp_in_nI (by omega) (by omega)) d_M_subtract_41 (fun H_259 L_260 hP hS => ?_)
        rw [nI_clamp (by omega)] at hP
        obtain ⟨q_261, hq_261⟩ : ∃ z, z = upQ (upQ q 12 (sbL u v t i (q 12))) 12 (upd ((upQ q 12 (sbL u v t i (q 12))) 12) ((u * 4) + i) (((upQ q 12 (sbL u v t i (q 12))) 12 ((u * 4) + i)) ^^^ (prF ((upQ q 12 (sbL u v t i (q 12))) 12 ((v * 4) + i)) t))) := ⟨_, rfl⟩
        obtain ⟨M_262, hP, hR⟩ : ∃ z, xW D classes A z H_259 ∧ mR T bd K N M q_261 z := ⟨_, hP, by rw [hq_261]; exact hR.set (by omega) rfl⟩
        have hM := hR.1
        have hR : mR T bd K N M (upQ q 12 (sbL u v t (i + 1) (q 12))) M_262 := by rw [hq_261, upQ_uu] at hR; exact hR
        refine lv_iinc (v := nI (i + 1)) (lv' := [(4, .int (nI (i + 1))), (0, .ref (bd 0)), (1, .int (nI u)), (2, .int (nI v)), (3, .int t)]) hx hb d_M_subtract_42 hl (k := 4) rfl (nI_1 _) (by decide) rfl (fun ls hl => ?_)
        refine lv_goto (tgt := 3) hx hb d_M_subtract_45 (by decide) ?_
        exact ih (i + 1) (by omega) (by omega) _ _ _ hP hS hR ls (lv_sub hl [1, 2, 3, 4, 0] rfl)
  exact loop (K + 1) 0 (by omega) (by omega) _ _ _ hP hS (by rw [show sbL u v t 0 (q 12) = q 12 from rfl, upQ_id]; exact hR) ls (lv_sub hl [1, 2, 3, 4, 0] rfl)
/-- two arrays of the reference set -/
def q2 (q : qT) (F R : fT) : qT := upQ (upQ q 12 F) 13 R
theorem q2_12 {q : qT} {F R : fT} : q2 q F R 12 = F := by rw [q2, upQ_n (by omega), upQ_s]
theorem q2_13 {q : qT} {F R : fT} : q2 q F R 13 = R := by rw [q2, upQ_s]
theorem q2_o {q : qT} {F R : fT} {k : Nat} (h1 : k ≠ 12) (h2 : k ≠ 13) : q2 q F R k = q k := by rw [q2, upQ_n h2, upQ_n h1]
theorem q2_F {q : qT} {F R F' : fT} : upQ (q2 q F R) 12 F' = q2 q F' R := by
  funext k
  by_cases e : k = 12
  · subst e; rw [upQ_s, q2_12]
  · rw [upQ_n e]
    by_cases e2 : k = 13
    · subst e2; rw [q2_13, q2_13]
    · rw [q2_o e e2, q2_o e e2]
theorem q2_R {q : qT} {F R R' : fT} : upQ (q2 q F R) 13 R' = q2 q F R' := by rw [q2, upQ_uu]; rfl
theorem plF_pl {K N : Nat} {u : Nat → Int32} (hN : N ≤ 7) (h : K ≤ cuF u N) : plOK K (plF N u) := by
  refine ⟨fun j hj => ?_, fun i j hij hj => ?_⟩
  · have := (plF_ok (N := N) (n := N) (j := j) (u := u) (Nat.le_refl N) (by omega)).1; omega
  · obtain ⟨a1, a2, a3⟩ := plF_ok (N := N) (n := N) (j := i) (u := u) (Nat.le_refl N) (by omega)
    obtain ⟨b1, b2, b3⟩ := plF_ok (N := N) (n := N) (j := j) (u := u) (Nat.le_refl N) (by omega)
    rcases Nat.lt_or_ge (plF N u i) (plF N u j) with q | q
    · exact q
    · have := cuF_mono (u := u) q; omega
set_option maxHeartbeats 4000000 in
set_option maxRecDepth 100000 in
theorem c_M_decode (l : Launch) (D : va_G) (T : Nat → ClassId) (A : Nat → Prop) (M : xM) (bd : Nat → Nat) (K N : Nat) (q : Nat → Nat → Int32) (hz : zB K N) (hM : mG T bd K N q M) (g : gT) (hs : sM K N g q) (c0 : Nat) (w : Nat → Nat) (hI : iG N g c0 w) (f : Nat) (hf : f < 6) (x : Int32) (hcn : K ≤ cuF (svF N g f x) N) : Met l y_M_decode (Cond.code y_M_decode b_M_decode 8 none :: gw) (rmH 4) (xPc D T A M [.ref (bd 0), .int (nI f), .int x]) (xQ D A (fun r M1 => r = none ∧ ∃ q', mR T bd K N M q' M1 ∧ (∀ k, k ≠ 11 → k ≠ 12 → k ≠ 13 → q' k = q k) ∧ ∀ j, j < K → q' 11 j = dcV K N g f x j)) 0 0 A := by
  refine xMetQv (by decide) (Nat.le_of_ble_eq_true rfl) ?_
  intro p e s m below meth c Q ls hB hP hS hl hret
  obtain ⟨hx, hb, hml, hown, hg, hK0, hnm⟩ := hB
  have hown : s.vm.findClass "ShareGridModel" = some m.cls := hown
  have hK := hK0.1
  have hN := hK0.2.1
  obtain ⟨hz1, hz4, hzn, hz7⟩ := id hz
  obtain ⟨hq, hq6, hwr, hbo⟩ := id hI
  have hR := hM.rf
  have hl : lv_has ls 8 [(0, .ref (bd 0)), (1, .int (nI f)), (2, .int x)] := hl
  refine lv_iconst (v := nI 0) hx hb d_M_decode_0 (by decide) ?_
  refine lv_istore_n (lv' := [(3, .int (nI 0)), (0, .ref (bd 0)), (1, .int (nI f)), (2, .int x)]) hx hb d_M_decode_1 rfl hl (by decide) rfl (fun ls hl => ?_)
  refine lv_iconst (v := nI 0) hx hb d_M_decode_2 (by decide) ?_
  refine lv_istore (lv' := [(4, .int (nI 0)), (3, .int (nI 0)), (0, .ref (bd 0)), (1, .int (nI f)), (2, .int x)]) hx hb d_M_decode_3 hl (by decide) rfl (fun ls hl => ?_)
  have loopA : ∀ (n : Nat) (i nn : Nat) (qx : qT), N + 1 ≤ i + n → i ≤ N → ((nn = cuF (svF N g f x) i ∧ nn ≤ K) ∨ (nn = K ∧ K ≤ cuF (svF N g f x) i)) → (∀ k, k ≠ 12 → k ≠ 13 → qx k = q k) → (∀ s, s < i → ¬ svF N g f x s = 0 → cuF (svF N g f x) s < K → (∀ c, c < K → qx 12 (cuF (svF N g f x) s * 4 + c) = pwF (nI s + 1) c) ∧ qx 13 (cuF (svF N g f x) s) = g 17 f s 1) → ∀ (Mx : xM) (Hx : Heap) (Lx : List Loc), xW D classes A Mx Hx → va_S A s.heap Hx Lx → mR T bd K N M qx Mx → ∀ (ls : Array Slot), lv_has ls 8 [(0, .ref (bd 0)), (1, .int (nI f)), (2, .int x), (3, .int (nI nn)), (4, .int (nI i))] → W p l e (rmH 4) s m [.ref (bd 0), .int (nI f), .int x].toArray below meth c Hx Lx 0 0 Q (F0 m 5 ls []) := by
    intro n
    induction n with
    | zero =>
      intro i nn qx h2 h1 h3 r1 r2
      exact absurd h2 (by omega)
    | succ n ih =>
      intro i nn qx h2 h1 h3 r1 r2 Mx Hx Lx hP hS hR ls hl
      have hM := hR.1
      have ihA := ih
      have hsx : sM K N g qx := by
        obtain ⟨a1, a2, a3, a4, a5, a6, a7⟩ := hs
        refine ⟨by rw [r1 0 (by omega) (by omega)]; exact a1, by rw [r1 0 (by omega) (by omega)]; exact a2, fun s hs1 => by rw [r1 1 (by omega) (by omega), r1 2 (by omega) (by omega)]; exact a3 s hs1, fun t ht => by rw [r1 3 (by omega) (by omega), r1 4 (by omega) (by omega)]; exact a4 t ht, fun t j ht hj => by rw [r1 5 (by omega) (by omega), r1 6 (by omega) (by omega)]; exact a5 t j ht hj, fun t u ht hu => ?_, fun j hj => by rw [r1 9 (by omega) (by omega), r1 10 (by omega) (by omega)]; exact a7 j hj⟩
        have z := a6 t u ht hu
        unfold rwS at z ⊢
        rw [r1 7 (by omega) (by omega), r1 8 (by omega) (by omega)]
        exact z
      refine lv_iload hx hb d_M_decode_5 (lv_at hl 4 rfl) ?_
      refine lv_aload_n hx hb d_M_decode_7 rfl (lv_at hl 0 rfl) ?_
      refine x_get (v := .int (nI N)) (C := R_M) (T := F_M) (N := 17) hx hb hg i_M hown hK hP (ma_0 hM) rfl 1 (by decide) (hg _ w_355) (fun _ h9 => h9) rfl d_M_decode_8 ?_
      refine x_nc_ge (tgt := 102) hx hb d_M_decode_11 (by decide) (by omega) (by omega) (fun c11 => ?_) (fun c11 => ?_)
      · have hiN : i = N := by omega
        rw [hiN] at r2 h3
        have hFr : ∀ r c, r < K → c < K → qx 12 (r * 4 + c) = pwF (nI (plF N (svF N g f x) r) + 1) c := by
          intro r c hr hc
          obtain ⟨p1, p2, p3⟩ := plF_ok (N := N) (n := N) (j := r) (u := svF N g f x) (Nat.le_refl N) (by omega)
          have z := (r2 _ p1 p2 (by omega)).1 c hc
          rw [p3] at z
          exact z
        have hRr : ∀ r, r < K → qx 13 r = g 17 f (plF N (svF N g f x) r) 1 := by
          intro r hr
          obtain ⟨p1, p2, p3⟩ := plF_ok (N := N) (n := N) (j := r) (u := svF N g f x) (Nat.le_refl N) (by omega)
          have z := (r2 _ p1 p2 (by omega)).2
          rw [p3] at z
          exact z
        obtain ⟨E0, hE0⟩ : ∃ z, z = qx 12 := ⟨_, rfl⟩
        obtain ⟨R0, hR0⟩ : ∃ z, z = qx 13 := ⟨_, rfl⟩
        have hq2 : q2 qx E0 R0 = qx := by rw [q2, hE0, upQ_id, hR0, upQ_id]
        refine lv_iconst (v := nI 0) hx hb d_M_decode_102 (by decide) ?_
        refine lv_istore (lv' := [(4, .int (nI 0)), (0, .ref (bd 0)), (1, .int (nI f)), (2, .int x), (3, .int (nI nn))]) hx hb d_M_decode_103 hl (by decide) rfl (fun ls hl => ?_)
        have loopB : ∀ (n : Nat) (d : Nat), K + 1 ≤ d + n → d ≤ K → ∀ (Mx : xM) (Hx : Heap) (Lx : List Loc), xW D classes A Mx Hx → va_S A s.heap Hx Lx → mR T bd K N M (q2 qx (elF K d E0) (elR K d E0 R0)) Mx → ∀ (ls : Array Slot), lv_has ls 8 [(0, .ref (bd 0)), (1, .int (nI f)), (2, .int x), (4, .int (nI d))] → W p l e (rmH 4) s m [.ref (bd 0), .int (nI f), .int x].toArray below meth c Hx Lx 0 0 Q (F0 m 105 ls []) := by
          intro n
          induction n with
          | zero =>
            intro d h2b h1b
            exact absurd h2b (by omega)
          | succ n ih =>
            intro d h2b h1b Mx Hx Lx hP hS hR ls hl
            have hM := hR.1
            have ihB := ih
            refine lv_iload hx hb d_M_decode_105 (lv_at hl 3 rfl) ?_
            refine lv_aload_n hx hb d_M_decode_107 rfl (lv_at hl 0 rfl) ?_
            refine x_get (v := .int (nI K)) (C := R_M) (T := F_M) (N := 17) hx hb hg i_M hown hK hP (ma_0 hM) rfl 0 (by decide) (hg _ w_354) (fun _ h9 => h9) rfl d_M_decode_108 ?_
            refine x_nc_ge (tgt := 306) hx hb d_M_decode_111 (by decide) (by omega) (by omega) (fun c111 => ?_) (fun c111 => ?_)
            · have hdK : d = K := by omega
              rw [hdK] at hR hM
              refine lv_iconst (v := nI 0) hx hb d_M_decode_306 (by decide) ?_
              refine lv_istore (lv' := [(4, .int (nI 0)), (0, .ref (bd 0)), (1, .int (nI f)), (2, .int x)]) hx hb d_M_decode_307 hl (by decide) rfl (fun ls hl => ?_)
              have loopC : ∀ (n : Nat) (i : Nat) (qz : qT), K + 1 ≤ i + n → i ≤ K → (∀ k, k ≠ 11 → qz k = q2 qx (elF K K E0) (elR K K E0 R0) k) → (∀ j, j < i → qz 11 j = elR K K E0 R0 j) → ∀ (Mx : xM) (Hx : Heap) (Lx : List Loc), xW D classes A Mx Hx → va_S A s.heap Hx Lx → mR T bd K N M qz Mx → ∀ (ls : Array Slot), lv_has ls 8 [(0, .ref (bd 0)), (1, .int (nI f)), (2, .int x), (4, .int (nI i))] → W p l e (rmH 4) s m [.ref (bd 0), .int (nI f), .int x].toArray below meth c Hx Lx 0 0 Q (F0 m 309 ls []) := by
                intro n
                induction n with
                | zero =>
                  intro i qz h2c h1c z1 z2
                  exact absurd h2c (by omega)
                | succ n ih =>
                  intro i qz h2c h1c z1 z2 Mx Hx Lx hP hS hR ls hl
                  have hM := hR.1
                  refine lv_iload hx hb d_M_decode_309 (lv_at hl 3 rfl) ?_
                  refine lv_aload_n hx hb d_M_decode_311 rfl (lv_at hl 0 rfl) ?_
                  refine x_get (v := .int (nI K)) (C := R_M) (T := F_M) (N := 17) hx hb hg i_M hown hK hP (ma_0 hM) rfl 0 (by decide) (hg _ w_354) (fun _ h9 => h9) rfl d_M_decode_312 ?_
                  refine x_nc_ge (tgt := 338) hx hb d_M_decode_315 (by decide) (by omega) (by omega) (fun c315 => ?_) (fun c315 => ?_)
                  · exact hret _ _ _ _ _ d_M_decode_338 hP hS ⟨rfl, qz, hR, fun k k1 k2 k3 => by rw [z1 k k1, q2_o k2 k3]; exact r1 k k2 k3, fun j hj => by
                      rw [z2 j (by omega), el_dc hz1 hz4 (plF_pl hz7 hcn) (by rw [hE0]; exact hFr) hj, dcV]
                      exact dcS_congr hz1 (fun _ _ => rfl) (fun r hr => by rw [hR0]; exact hRr r hr) j hj⟩
                  · refine lv_aload_n hx hb d_M_decode_318 rfl (lv_at hl 0 rfl) ?_
                    refine x_get (v := .ref (bd 11)) (C := R_M) (T := F_M) (N := 17) hx hb hg i_M hown hK hP (ma_0 hM) rfl 14 (by decide) (hg _ w_368) (fun _ h9 => h9) rfl d_M_decode_319 ?_
                    refine lv_iload hx hb d_M_decode_322 (lv_at hl 3 rfl) ?_
                    refine lv_aload_n hx hb d_M_decode_324 rfl (lv_at hl 0 rfl) ?_
                    refine x_get (v := .ref (bd 13)) (C := R_M) (T := F_M) (N := 17) hx hb hg i_M hown hK hP (ma_0 hM) rfl 16 (by decide) (hg _ w_370) (fun _ h9 => h9) rfl d_M_decode_325 ?_
                    refine lv_iload hx hb d_M_decode_328 (lv_at hl 3 rfl) ?_
                    refine x_iald (v := qz 13 i) hx hb hK hP 0 (ma_13 hM) rfl (vp_in_nI (by omega) (by omega)) (by rw [nI_clamp (by omega)]) d_M_decode_330 ?_
                    refine x_top (y := (elR K K E0 R0 i)) (by rw [z1 13 (by omega), q2_13]) ?_
                    refine x_iast hx hb hK hP hS 0 (ma_11 hM) rfl (vp_in_nI (by omega) (by omega)) d_M_decode_331 (fun H_263 L_264 hP hS => ?_)
                    rw [nI_clamp (by omega)] at hP
                    obtain ⟨q_265, hq_265⟩ : ∃ z, z = upQ qz 11 (upd (qz 11) i (elR K K E0 R0 i)) := ⟨_, rfl⟩
                    obtain ⟨M_266, hP, hR⟩ : ∃ z, xW D classes A z H_263 ∧ mR T bd K N M q_265 z := ⟨_, hP, by rw [hq_265]; exact hR.set (by omega) rfl⟩
                    have hM := hR.1
                    refine lv_iinc (v := nI (i + 1)) (lv' := [(4, .int (nI (i + 1))), (0, .ref (bd 0)), (1, .int (nI f)), (2, .int x)]) hx hb d_M_decode_332 hl (k := 3) rfl (nI_1 _) (by decide) rfl (fun ls hl => ?_)
                    refine lv_goto (tgt := 309) hx hb d_M_decode_335 (by decide) ?_
                    refine ih (i + 1) q_265 (by omega) (by omega) (fun k k1 => by rw [hq_265, upQ_n k1]; exact z1 k k1) (fun j hj => ?_) _ _ _ hP hS hR ls (lv_sub hl [1, 2, 3, 0] rfl)
                    rw [hq_265, upQ_s]
                    by_cases e : j = i
                    · subst e; rw [upd_s]
                    · rw [upd_n e]; exact z2 j (by omega)
              exact loopC (K + 1) 0 _ (by omega) (by omega) (fun _ _ => rfl) (fun j hj => absurd hj (by omega)) _ _ _ hP hS hR ls (lv_sub hl [1, 2, 3, 0] rfl)
            · obtain ⟨F, hF⟩ : ∃ z, z = elF K d E0 := ⟨_, rfl⟩
              obtain ⟨R, hRe⟩ : ∃ z, z = elR K d E0 R0 := ⟨_, rfl⟩
              rw [← hF, ← hRe] at hR hM
              refine lv_iload hx hb d_M_decode_114 (lv_at hl 3 rfl) ?_
              refine lv_istore (lv' := [(5, .int (nI d)), (0, .ref (bd 0)), (1, .int (nI f)), (2, .int x), (4, .int (nI d))]) hx hb d_M_decode_116 hl (by decide) rfl (fun ls hl => ?_)
              have cont1 : ∀ (Mx : xM) (Hx : Heap) (Lx : List Loc), xW D classes A Mx Hx → va_S A s.heap Hx Lx → mR T bd K N M (q2 qx (c1F K d F) (c1R K d F R)) Mx → ∀ (ls : Array Slot), lv_has ls 8 [(0, .ref (bd 0)), (1, .int (nI f)), (2, .int x), (4, .int (nI d))] → W p l e (rmH 4) s m [.ref (bd 0), .int (nI f), .int x].toArray below meth c Hx Lx 0 0 Q (F0 m 166 ls []) := by
                intro Mx Hx Lx hP hS hR ls hl
                have hM := hR.1
                refine lv_aload_n hx hb d_M_decode_166 rfl (lv_at hl 0 rfl) ?_
                refine lv_aload_n hx hb d_M_decode_167 rfl (lv_at hl 0 rfl) ?_
                refine x_get (v := .ref (bd 12)) (C := R_M) (T := F_M) (N := 17) hx hb hg i_M hown hK hP (ma_0 hM) rfl 15 (by decide) (hg _ w_369) (fun _ h9 => h9) rfl d_M_decode_168 ?_
                refine lv_iload hx hb d_M_decode_171 (lv_at hl 3 rfl) ?_
                refine lv_iconst (v := nI 4) hx hb d_M_decode_173 (by decide) ?_
                refine lv_imul hx hb d_M_decode_174 ?_
                refine x_top (y := nI (d * 4)) (pk_mul _ _) ?_
                refine lv_iload hx hb d_M_decode_175 (lv_at hl 3 rfl) ?_
                refine lv_iadd hx hb d_M_decode_177 ?_
                refine x_top (y := nI ((d * 4) + d)) (nI_add _ _) ?_
                refine x_iald (v := (q2 qx (c1F K d F) (c1R K d F R)) 12 ((d * 4) + d)) hx hb hK hP 0 (ma_12 hM) rfl (vp_in_nI (by omega) (by omega)) (by rw [nI_clamp (by omega)]) d_M_decode_178 ?_
                refine x_top (y := (c1F K d F (d * 4 + d))) (by rw [q2_12]) ?_
                refine lv_sipush (v := nI 254) hx hb d_M_decode_179 (by decide) ?_
                refine xv_R (n := 2) (As := [.int (c1F K d F (d * 4 + d)), .int (nI 254)]) (rest := []) hx hb hml hown hg hK0 hP (c_M_power l D T A _ bd K N (q2 qx (c1F K d F) (c1R K d F R)) hz hM (c1F K d F (d * 4 + d)) 254 (by omega)) w_444 w_6 w_441 w_443 s_24 (ma_0 hM) rfl rfl (by decide +kernel) ⟨Nat.le_of_ble_eq_true rfl, Nat.le_of_ble_eq_true rfl⟩ rfl hl.1 rfl (Nat.le_of_ble_eq_true rfl) ⟨Nat.zero_le _, Nat.zero_le _⟩ rfl rfl d_M_decode_182 (fun r hr => ?_)
                subst hr
                refine x_fr (pc := 185) [.int (pwF (c1F K d F (d * 4 + d)) 254)] rfl rfl ?_
                refine lv_istore (lv' := [(6, .int (pwF (c1F K d F (d * 4 + d)) 254)), (0, .ref (bd 0)), (1, .int (nI f)), (2, .int x), (4, .int (nI d))]) hx hb d_M_decode_185 hl (by decide) rfl (fun ls hl => ?_)
                refine lv_iconst (v := nI 0) hx hb d_M_decode_187 (by decide) ?_
                refine lv_istore (lv' := [(7, .int (nI 0)), (6, .int (pwF (c1F K d F (d * 4 + d)) 254)), (0, .ref (bd 0)), (1, .int (nI f)), (2, .int x), (4, .int (nI d))]) hx hb d_M_decode_188 hl (by decide) rfl (fun ls hl => ?_)
                have loopS : ∀ (n : Nat) (i : Nat), K + 1 ≤ i + n → i ≤ K → ∀ (Mx : xM) (Hx : Heap) (Lx : List Loc), xW D classes A Mx Hx → va_S A s.heap Hx Lx → mR T bd K N M (q2 qx (slL d (ivC K d F) i (c1F K d F)) (c1R K d F R)) Mx → ∀ (ls : Array Slot), lv_has ls 8 [(0, .ref (bd 0)), (1, .int (nI f)), (2, .int x), (4, .int (nI d)), (6, .int (ivC K d F)), (7, .int (nI i))] → W p l e (rmH 4) s m [.ref (bd 0), .int (nI f), .int x].toArray below meth c Hx Lx 0 0 Q (F0 m 190 ls []) := by
                  intro n
                  induction n with
                  | zero =>
                    intro i h2s h1s
                    exact absurd h2s (by omega)
                  | succ n ih =>
                    intro i h2s h1s Mx Hx Lx hP hS hR ls hl
                    have hM := hR.1
                    refine lv_iload hx hb d_M_decode_190 (lv_at hl 5 rfl) ?_
                    refine lv_aload_n hx hb d_M_decode_192 rfl (lv_at hl 0 rfl) ?_
                    refine x_get (v := .int (nI K)) (C := R_M) (T := F_M) (N := 17) hx hb hg i_M hown hK hP (ma_0 hM) rfl 0 (by decide) (hg _ w_354) (fun _ h9 => h9) rfl d_M_decode_193 ?_
                    refine x_nc_ge (tgt := 235) hx hb d_M_decode_196 (by decide) (by omega) (by omega) (fun c196 => ?_) (fun c196 => ?_)
                    · have hiK : i = K := by omega
                      rw [hiK] at hR hM
                      have hR : mR T bd K N M (q2 qx (c2F K d F) (c1R K d F R)) Mx := hR
                      have hM := hR.1
                      refine lv_aload_n hx hb d_M_decode_235 rfl (lv_at hl 0 rfl) ?_
                      refine x_get (v := .ref (bd 13)) (C := R_M) (T := F_M) (N := 17) hx hb hg i_M hown hK hP (ma_0 hM) rfl 16 (by decide) (hg _ w_370) (fun _ h9 => h9) rfl d_M_decode_236 ?_
                      refine lv_iload hx hb d_M_decode_239 (lv_at hl 3 rfl) ?_
                      refine lv_aload_n hx hb d_M_decode_241 rfl (lv_at hl 0 rfl) ?_
                      refine lv_aload_n hx hb d_M_decode_242 rfl (lv_at hl 0 rfl) ?_
                      refine x_get (v := .ref (bd 13)) (C := R_M) (T := F_M) (N := 17) hx hb hg i_M hown hK hP (ma_0 hM) rfl 16 (by decide) (hg _ w_370) (fun _ h9 => h9) rfl d_M_decode_243 ?_
                      refine lv_iload hx hb d_M_decode_246 (lv_at hl 3 rfl) ?_
                      refine x_iald (v := (q2 qx (c2F K d F) (c1R K d F R)) 13 d) hx hb hK hP 0 (ma_13 hM) rfl (vp_in_nI (by omega) (by omega)) (by rw [nI_clamp (by omega)]) d_M_decode_248 ?_
                      refine x_top (y := (c1R K d F R d)) (by rw [q2_13]) ?_
                      refine lv_iload hx hb d_M_decode_249 (lv_at hl 4 rfl) ?_
                      refine xv_R (n := 2) (As := [.int (c1R K d F R d), .int (ivC K d F)]) (rest := [.int (nI d), .ref (bd 13)]) hx hb hml hown hg hK0 hP (c_M_scaled l D T A _ bd K N (q2 qx (c2F K d F) (c1R K d F R)) hz hM (c1R K d F R d) (ivC K d F)) w_452 w_6 w_449 w_451 s_26 (ma_0 hM) rfl rfl (by decide +kernel) ⟨Nat.le_of_ble_eq_true rfl, Nat.le_of_ble_eq_true rfl⟩ rfl hl.1 rfl (Nat.le_of_ble_eq_true rfl) ⟨Nat.zero_le _, Nat.zero_le _⟩ rfl rfl d_M_decode_251 (fun r hr => ?_)
                      subst hr
                      refine x_fr (pc := 254) [.int (smF (c1R K d F R d) (ivC K d F)), .int (nI d), .ref (bd 13)] rfl rfl ?_
                      refine x_iast hx hb hK hP hS 0 (ma_13 hM) rfl (vp_in_nI (by omega) (by omega)) d_M_decode_254 (fun H_267 L_268 hP hS => ?_)
                      rw [nI_clamp (by omega)] at hP
                      obtain ⟨q_269, hq_269⟩ : ∃ z, z = upQ (q2 qx (c2F K d F) (c1R K d F R)) 13 (upd ((q2 qx (c2F K d F) (c1R K d F R)) 13) d (smF (c1R K d F R d) (ivC K d F))) := ⟨_, rfl⟩
                      obtain ⟨M_270, hP, hR⟩ : ∃ z, xW D classes A z H_267 ∧ mR T bd K N M q_269 z := ⟨_, hP, by rw [hq_269]; exact hR.set (by omega) rfl⟩
                      have hM := hR.1
                      have hR : mR T bd K N M (q2 qx (c2F K d F) (c2R K d F R)) M_270 := by rw [hq_269, q2_13, q2_R] at hR; exact hR
                      have hM := hR.1
                      refine lv_iconst (v := nI 0) hx hb d_M_decode_255 (by decide) ?_
                      refine lv_istore (lv' := [(7, .int (nI 0)), (0, .ref (bd 0)), (1, .int (nI f)), (2, .int x), (4, .int (nI d)), (6, .int (ivC K d F))]) hx hb d_M_decode_256 hl (by decide) rfl (fun ls hl => ?_)
                      have loopR : ∀ (n : Nat) (i : Nat), K + 1 ≤ i + n → i ≤ K → ∀ (Mx : xM) (Hx : Heap) (Lx : List Loc), xW D classes A Mx Hx → va_S A s.heap Hx Lx → mR T bd K N M (q2 qx (rwF K d i (c2F K d F)) (rwR K d i (c2F K d F) (c2R K d F R))) Mx → ∀ (ls : Array Slot), lv_has ls 8 [(0, .ref (bd 0)), (1, .int (nI f)), (2, .int x), (4, .int (nI d)), (7, .int (nI i))] → W p l e (rmH 4) s m [.ref (bd 0), .int (nI f), .int x].toArray below meth c Hx Lx 0 0 Q (F0 m 258 ls []) := by
                        intro n
                        induction n with
                        | zero =>
                          intro i h2r h1r
                          exact absurd h2r (by omega)
                        | succ n ih =>
                          intro i h2r h1r Mx Hx Lx hP hS hR ls hl
                          have hM := hR.1
                          refine lv_iload hx hb d_M_decode_258 (lv_at hl 4 rfl) ?_
                          refine lv_aload_n hx hb d_M_decode_260 rfl (lv_at hl 0 rfl) ?_
                          refine x_get (v := .int (nI K)) (C := R_M) (T := F_M) (N := 17) hx hb hg i_M hown hK hP (ma_0 hM) rfl 0 (by decide) (hg _ w_354) (fun _ h9 => h9) rfl d_M_decode_261 ?_
                          refine x_nc_ge (tgt := 300) hx hb d_M_decode_264 (by decide) (by omega) (by omega) (fun c264 => ?_) (fun c264 => ?_)
                          · have hiK : i = K := by omega
                            rw [hiK] at hR
                            have hR : mR T bd K N M (q2 qx (elF K (d + 1) E0) (elR K (d + 1) E0 R0)) Mx := by rw [hF, hRe] at hR; exact hR
                            refine lv_iinc (v := nI (d + 1)) (lv' := [(4, .int (nI (d + 1))), (0, .ref (bd 0)), (1, .int (nI f)), (2, .int x), (7, .int (nI i))]) hx hb d_M_decode_300 hl (k := 3) rfl (nI_1 _) (by decide) rfl (fun ls hl => ?_)
                            refine lv_goto (tgt := 105) hx hb d_M_decode_303 (by decide) ?_
                            exact ihB (d + 1) (by omega) (by omega) _ _ _ hP hS hR ls (lv_sub hl [1, 2, 3, 0] rfl)
                          · refine lv_iload hx hb d_M_decode_267 (lv_at hl 4 rfl) ?_
                            refine lv_iload hx hb d_M_decode_269 (lv_at hl 3 rfl) ?_
                            refine x_nc_eq (tgt := 294) hx hb d_M_decode_271 (by decide) (by omega) (by omega) (fun c271 => ?_) (fun c271 => ?_)
                            · have hR : mR T bd K N M (q2 qx (rwF K d (i + 1) (c2F K d F)) (rwR K d (i + 1) (c2F K d F) (c2R K d F R))) Mx := by rw [rwF, rwR, if_pos c271, if_pos c271]; exact hR
                              refine lv_iinc (v := nI (i + 1)) (lv' := [(7, .int (nI (i + 1))), (0, .ref (bd 0)), (1, .int (nI f)), (2, .int x), (4, .int (nI d))]) hx hb d_M_decode_294 hl (k := 4) rfl (nI_1 _) (by decide) rfl (fun ls hl => ?_)
                              refine lv_goto (tgt := 258) hx hb d_M_decode_297 (by decide) ?_
                              exact ih (i + 1) (by omega) (by omega) _ _ _ hP hS hR ls (lv_sub hl [1, 2, 3, 4, 0] rfl)
                            · refine lv_aload_n hx hb d_M_decode_274 rfl (lv_at hl 0 rfl) ?_
                              refine lv_iload hx hb d_M_decode_275 (lv_at hl 4 rfl) ?_
                              refine lv_iload hx hb d_M_decode_277 (lv_at hl 3 rfl) ?_
                              refine lv_aload_n hx hb d_M_decode_279 rfl (lv_at hl 0 rfl) ?_
                              refine x_get (v := .ref (bd 12)) (C := R_M) (T := F_M) (N := 17) hx hb hg i_M hown hK hP (ma_0 hM) rfl 15 (by decide) (hg _ w_369) (fun _ h9 => h9) rfl d_M_decode_280 ?_
                              refine lv_iload hx hb d_M_decode_283 (lv_at hl 4 rfl) ?_
                              refine lv_iconst (v := nI 4) hx hb d_M_decode_285 (by decide) ?_
                              refine lv_imul hx hb d_M_decode_286 ?_
                              refine x_top (y := nI (i * 4)) (pk_mul _ _) ?_
                              refine lv_iload hx hb d_M_decode_287 (lv_at hl 3 rfl) ?_
                              refine lv_iadd hx hb d_M_decode_289 ?_
                              refine x_top (y := nI ((i * 4) + d)) (nI_add _ _) ?_
                              refine x_iald (v := (q2 qx (rwF K d i (c2F K d F)) (rwR K d i (c2F K d F) (c2R K d F R))) 12 ((i * 4) + d)) hx hb hK hP 0 (ma_12 hM) rfl (vp_in_nI (by omega) (by omega)) (by rw [nI_clamp (by omega)]) d_M_decode_290 ?_
                              refine x_top (y := (rwF K d i (c2F K d F) (i * 4 + d))) (by rw [q2_12]) ?_
                              refine xv_Q (n := 3) (As := [.int (nI i), .int (nI d), .int (rwF K d i (c2F K d F) (i * 4 + d))]) (rest := []) hx hb hml hown hg hK0 hP (c_M_subtract l D T A _ bd K N (q2 qx (rwF K d i (c2F K d F)) (rwR K d i (c2F K d F) (c2R K d F R))) hz hM i d (by omega) (by omega) (rwF K d i (c2F K d F) (i * 4 + d))) w_484 w_6 w_481 w_483 s_33 (ma_0 hM) rfl rfl (by decide +kernel) ⟨Nat.le_of_ble_eq_true rfl, Nat.le_of_ble_eq_true rfl⟩ rfl hl.1 rfl (Nat.le_of_ble_eq_true rfl) hS ⟨Nat.zero_le _, Nat.zero_le _⟩ rfl rfl d_M_decode_291 (fun r M1 H_271 L_272 hr hP hS => ?_)
                              obtain ⟨rfl, hR1⟩ := hr
                              obtain ⟨q_273, hq_273⟩ : ∃ z, z = upQ (upQ (q2 qx (rwF K d i (c2F K d F)) (rwR K d i (c2F K d F) (c2R K d F R))) 12 (sbL i d (rwF K d i (c2F K d F) (i * 4 + d)) K ((q2 qx (rwF K d i (c2F K d F)) (rwR K d i (c2F K d F) (c2R K d F R))) 12))) 13 (sbR ((q2 qx (rwF K d i (c2F K d F)) (rwR K d i (c2F K d F) (c2R K d F R))) 13) i d (rwF K d i (c2F K d F) (i * 4 + d))) := ⟨_, rfl⟩
                              rw [← hq_273] at hR1
                              have hR := hR.tr hR1
                              have hM := hR.1
                              refine x_fr (pc := 294) [] rfl rfl ?_
                              have hR : mR T bd K N M (q2 qx (rwF K d (i + 1) (c2F K d F)) (rwR K d (i + 1) (c2F K d F) (c2R K d F R))) M1 := by
                                rw [hq_273, q2_12, q2_13, q2_F, q2_R] at hR
                                rw [rwF, rwR, if_neg c271, if_neg c271]
                                exact hR
                              refine lv_iinc (v := nI (i + 1)) (lv' := [(7, .int (nI (i + 1))), (0, .ref (bd 0)), (1, .int (nI f)), (2, .int x), (4, .int (nI d))]) hx hb d_M_decode_294 hl (k := 4) rfl (nI_1 _) (by decide) rfl (fun ls hl => ?_)
                              refine lv_goto (tgt := 258) hx hb d_M_decode_297 (by decide) ?_
                              exact ih (i + 1) (by omega) (by omega) _ _ _ hP hS hR ls (lv_sub hl [1, 2, 3, 4, 0] rfl)
                      exact loopR (K + 1) 0 (by omega) (by omega) _ _ _ hP hS hR ls (lv_sub hl [1, 2, 3, 4, 0] rfl)
                    · refine lv_aload_n hx hb d_M_decode_199 rfl (lv_at hl 0 rfl) ?_
                      refine x_get (v := .ref (bd 12)) (C := R_M) (T := F_M) (N := 17) hx hb hg i_M hown hK hP (ma_0 hM) rfl 15 (by decide) (hg _ w_369) (fun _ h9 => h9) rfl d_M_decode_200 ?_
                      refine lv_iload hx hb d_M_decode_203 (lv_at hl 3 rfl) ?_
                      refine lv_iconst (v := nI 4) hx hb d_M_decode_205 (by decide) ?_
                      refine lv_imul hx hb d_M_decode_206 ?_
                      refine x_top (y := nI (d * 4)) (pk_mul _ _) ?_
                      refine lv_iload hx hb d_M_decode_207 (lv_at hl 5 rfl) ?_
                      refine lv_iadd hx hb d_M_decode_209 ?_
                      refine x_top (y := nI ((d * 4) + i)) (nI_add _ _) ?_
                      refine lv_aload_n hx hb d_M_decode_210 rfl (lv_at hl 0 rfl) ?_
                      refine lv_aload_n hx hb d_M_decode_211 rfl (lv_at hl 0 rfl) ?_
                      refine x_get (v := .ref (bd 12)) (C := R_M) (T := F_M) (N := 17) hx hb hg i_M hown hK hP (ma_0 hM) rfl 15 (by decide) (hg _ w_369) (fun _ h9 => h9) rfl d_M_decode_212 ?_
                      refine lv_iload hx hb d_M_decode_215 (lv_at hl 3 rfl) ?_
                      refine lv_iconst (v := nI 4) hx hb d_M_decode_217 (by decide) ?_
                      refine lv_imul hx hb d_M_decode_218 ?_
                      refine x_top (y := nI (d * 4)) (pk_mul _ _) ?_
                      refine lv_iload hx hb d_M_decode_219 (lv_at hl 5 rfl) ?_
                      refine lv_iadd hx hb d_M_decode_221 ?_
                      refine x_top (y := nI ((d * 4) + i)) (nI_add _ _) ?_
                      refine x_iald (v := (q2 qx (slL d (ivC K d F) i (c1F K d F)) (c1R K d F R)) 12 ((d * 4) + i)) hx hb hK hP 0 (ma_12 hM) rfl (vp_in_nI (by omega) (by omega)) (by rw [nI_clamp (by omega)]) d_M_decode_222 ?_
                      refine x_top (y := (slL d (ivC K d F) i (c1F K d F) (d * 4 + i))) (by rw [q2_12]) ?_
                      refine lv_iload hx hb d_M_decode_223 (lv_at hl 4 rfl) ?_
                      refine xv_R (n := 2) (As := [.int (slL d (ivC K d F) i (c1F K d F) (d * 4 + i)), .int (ivC K d F)]) (rest := [.int (nI ((d * 4) + i)), .ref (bd 12)]) hx hb hml hown hg hK0 hP (c_M_product l D T A _ bd K N (q2 qx (slL d (ivC K d F) i (c1F K d F)) (c1R K d F R)) hz hM (slL d (ivC K d F) i (c1F K d F) (d * 4 + i)) (ivC K d F)) w_448 w_6 w_445 w_447 s_25 (ma_0 hM) rfl rfl (by decide +kernel) ⟨Nat.le_of_ble_eq_true rfl, Nat.le_of_ble_eq_true rfl⟩ rfl hl.1 rfl (Nat.le_of_ble_eq_true rfl) ⟨Nat.zero_le _, Nat.zero_le _⟩ rfl rfl d_M_decode_225 (fun r hr => ?_)
                      subst hr
                      refine x_fr (pc := 228) [.int (prF (slL d (ivC K d F) i (c1F K d F) (d * 4 + i)) (ivC K d F)), .int (nI ((d * 4) + i)), .ref (bd 12)] rfl rfl ?_
                      refine x_iast hx hb hK hP hS 0 (ma_12 hM) rfl (vp_in_nI (by omega) (by omega)) d_M_decode_228 (fun H_274 L_275 hP hS => ?_)
                      rw [nI_clamp (by omega)] at hP
                      obtain ⟨q_276, hq_276⟩ : ∃ z, z = upQ (q2 qx (slL d (ivC K d F) i (c1F K d F)) (c1R K d F R)) 12 (upd ((q2 qx (slL d (ivC K d F) i (c1F K d F)) (c1R K d F R)) 12) ((d * 4) + i) (prF (slL d (ivC K d F) i (c1F K d F) (d * 4 + i)) (ivC K d F))) := ⟨_, rfl⟩
                      obtain ⟨M_277, hP, hR⟩ : ∃ z, xW D classes A z H_274 ∧ mR T bd K N M q_276 z := ⟨_, hP, by rw [hq_276]; exact hR.set (by omega) rfl⟩
                      have hM := hR.1
                      have hR : mR T bd K N M (q2 qx (slL d (ivC K d F) (i + 1) (c1F K d F)) (c1R K d F R)) M_277 := by rw [hq_276, q2_12, q2_F] at hR; exact hR
                      refine lv_iinc (v := nI (i + 1)) (lv' := [(7, .int (nI (i + 1))), (0, .ref (bd 0)), (1, .int (nI f)), (2, .int x), (4, .int (nI d)), (6, .int (ivC K d F))]) hx hb d_M_decode_229 hl (k := 5) rfl (nI_1 _) (by decide) rfl (fun ls hl => ?_)
                      refine lv_goto (tgt := 190) hx hb d_M_decode_232 (by decide) ?_
                      exact ih (i + 1) (by omega) (by omega) _ _ _ hP hS hR ls (lv_sub hl [1, 2, 3, 4, 5, 0] rfl)
                exact loopS (K + 1) 0 (by omega) (by omega) _ _ _ hP hS hR ls (lv_sub hl [2, 3, 4, 5, 1, 0] rfl)
              have cont : d ≤ pvF K F d → pvF K F d ≤ K - 1 → ∀ (ls : Array Slot), lv_has ls 8 [(0, .ref (bd 0)), (1, .int (nI f)), (2, .int x), (4, .int (nI d)), (5, .int (nI (pvF K F d)))] → W p l e (rmH 4) s m [.ref (bd 0), .int (nI f), .int x].toArray below meth c Hx Lx 0 0 Q (F0 m 150 ls []) := by
                intro hp1 hp2 ls hl
                refine lv_iload hx hb d_M_decode_150 (lv_at hl 4 rfl) ?_
                refine lv_iload hx hb d_M_decode_152 (lv_at hl 3 rfl) ?_
                refine x_nc_le (tgt := 166) hx hb d_M_decode_154 (by decide) (by omega) (by omega) (fun c154 => ?_) (fun c154 => ?_)
                · exact cont1 _ _ _ hP hS (by rw [c1F, c1R, if_neg (by omega), if_neg (by omega)]; exact hR) ls (lv_sub hl [0, 1, 2, 3] rfl)
                · refine lv_aload_n hx hb d_M_decode_157 rfl (lv_at hl 0 rfl) ?_
                  refine lv_iload hx hb d_M_decode_158 (lv_at hl 3 rfl) ?_
                  refine lv_iload hx hb d_M_decode_160 (lv_at hl 4 rfl) ?_
                  refine lv_iconst (v := 1) hx hb d_M_decode_162 (by decide) ?_
                  refine xv_Q (n := 3) (As := [.int (nI d), .int (nI (pvF K F d)), .int 1]) (rest := []) hx hb hml hown hg hK0 hP (c_M_subtract l D T A _ bd K N (q2 qx F R) hz hM d (pvF K F d) (by omega) (by omega) 1) w_484 w_6 w_481 w_483 s_33 (ma_0 hM) rfl rfl (by decide +kernel) ⟨Nat.le_of_ble_eq_true rfl, Nat.le_of_ble_eq_true rfl⟩ rfl hl.1 rfl (Nat.le_of_ble_eq_true rfl) hS ⟨Nat.zero_le _, Nat.zero_le _⟩ rfl rfl d_M_decode_163 (fun r M1 H_278 L_279 hr hP hS => ?_)
                  obtain ⟨rfl, hR1⟩ := hr
                  obtain ⟨q_280, hq_280⟩ : ∃ z, z = upQ (upQ (q2 qx F R) 12 (sbL d (pvF K F d) 1 K ((q2 qx F R) 12))) 13 (sbR ((q2 qx F R) 13) d (pvF K F d) 1) := ⟨_, rfl⟩
                  rw [← hq_280] at hR1
                  have hR := hR.tr hR1
                  have hM := hR.1
                  refine x_fr (pc := 166) [] rfl rfl ?_
                  exact cont1 _ _ _ hP hS (by rw [c1F, c1R, if_pos c154, if_pos c154]; rw [hq_280, q2_12, q2_13, q2_F, q2_R] at hR; exact hR) ls (lv_sub hl [0, 1, 2, 3] rfl)
              have loopP : ∀ (u p0 : Nat), p0 + u = K - 1 → d ≤ p0 → pvF K F d = pvS F d p0 u → ∀ (ls : Array Slot), lv_has ls 8 [(0, .ref (bd 0)), (1, .int (nI f)), (2, .int x), (4, .int (nI d)), (5, .int (nI p0))] → W p l e (rmH 4) s m [.ref (bd 0), .int (nI f), .int x].toArray below meth c Hx Lx 0 0 Q (F0 m 118 ls []) := by
                intro u
                induction u with
                | zero =>
                  intro p0 hpu hpd hpv ls hl
                  refine lv_iload hx hb d_M_decode_118 (lv_at hl 4 rfl) ?_
                  refine lv_aload_n hx hb d_M_decode_120 rfl (lv_at hl 0 rfl) ?_
                  refine x_get (v := .int (nI K)) (C := R_M) (T := F_M) (N := 17) hx hb hg i_M hown hK hP (ma_0 hM) rfl 0 (by decide) (hg _ w_354) (fun _ h9 => h9) rfl d_M_decode_121 ?_
                  refine lv_iconst (v := nI 1) hx hb d_M_decode_124 (by decide) ?_
                  refine lv_isub hx hb d_M_decode_125 ?_
                  refine x_top (y := nI (K - 1)) (pk_sub (by omega)) ?_
                  refine x_nc_ge (tgt := 150) hx hb d_M_decode_126 (by decide) (by omega) (by omega) (fun c126 => ?_) (fun c126 => ?_)
                  · have epv : pvF K F d = p0 := hpv
                    exact cont (by omega) (by omega) ls (by rw [epv]; exact (lv_sub hl [0, 1, 2, 3, 4] rfl))
                  · exact absurd c126 (by omega)
                | succ u ihu =>
                  intro p0 hpu hpd hpv ls hl
                  refine lv_iload hx hb d_M_decode_118 (lv_at hl 4 rfl) ?_
                  refine lv_aload_n hx hb d_M_decode_120 rfl (lv_at hl 0 rfl) ?_
                  refine x_get (v := .int (nI K)) (C := R_M) (T := F_M) (N := 17) hx hb hg i_M hown hK hP (ma_0 hM) rfl 0 (by decide) (hg _ w_354) (fun _ h9 => h9) rfl d_M_decode_121 ?_
                  refine lv_iconst (v := nI 1) hx hb d_M_decode_124 (by decide) ?_
                  refine lv_isub hx hb d_M_decode_125 ?_
                  refine x_top (y := nI (K - 1)) (pk_sub (by omega)) ?_
                  refine x_nc_ge (tgt := 150) hx hb d_M_decode_126 (by decide) (by omega) (by omega) (fun c126 => ?_) (fun c126 => ?_)
                  · exact absurd c126 (by omega)
                  · refine lv_aload_n hx hb d_M_decode_129 rfl (lv_at hl 0 rfl) ?_
                    refine x_get (v := .ref (bd 12)) (C := R_M) (T := F_M) (N := 17) hx hb hg i_M hown hK hP (ma_0 hM) rfl 15 (by decide) (hg _ w_369) (fun _ h9 => h9) rfl d_M_decode_130 ?_
                    refine lv_iload hx hb d_M_decode_133 (lv_at hl 4 rfl) ?_
                    refine lv_iconst (v := nI 4) hx hb d_M_decode_135 (by decide) ?_
                    refine lv_imul hx hb d_M_decode_136 ?_
                    refine x_top (y := nI (p0 * 4)) (pk_mul _ _) ?_
                    refine lv_iload hx hb d_M_decode_137 (lv_at hl 3 rfl) ?_
                    refine lv_iadd hx hb d_M_decode_139 ?_
                    refine x_top (y := nI ((p0 * 4) + d)) (nI_add _ _) ?_
                    refine x_iald (v := (q2 qx F R) 12 ((p0 * 4) + d)) hx hb hK hP 0 (ma_12 hM) rfl (vp_in_nI (by omega) (by omega)) (by rw [nI_clamp (by omega)]) d_M_decode_140 ?_
                    refine x_top (y := (F (p0 * 4 + d))) (by rw [q2_12]) ?_
                    refine lv_if_ne (tgt := 150) hx hb d_M_decode_141 (by decide) (fun c141 => ?_) (fun c141 => ?_)
                    · have epv : pvF K F d = p0 := by rw [hpv, pvS, if_neg c141]
                      exact cont (by omega) (by omega) ls (by rw [epv]; exact (lv_sub hl [0, 1, 2, 3, 4] rfl))
                    · refine lv_iinc (v := nI (p0 + 1)) (lv' := [(5, .int (nI (p0 + 1))), (0, .ref (bd 0)), (1, .int (nI f)), (2, .int x), (4, .int (nI d))]) hx hb d_M_decode_144 hl (k := 4) rfl (nI_1 _) (by decide) rfl (fun ls hl => ?_)
                      refine lv_goto (tgt := 118) hx hb d_M_decode_147 (by decide) ?_
                      exact ihu (p0 + 1) (by omega) (by omega) (by rw [hpv, pvS, if_pos c141]) ls (lv_sub hl [1, 2, 3, 4, 0] rfl)
              exact loopP (K - 1 - d) d (by omega) (Nat.le_refl d) rfl ls (lv_sub hl [1, 2, 3, 4, 0] rfl)
        exact loopB (K + 1) 0 (by omega) (by omega) _ _ _ hP hS (by rw [show elF K 0 E0 = E0 from rfl, show elR K 0 E0 R0 = R0 from rfl, hq2]; exact hR) ls (lv_sub hl [1, 2, 3, 0] rfl)
      · refine lv_iload_n hx hb d_M_decode_14 rfl (lv_at hl 3 rfl) ?_
        refine lv_aload_n hx hb d_M_decode_15 rfl (lv_at hl 0 rfl) ?_
        refine x_get (v := .int (nI K)) (C := R_M) (T := F_M) (N := 17) hx hb hg i_M hown hK hP (ma_0 hM) rfl 0 (by decide) (hg _ w_354) (fun _ h9 => h9) rfl d_M_decode_16 ?_
        refine x_nc_ge (tgt := 96) hx hb d_M_decode_19 (by decide) (by omega) (by omega) (fun c19 => ?_) (fun c19 => ?_)
        · have hmo := cuF_mono (u := svF N g f x) (show i ≤ i + 1 by omega)
          refine lv_iinc (v := nI (i + 1)) (lv' := [(4, .int (nI (i + 1))), (0, .ref (bd 0)), (1, .int (nI f)), (2, .int x), (3, .int (nI nn))]) hx hb d_M_decode_96 hl (k := 4) rfl (nI_1 _) (by decide) rfl (fun ls hl => ?_)
          refine lv_goto (tgt := 5) hx hb d_M_decode_99 (by decide) ?_
          exact ih (i + 1) nn qx (by omega) (by omega) (by omega) r1 (fun s hs1 ht hlt => (Nat.lt_succ_iff_lt_or_eq.mp hs1).elim (fun z => r2 s z ht hlt) (fun z => by subst z; omega)) _ _ _ hP hS hR ls (lv_sub hl [1, 2, 3, 4, 0] rfl)
        · refine lv_aload_n hx hb d_M_decode_22 rfl (lv_at hl 0 rfl) ?_
          refine lv_iload_n hx hb d_M_decode_23 rfl (lv_at hl 1 rfl) ?_
          refine lv_iload hx hb d_M_decode_24 (lv_at hl 4 rfl) ?_
          refine lv_iload_n hx hb d_M_decode_26 rfl (lv_at hl 2 rfl) ?_
          refine xv_R (n := 3) (As := [.int (nI f), .int (nI i), .int x]) (rest := []) hx hb hml hown hg hK0 hP (c_M_serves l D T A _ bd K N qx hz hM g hsx c0 w hI f i (by omega) (by omega) x) w_468 w_6 w_465 w_467 s_29 (ma_0 hM) rfl rfl (by decide +kernel) ⟨Nat.le_of_ble_eq_true rfl, Nat.le_of_ble_eq_true rfl⟩ rfl hl.1 rfl (Nat.le_of_ble_eq_true rfl) ⟨Nat.zero_le _, Nat.zero_le _⟩ rfl rfl d_M_decode_27 (fun r hr => ?_)
          subst hr
          refine x_fr (pc := 30) [.int (svF N g f x i)] rfl rfl ?_
          refine lv_if_eq (tgt := 96) hx hb d_M_decode_30 (by decide) (fun c30 => ?_) (fun c30 => ?_)
          · have ecu := cuF_z c30
            refine lv_iinc (v := nI (i + 1)) (lv' := [(4, .int (nI (i + 1))), (0, .ref (bd 0)), (1, .int (nI f)), (2, .int x), (3, .int (nI nn))]) hx hb d_M_decode_96 hl (k := 4) rfl (nI_1 _) (by decide) rfl (fun ls hl => ?_)
            refine lv_goto (tgt := 5) hx hb d_M_decode_99 (by decide) ?_
            exact ih (i + 1) nn qx (by omega) (by omega) (by omega) r1 (fun s hs1 ht hlt => (Nat.lt_succ_iff_lt_or_eq.mp hs1).elim (fun z => r2 s z ht hlt) (fun z => absurd (by rw [z]; exact c30) ht)) _ _ _ hP hS hR ls (lv_sub hl [1, 2, 3, 4, 0] rfl)
          · have ecu := cuF_s c30
            have hnn : nn = cuF (svF N g f x) i := by omega
            refine lv_iconst (v := nI 0) hx hb d_M_decode_33 (by decide) ?_
            refine lv_istore (lv' := [(5, .int (nI 0)), (0, .ref (bd 0)), (1, .int (nI f)), (2, .int x), (3, .int (nI nn)), (4, .int (nI i))]) hx hb d_M_decode_34 hl (by decide) rfl (fun ls hl => ?_)
            have loopI : ∀ (n : Nat) (j : Nat) (qw : qT), K + 1 ≤ j + n → j ≤ K → (∀ k, k ≠ 12 → qw k = qx k) → (∀ c, c < j → qw 12 (nn * 4 + c) = pwF (nI i + 1) c) → (∀ a c, a ≠ nn → c < 4 → qw 12 (a * 4 + c) = qx 12 (a * 4 + c)) → ∀ (Mx : xM) (Hx : Heap) (Lx : List Loc), xW D classes A Mx Hx → va_S A s.heap Hx Lx → mR T bd K N M qw Mx → ∀ (ls : Array Slot), lv_has ls 8 [(0, .ref (bd 0)), (1, .int (nI f)), (2, .int x), (3, .int (nI nn)), (4, .int (nI i)), (5, .int (nI j))] → W p l e (rmH 4) s m [.ref (bd 0), .int (nI f), .int x].toArray below meth c Hx Lx 0 0 Q (F0 m 36 ls []) := by
              intro n
              induction n with
              | zero =>
                intro j qw h2i h1i w1 w2 w3
                exact absurd h2i (by omega)
              | succ n ih =>
                intro j qw h2i h1i w1 w2 w3 Mx Hx Lx hP hS hR ls hl
                have hM := hR.1
                refine lv_iload hx hb d_M_decode_36 (lv_at hl 5 rfl) ?_
                refine lv_aload_n hx hb d_M_decode_38 rfl (lv_at hl 0 rfl) ?_
                refine x_get (v := .int (nI K)) (C := R_M) (T := F_M) (N := 17) hx hb hg i_M hown hK hP (ma_0 hM) rfl 0 (by decide) (hg _ w_354) (fun _ h9 => h9) rfl d_M_decode_39 ?_
                refine x_nc_ge (tgt := 72) hx hb d_M_decode_42 (by decide) (by omega) (by omega) (fun c42 => ?_) (fun c42 => ?_)
                · have hjK : j = K := by omega
                  rw [hjK] at w2
                  refine lv_aload_n hx hb d_M_decode_72 rfl (lv_at hl 0 rfl) ?_
                  refine x_get (v := .ref (bd 13)) (C := R_M) (T := F_M) (N := 17) hx hb hg i_M hown hK hP (ma_0 hM) rfl 16 (by decide) (hg _ w_370) (fun _ h9 => h9) rfl d_M_decode_73 ?_
                  refine lv_iload_n hx hb d_M_decode_76 rfl (lv_at hl 3 rfl) ?_
                  refine lv_aload_n hx hb d_M_decode_77 rfl (lv_at hl 0 rfl) ?_
                  refine x_get (v := .ref (bd 7)) (C := R_M) (T := F_M) (N := 17) hx hb hg i_M hown hK hP (ma_0 hM) rfl 9 (by decide) (hg _ w_363) (fun _ h9 => h9) rfl d_M_decode_78 ?_
                  refine lv_iload_n hx hb d_M_decode_81 rfl (lv_at hl 1 rfl) ?_
                  refine lv_bipush (v := nI 70) hx hb d_M_decode_82 (by decide) ?_
                  refine lv_imul hx hb d_M_decode_84 ?_
                  refine x_top (y := nI (f * 70)) (pk_mul _ _) ?_
                  refine lv_iload hx hb d_M_decode_85 (lv_at hl 4 rfl) ?_
                  refine lv_bipush (v := nI 10) hx hb d_M_decode_87 (by decide) ?_
                  refine lv_imul hx hb d_M_decode_89 ?_
                  refine x_top (y := nI (i * 10)) (pk_mul _ _) ?_
                  refine lv_iadd hx hb d_M_decode_90 ?_
                  refine x_top (y := nI ((f * 70) + (i * 10))) (nI_add _ _) ?_
                  refine x_iald (v := qw 7 ((f * 70) + (i * 10))) hx hb hK hP 0 (ma_7 hM) rfl (vp_in_nI (by omega) (by omega)) (by rw [nI_clamp (by omega)]) d_M_decode_91 ?_
                  refine x_top (y := (g 17 f i 1)) (by rw [show f * 70 + i * 10 = (f * 7 + i) * 10 by omega, w1 7 (by omega), r1 7 (by omega) (by omega)]; exact (hs.rc hf (by omega)).2.1) ?_
                  refine x_iast hx hb hK hP hS 0 (ma_13 hM) rfl (vp_in_nI (by omega) (by omega)) d_M_decode_92 (fun H_281 L_282 hP hS => ?_)
                  rw [nI_clamp (by omega)] at hP
                  obtain ⟨q_283, hq_283⟩ : ∃ z, z = upQ qw 13 (upd (qw 13) nn (g 17 f i 1)) := ⟨_, rfl⟩
                  obtain ⟨M_284, hP, hR⟩ : ∃ z, xW D classes A z H_281 ∧ mR T bd K N M q_283 z := ⟨_, hP, by rw [hq_283]; exact hR.set (by omega) rfl⟩
                  have hM := hR.1
                  refine lv_iinc (v := nI (nn + 1)) (lv' := [(3, .int (nI (nn + 1))), (0, .ref (bd 0)), (1, .int (nI f)), (2, .int x), (4, .int (nI i)), (5, .int (nI j))]) hx hb d_M_decode_93 hl (k := 3) rfl (nI_1 _) (by decide) rfl (fun ls hl => ?_)
                  refine lv_iinc (v := nI (i + 1)) (lv' := [(4, .int (nI (i + 1))), (3, .int (nI (nn + 1))), (0, .ref (bd 0)), (1, .int (nI f)), (2, .int x), (5, .int (nI j))]) hx hb d_M_decode_96 hl (k := 4) rfl (nI_1 _) (by decide) rfl (fun ls hl => ?_)
                  refine lv_goto (tgt := 5) hx hb d_M_decode_99 (by decide) ?_
                  refine ihA (i + 1) (nn + 1) q_283 (by omega) (by omega) (by omega) (fun k k1 k2 => by rw [hq_283, upQ_n k2, w1 k k1]; exact r1 k k1 k2) (fun s hs1 ht hlt => ?_) _ _ _ hP hS hR ls (lv_sub hl [2, 3, 4, 1, 0] rfl)
                  rcases Nat.lt_succ_iff_lt_or_eq.mp hs1 with z | z
                  · obtain ⟨v1, v2⟩ := r2 s z ht hlt
                    have hne : cuF (svF N g f x) s ≠ nn := fun q => by have := cuF_inj ht c30 (q.trans hnn); omega
                    refine ⟨fun c hc => ?_, ?_⟩
                    · rw [hq_283, upQ_n (by omega), w3 _ c hne (by omega)]; exact v1 c hc
                    · rw [hq_283, upQ_s, upd_n hne, w1 13 (by omega)]; exact v2
                  · subst z
                    rw [← hnn]
                    refine ⟨fun c hc => ?_, ?_⟩
                    · rw [hq_283, upQ_n (by omega)]; exact w2 c hc
                    · rw [hq_283, upQ_s, upd_s]
                · refine lv_aload_n hx hb d_M_decode_45 rfl (lv_at hl 0 rfl) ?_
                  refine x_get (v := .ref (bd 12)) (C := R_M) (T := F_M) (N := 17) hx hb hg i_M hown hK hP (ma_0 hM) rfl 15 (by decide) (hg _ w_369) (fun _ h9 => h9) rfl d_M_decode_46 ?_
                  refine lv_iload_n hx hb d_M_decode_49 rfl (lv_at hl 3 rfl) ?_
                  refine lv_iconst (v := nI 4) hx hb d_M_decode_50 (by decide) ?_
                  refine lv_imul hx hb d_M_decode_51 ?_
                  refine x_top (y := nI (nn * 4)) (pk_mul _ _) ?_
                  refine lv_iload hx hb d_M_decode_52 (lv_at hl 5 rfl) ?_
                  refine lv_iadd hx hb d_M_decode_54 ?_
                  refine x_top (y := nI ((nn * 4) + j)) (nI_add _ _) ?_
                  refine lv_aload_n hx hb d_M_decode_55 rfl (lv_at hl 0 rfl) ?_
                  refine lv_iload hx hb d_M_decode_56 (lv_at hl 4 rfl) ?_
                  refine lv_iconst (v := nI 1) hx hb d_M_decode_58 (by decide) ?_
                  refine lv_iadd hx hb d_M_decode_59 ?_
                  refine x_top (y := nI (i + 1)) (nI_add _ _) ?_
                  refine lv_iload hx hb d_M_decode_60 (lv_at hl 5 rfl) ?_
                  refine xv_R (n := 2) (As := [.int (nI (i + 1)), .int (nI j)]) (rest := [.int (nI ((nn * 4) + j)), .ref (bd 12)]) hx hb hml hown hg hK0 hP (c_M_power l D T A _ bd K N qw hz hM (nI (i + 1)) j (by omega)) w_444 w_6 w_441 w_443 s_24 (ma_0 hM) rfl rfl (by decide +kernel) ⟨Nat.le_of_ble_eq_true rfl, Nat.le_of_ble_eq_true rfl⟩ rfl hl.1 rfl (Nat.le_of_ble_eq_true rfl) ⟨Nat.zero_le _, Nat.zero_le _⟩ rfl rfl d_M_decode_62 (fun r hr => ?_)
                  subst hr
                  refine x_fr (pc := 65) [.int (pwF (nI (i + 1)) j), .int (nI ((nn * 4) + j)), .ref (bd 12)] rfl rfl ?_
                  refine x_iast hx hb hK hP hS 0 (ma_12 hM) rfl (vp_in_nI (by omega) (by omega)) d_M_decode_65 (fun H_285 L_286 hP hS => ?_)
                  rw [nI_clamp (by omega)] at hP
                  obtain ⟨q_287, hq_287⟩ : ∃ z, z = upQ qw 12 (upd (qw 12) ((nn * 4) + j) (pwF (nI (i + 1)) j)) := ⟨_, rfl⟩
                  obtain ⟨M_288, hP, hR⟩ : ∃ z, xW D classes A z H_285 ∧ mR T bd K N M q_287 z := ⟨_, hP, by rw [hq_287]; exact hR.set (by omega) rfl⟩
                  have hM := hR.1
                  refine lv_iinc (v := nI (j + 1)) (lv' := [(5, .int (nI (j + 1))), (0, .ref (bd 0)), (1, .int (nI f)), (2, .int x), (3, .int (nI nn)), (4, .int (nI i))]) hx hb d_M_decode_66 hl (k := 5) rfl (nI_1 _) (by decide) rfl (fun ls hl => ?_)
                  refine lv_goto (tgt := 36) hx hb d_M_decode_69 (by decide) ?_
                  refine ih (j + 1) q_287 (by omega) (by omega) (fun k k1 => by rw [hq_287, upQ_n k1]; exact w1 k k1) (fun c hc => ?_) (fun a c ha hc => by rw [hq_287, upQ_s, upd_n (by omega)]; exact w3 a c ha hc) _ _ _ hP hS hR ls (lv_sub hl [1, 2, 3, 4, 5, 0] rfl)
                  rw [hq_287, upQ_s]
                  by_cases e : c = j
                  · subst e; rw [upd_s, nI_succ]
                  · rw [upd_n (by omega)]; exact w2 c (by omega)
            exact loopI (K + 1) 0 qx (by omega) (by omega) (fun _ _ => rfl) (fun c hc => absurd hc (by omega)) (fun _ _ _ _ => rfl) _ _ _ hP hS hR ls (lv_sub hl [1, 2, 3, 4, 5, 0] rfl)
  exact loopA (N + 1) 0 0 q (by omega) (by omega) (Or.inl ⟨rfl, by omega⟩) (fun _ _ _ => rfl) (fun s hs1 => absurd hs1 (by omega)) _ _ _ hP hS hR ls (lv_sub hl [2, 3, 4, 1, 0] rfl)
