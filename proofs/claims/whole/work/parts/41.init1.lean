set_option maxHeartbeats 4000000 in
set_option maxRecDepth 100000 in
theorem c_R_init (l : Launch) (D : va_G) (T : Nat → ClassId) (A : Nat → Prop) (M : xM) (sz : Nat) (hA0 : ∀ q, sz ≤ q → A q) (b n0 : Nat) (h7 : n0 ≤ 7) (h0 : M b = some (.inr (1, [.null, .int 0, .int 0, .int 0, .int 0]))) : Met l y_R_init (Cond.code y_R_init b_R_init 2 none :: gw) (rmC 1 1 7) (xPn D T A M sz [.ref b, .int (nI n0)]) (xQ D A (fun r M1 => r = none ∧ ∃ a, M a = none ∧ M1 = xU (xU M a (eI (T 0) n0 (fun _ => 0))) b (.inr (1, [.ref a, .int 0, .int 0, .int 0, .int 0])))) 1 7 A := by
  refine xMetNv hA0 (by decide) (Nat.le_of_ble_eq_true rfl) ?_
  intro p e s m below meth c Q ls hB hP hS hA hl hret
  obtain ⟨hx, hb, hml, hown, hg, hK0, hnm⟩ := hB
  have hnm : meth.name = "<init>" := hnm
  have hown : s.vm.findClass "ShareGrid$ServerRecord" = some m.cls := hown
  have hK := hK0.1
  have hN := hK0.2.1
  have hO := hK0.2.2
  have hl : lv_has ls 2 [(0, .ref b), (1, .int (nI n0))] := hl
  refine lv_aload_n hx hb d_R_init_0 rfl (lv_at hl 0 rfl) ?_
  refine W.objInit hx hb hown (hg _ w_39) (hg _ w_15) (hg _ w_16) rfl (by rw [hml]; exact hl.1) rfl d_R_init_1 (Nat.le_of_ble_eq_true rfl) (Nat.le_of_ble_eq_true rfl) ?_
  refine W.eq (g2 := F0 m 4 ls []) rfl ?_
  refine lv_aload_n hx hb d_R_init_4 rfl (lv_at hl 0 rfl) ?_
  refine lv_iload_n hx hb d_R_init_5 rfl (lv_at hl 1 rfl) ?_
  refine x_newi (atype := .int) (n := nI n0) (N' := n0) hx hb (hg _ w_67) rfl hK hP hS hA 0 rfl (nI_pos (by omega)) (nI_clamp (by omega)) (by omega) (by simp only [rmC]; omega) (by simp only [rmC]; omega) d_R_init_6 (fun q H_310 hq hP hS => ?_)
  refine W.widen (k := 1) (n := 7) (by omega) (by omega) ?_
  have h0 := xU_kn (e := eI (T 0) n0 (fun _ => 0)) hq h0
  refine x_putF (v := .ref q) (ty := t_R 0) (C := R_R) (T := F_R) (N := 5) hx hb hg i_R t_R t_R_ok n_R hown hK hP hS h0 rfl 0 (by decide) (hg _ w_40) (fun _ h9 => h9) rfl hnm rfl (by decide +kernel) rfl rfl (Nat.le_of_ble_eq_true rfl) d_R_init_8 (fun H_311 L_312 hP hS => ?_)
  exact hret _ _ _ _ _ d_R_init_11 hP hS ⟨rfl, q, hq, rfl⟩
set_option maxHeartbeats 4000000 in
set_option maxRecDepth 100000 in
theorem c_C_init (l : Launch) (D : va_G) (T : Nat → ClassId) (A : Nat → Prop) (M : xM) (sz : Nat) (hA0 : ∀ q, sz ≤ q → A q) (b K : Nat) (h4 : K ≤ 4) (h0 : M b = some (.inr (0, [.int 0, .null, .null]))) : Met l y_C_init (Cond.code y_C_init b_C_init 2 none :: gw) (rmC 1 2 8) (xPn D T A M sz [.ref b, .int (nI K)]) (xQ D A (fun r M1 => r = none ∧ ∃ a1 a2, M a1 = none ∧ M a2 = none ∧ a1 ≠ a2 ∧ M1 = xU (xU (xU M a1 (eI (T 0) K (fun _ => 0))) a2 (eI (T 0) K (fun _ => 0))) b (.inr (0, [.int (nI K), .ref a1, .ref a2])))) 2 8 A := by
  refine xMetNv hA0 (by decide) (Nat.le_of_ble_eq_true rfl) ?_
  intro p e s m below meth c Q ls hB hP hS hA hl hret
  obtain ⟨hx, hb, hml, hown, hg, hK0, hnm⟩ := hB
  have hnm : meth.name = "<init>" := hnm
  have hown : s.vm.findClass "ShareGrid$Coder" = some m.cls := hown
  have hK := hK0.1
  have hN := hK0.2.1
  have hO := hK0.2.2
  have hl : lv_has ls 2 [(0, .ref b), (1, .int (nI K))] := hl
  refine lv_aload_n hx hb d_C_init_0 rfl (lv_at hl 0 rfl) ?_
  refine W.objInit hx hb hown (hg _ w_95) (hg _ w_15) (hg _ w_16) rfl (by rw [hml]; exact hl.1) rfl d_C_init_1 (Nat.le_of_ble_eq_true rfl) (Nat.le_of_ble_eq_true rfl) ?_
  refine W.eq (g2 := F0 m 4 ls []) rfl ?_
  refine lv_aload_n hx hb d_C_init_4 rfl (lv_at hl 0 rfl) ?_
  refine lv_iload_n hx hb d_C_init_5 rfl (lv_at hl 1 rfl) ?_
  have h00 := h0
  refine x_putF (v := .int (nI K)) (ty := .int) (C := R_C) (T := F_C) (N := 3) hx hb hg i_C t_C t_C_ok n_C hown hK hP hS h0 rfl 0 (by decide) (hg _ w_96) (fun _ h9 => h9) rfl hnm rfl (by decide +kernel) rfl rfl (Nat.le_of_ble_eq_true rfl) d_C_init_6 (fun H_313 L_314 hP hS => ?_)
  have h0 : xU M b (.inr (0, [.int (nI K), .null, .null])) b = some (.inr (0, [.int (nI K), .null, .null])) := xU_s
  refine lv_aload_n hx hb d_C_init_9 rfl (lv_at hl 0 rfl) ?_
  refine lv_iload_n hx hb d_C_init_10 rfl (lv_at hl 1 rfl) ?_
  refine x_newi (atype := .int) (n := nI K) (N' := K) hx hb (hg _ w_67) rfl hK hP hS hA 0 rfl (nI_pos (by omega)) (nI_clamp (by omega)) (by omega) (by simp only [rmC]; omega) (by simp only [rmC]; omega) d_C_init_11 (fun q1 H_315 hq1 hP hS => ?_)
  refine W.widen (k := 1) (n := 4) (by omega) (by omega) ?_
  have hb1 : q1 ≠ b := fun z => by rw [z, xU_s] at hq1; cases hq1
  have h0 := xU_kn (e := eI (T 0) K (fun _ => 0)) hq1 h0
  refine x_putF (v := .ref q1) (ty := t_C 1) (C := R_C) (T := F_C) (N := 3) hx hb hg i_C t_C t_C_ok n_C hown hK hP hS h0 rfl 1 (by decide) (hg _ w_97) (fun _ h9 => h9) rfl hnm rfl (by decide +kernel) rfl rfl (Nat.le_of_ble_eq_true rfl) d_C_init_13 (fun H_316 L_317 hP hS => ?_)
  have h0 : xU (xU (xU M b (.inr (0, [.int (nI K), .null, .null]))) q1 (eI (T 0) K (fun _ => 0))) b (.inr (0, [.int (nI K), .ref q1, .null])) b = some (.inr (0, [.int (nI K), .ref q1, .null])) := xU_s
  refine lv_aload_n hx hb d_C_init_16 rfl (lv_at hl 0 rfl) ?_
  refine lv_iload_n hx hb d_C_init_17 rfl (lv_at hl 1 rfl) ?_
  refine x_newi (atype := .int) (n := nI K) (N' := K) hx hb (hg _ w_67) rfl hK hP hS hA 0 rfl (nI_pos (by omega)) (nI_clamp (by omega)) (by omega) (by simp only [rmC]; omega) (by simp only [rmC]; omega) d_C_init_18 (fun q2 H_318 hq2 hP hS => ?_)
  refine W.widen (k := 2) (n := 8) (by omega) (by omega) ?_
  have hb2 : q2 ≠ b := fun z => by rw [z, xU_s] at hq2; cases hq2
  have h12 : q1 ≠ q2 := fun z => by rw [← z, xU_n hb1, xU_s] at hq2; cases hq2
  have h0 := xU_kn (e := eI (T 0) K (fun _ => 0)) hq2 h0
  refine x_putF (v := .ref q2) (ty := t_C 2) (C := R_C) (T := F_C) (N := 3) hx hb hg i_C t_C t_C_ok n_C hown hK hP hS h0 rfl 2 (by decide) (hg _ w_99) (fun _ h9 => h9) rfl hnm rfl (by decide +kernel) rfl rfl (Nat.le_of_ble_eq_true rfl) d_C_init_20 (fun H_319 L_320 hP hS => ?_)
  rw [xU_n hb1] at hq1
  rw [xU_n hb2, xU_n (Ne.symm h12), xU_n hb2] at hq2
  refine hret _ _ _ _ _ d_C_init_23 hP hS ⟨rfl, q1, q2, hq1, hq2, h12, ?_⟩
  funext x
  by_cases hxb : x = b
  · simp [xU, hxb]
  · simp [xU, hxb]
