def sY (j k f s : Nat) : Prop := 1 ≤ k ∧ k < j ∧ f = 0 ∧ s = 0
theorem sY_1 {j : Nat} (hj : 1 ≤ j) (k f s : Nat) : sY (j + 1) k f s ↔ sA (sY j) j 0 0 k f s := by
  simp only [sY, sA]
  omega
theorem sY_n {j : Nat} : ¬ sY j j 0 0 := by
  simp only [sY]
  omega
def q0F : qT := fun k j => if k = 1 ∧ j < 7 then 1 else 0
theorem q0_n {k : Nat} (h : k ≠ 1) : q0F k = fun _ => 0 := by
  funext j
  simp [q0F, h]
theorem q0_1 : q0F 1 = fun j => if j < 7 then 1 else 0 := by
  funext j
  simp [q0F]
theorem clF_lo {x a d : Int32} (h : ¬ a ≤ x) (had : a ≤ d) : clF x a d = a := by
  simp only [clF]
  rw [Int32.le_iff_toInt_le] at h had
  have h1 : ¬ d < x := by rw [Int32.lt_iff_toInt_lt]; omega
  have h2 : ¬ a < x := by rw [Int32.lt_iff_toInt_lt]; omega
  rw [if_neg h1, if_neg h2]
theorem clF_hi {x a d : Int32} (h : ¬ x ≤ d) (had : a ≤ d) : clF x a d = d := by
  simp only [clF]
  rw [Int32.le_iff_toInt_le] at h had
  have h1 : d < x := by rw [Int32.lt_iff_toInt_lt]; omega
  rw [if_pos h1]
  by_cases h2 : a < d
  · rw [if_pos h2]
  · rw [if_neg h2]
    rw [Int32.lt_iff_toInt_lt] at h2
    exact Int32.toInt_inj.mp (by omega)
theorem clF_mid {x a d : Int32} (h : a ≤ x) (h2 : x ≤ d) : clF x a d = x := by
  simp only [clF]
  rw [Int32.le_iff_toInt_le] at h h2
  have h1 : ¬ d < x := by rw [Int32.lt_iff_toInt_lt]; omega
  rw [if_neg h1]
  by_cases h3 : a < x
  · rw [if_pos h3]
  · rw [if_neg h3]
    rw [Int32.lt_iff_toInt_lt] at h3
    exact Int32.toInt_inj.mp (by omega)
set_option maxHeartbeats 4000000 in
set_option maxRecDepth 100000 in
theorem c_M_init (l : Launch) (D : va_G) (T : Nat → ClassId) (A : Nat → Prop) (M : xM) (sz : Nat) (hA0 : ∀ q, sz ≤ q → A q) (b K N : Nat) (x y : Int32) (hz : zB K N) (hKx : clF x (nI 1) (nI 4) = nI K) (hNx : clF y (nI K) (nI 7) = nI N) (h0 : M b = some (.inr (4, [.int 0, .int 0, .null, .null, .null, .null, .int 0, .null, .null, .null, .null, .null, .null, .int 0, .null, .null, .null]))) : Met l y_M_init (Cond.code y_M_init b_M_init 4 none :: gw) (rmC 1 13 1354) (xPn D T A M sz [.ref b, .int x, .int y]) (xQ D A (fun r M1 => r = none ∧ ∃ bd : Nat → Nat, bS b (sY 14) (fun k _ _ => bd k) (fun k _ _ => cM T bd K N (q0F k) k) M M1 ∧ bd 0 = b ∧ M1 b = some (cM T bd K N (q0F 0) 0))) 13 1354 A := by
  refine xMetNv hA0 (by decide) (Nat.le_of_ble_eq_true rfl) ?_
  intro p e s m below meth c Q ls hB hP hS hA hl hret
  obtain ⟨hx, hb, hml, hown, hg, hK0, hnm⟩ := hB
  have hnm : meth.name = "<init>" := hnm
  have hown : s.vm.findClass "ShareGridModel" = some m.cls := hown
  have hK := hK0.1
  have hN := hK0.2.1
  have hO := hK0.2.2
  obtain ⟨hz1, hz4, hzn, hz7⟩ := id hz
  have hl : lv_has ls 4 [(0, .ref b), (1, .int x), (2, .int y)] := hl
  refine lv_aload_n hx hb d_M_init_0 rfl (lv_at hl 0 rfl) ?_
  refine W.objInit hx hb hown (hg _ w_353) (hg _ w_15) (hg _ w_16) rfl (by rw [hml]; exact hl.1) rfl d_M_init_1 (Nat.le_of_ble_eq_true rfl) (Nat.le_of_ble_eq_true rfl) ?_
  refine W.eq (g2 := F0 m 4 ls []) rfl ?_
  have hB := bS.nil b (fun _ _ _ => 0) (fun _ _ _ => .inr (0, [])) M
  have hB := hB.congr (S' := sY 1) (fun k f s => ⟨fun z => by simp only [sY] at z; omega, fun z => z.elim⟩) (fun _ _ _ _ => rfl)
  refine lv_aload_n hx hb d_M_init_4 rfl (lv_at hl 0 rfl) ?_
  refine lv_bipush (v := nI 7) hx hb d_M_init_5 (by decide) ?_
  refine x_newz (atype := .boolean) (n := nI 7) (N' := 7) hx hb (hg _ w_66) rfl hK hP hS hA 1 rfl (nI_pos (by omega)) (nI_clamp (by omega)) (by omega) (by simp only [rmC]; omega) (by simp only [rmC]; omega) d_M_init_7 (fun q1 H_404 hq1 hP hS => ?_)
  obtain ⟨a1, c1, Mz, uD1, uE1, hP, hB, h0⟩ : ∃ z2 z3 z4, z2 = uA (fun _ _ _ => 0) 1 0 0 q1 ∧ z3 = uA (fun _ _ _ => .inr (0, [])) 1 0 0 (eI (T 1) 7 (fun _ => 0)) ∧ xW D classes A z4 H_404 ∧ bS b (sY 2) z2 z3 M z4 ∧ z4 b = some (.inr (4, [.int 0, .int 0, .null, .null, .null, .null, .int 0, .null, .null, .null, .null, .null, .null, .int 0, .null, .null, .null])) := ⟨_, _, _, rfl, rfl, hP, (hB.add ⟨_, h0⟩ hq1 sY_n).congr (sY_1 (by omega)) (fun _ _ _ _ => rfl), xU_kn hq1 h0⟩
  refine x_putF (v := .ref q1) (ty := t_M 2) (C := R_M) (T := F_M) (N := 17) hx hb hg i_M t_M t_M_ok n_M hown hK hP hS h0 rfl 2 (by decide) (hg _ w_356) (fun _ h9 => h9) rfl hnm rfl (by decide +kernel) rfl rfl (Nat.le_of_ble_eq_true rfl) d_M_init_9 (fun H_405 L_406 hP hS => ?_)
  obtain ⟨Mz, hP, hB, h0⟩ : ∃ z, xW D classes A z H_405 ∧ bS b (sY 2) a1 c1 M z ∧ z b = some (.inr (4, [.int 0, .int 0, .ref q1, .null, .null, .null, .int 0, .null, .null, .null, .null, .null, .null, .int 0, .null, .null, .null])) := ⟨_, hP, hB.own _, xU_s⟩
  refine lv_aload_n hx hb d_M_init_12 rfl (lv_at hl 0 rfl) ?_
  refine lv_bipush (v := nI 7) hx hb d_M_init_13 (by decide) ?_
  refine x_newz (atype := .boolean) (n := nI 7) (N' := 7) hx hb (hg _ w_66) rfl hK hP hS hA 1 rfl (nI_pos (by omega)) (nI_clamp (by omega)) (by omega) (by simp only [rmC]; omega) (by simp only [rmC]; omega) d_M_init_15 (fun q2 H_407 hq2 hP hS => ?_)
  obtain ⟨a2, c2, Mz, uD2, uE2, hP, hB, h0⟩ : ∃ z2 z3 z4, z2 = uA a1 2 0 0 q2 ∧ z3 = uA c1 2 0 0 (eI (T 1) 7 (fun _ => 0)) ∧ xW D classes A z4 H_407 ∧ bS b (sY 3) z2 z3 M z4 ∧ z4 b = some (.inr (4, [.int 0, .int 0, .ref q1, .null, .null, .null, .int 0, .null, .null, .null, .null, .null, .null, .int 0, .null, .null, .null])) := ⟨_, _, _, rfl, rfl, hP, (hB.add ⟨_, h0⟩ hq2 sY_n).congr (sY_1 (by omega)) (fun _ _ _ _ => rfl), xU_kn hq2 h0⟩
  refine x_putF (v := .ref q2) (ty := t_M 3) (C := R_M) (T := F_M) (N := 17) hx hb hg i_M t_M t_M_ok n_M hown hK hP hS h0 rfl 3 (by decide) (hg _ w_357) (fun _ h9 => h9) rfl hnm rfl (by decide +kernel) rfl rfl (Nat.le_of_ble_eq_true rfl) d_M_init_17 (fun H_408 L_409 hP hS => ?_)
  obtain ⟨Mz, hP, hB, h0⟩ : ∃ z, xW D classes A z H_408 ∧ bS b (sY 3) a2 c2 M z ∧ z b = some (.inr (4, [.int 0, .int 0, .ref q1, .ref q2, .null, .null, .int 0, .null, .null, .null, .null, .null, .null, .int 0, .null, .null, .null])) := ⟨_, hP, hB.own _, xU_s⟩
  refine lv_aload_n hx hb d_M_init_20 rfl (lv_at hl 0 rfl) ?_
  refine lv_bipush (v := nI 6) hx hb d_M_init_21 (by decide) ?_
  refine x_newi (atype := .int) (n := nI 6) (N' := 6) hx hb (hg _ w_67) rfl hK hP hS hA 0 rfl (nI_pos (by omega)) (nI_clamp (by omega)) (by omega) (by simp only [rmC]; omega) (by simp only [rmC]; omega) d_M_init_23 (fun q3 H_410 hq3 hP hS => ?_)
  obtain ⟨a3, c3, Mz, uD3, uE3, hP, hB, h0⟩ : ∃ z2 z3 z4, z2 = uA a2 3 0 0 q3 ∧ z3 = uA c2 3 0 0 (eI (T 0) 6 (fun _ => 0)) ∧ xW D classes A z4 H_410 ∧ bS b (sY 4) z2 z3 M z4 ∧ z4 b = some (.inr (4, [.int 0, .int 0, .ref q1, .ref q2, .null, .null, .int 0, .null, .null, .null, .null, .null, .null, .int 0, .null, .null, .null])) := ⟨_, _, _, rfl, rfl, hP, (hB.add ⟨_, h0⟩ hq3 sY_n).congr (sY_1 (by omega)) (fun _ _ _ _ => rfl), xU_kn hq3 h0⟩
  refine x_putF (v := .ref q3) (ty := t_M 4) (C := R_M) (T := F_M) (N := 17) hx hb hg i_M t_M t_M_ok n_M hown hK hP hS h0 rfl 4 (by decide) (hg _ w_358) (fun _ h9 => h9) rfl hnm rfl (by decide +kernel) rfl rfl (Nat.le_of_ble_eq_true rfl) d_M_init_25 (fun H_411 L_412 hP hS => ?_)
  obtain ⟨Mz, hP, hB, h0⟩ : ∃ z, xW D classes A z H_411 ∧ bS b (sY 4) a3 c3 M z ∧ z b = some (.inr (4, [.int 0, .int 0, .ref q1, .ref q2, .ref q3, .null, .int 0, .null, .null, .null, .null, .null, .null, .int 0, .null, .null, .null])) := ⟨_, hP, hB.own _, xU_s⟩
  refine lv_aload_n hx hb d_M_init_28 rfl (lv_at hl 0 rfl) ?_
  refine lv_bipush (v := nI 6) hx hb d_M_init_29 (by decide) ?_
  refine x_newi (atype := .int) (n := nI 6) (N' := 6) hx hb (hg _ w_67) rfl hK hP hS hA 0 rfl (nI_pos (by omega)) (nI_clamp (by omega)) (by omega) (by simp only [rmC]; omega) (by simp only [rmC]; omega) d_M_init_31 (fun q4 H_413 hq4 hP hS => ?_)
  obtain ⟨a4, c4, Mz, uD4, uE4, hP, hB, h0⟩ : ∃ z2 z3 z4, z2 = uA a3 4 0 0 q4 ∧ z3 = uA c3 4 0 0 (eI (T 0) 6 (fun _ => 0)) ∧ xW D classes A z4 H_413 ∧ bS b (sY 5) z2 z3 M z4 ∧ z4 b = some (.inr (4, [.int 0, .int 0, .ref q1, .ref q2, .ref q3, .null, .int 0, .null, .null, .null, .null, .null, .null, .int 0, .null, .null, .null])) := ⟨_, _, _, rfl, rfl, hP, (hB.add ⟨_, h0⟩ hq4 sY_n).congr (sY_1 (by omega)) (fun _ _ _ _ => rfl), xU_kn hq4 h0⟩
  refine x_putF (v := .ref q4) (ty := t_M 5) (C := R_M) (T := F_M) (N := 17) hx hb hg i_M t_M t_M_ok n_M hown hK hP hS h0 rfl 5 (by decide) (hg _ w_359) (fun _ h9 => h9) rfl hnm rfl (by decide +kernel) rfl rfl (Nat.le_of_ble_eq_true rfl) d_M_init_33 (fun H_414 L_415 hP hS => ?_)
  obtain ⟨Mz, hP, hB, h0⟩ : ∃ z, xW D classes A z H_414 ∧ bS b (sY 5) a4 c4 M z ∧ z b = some (.inr (4, [.int 0, .int 0, .ref q1, .ref q2, .ref q3, .ref q4, .int 0, .null, .null, .null, .null, .null, .null, .int 0, .null, .null, .null])) := ⟨_, hP, hB.own _, xU_s⟩
  refine lv_aload_n hx hb d_M_init_36 rfl (lv_at hl 0 rfl) ?_
  refine lv_sipush (v := nI 186) hx hb d_M_init_37 (by decide) ?_
  refine x_newi (atype := .int) (n := nI 186) (N' := 186) hx hb (hg _ w_67) rfl hK hP hS hA 0 rfl (nI_pos (by omega)) (nI_clamp (by omega)) (by omega) (by simp only [rmC]; omega) (by simp only [rmC]; omega) d_M_init_40 (fun q5 H_416 hq5 hP hS => ?_)
  obtain ⟨a5, c5, Mz, uD5, uE5, hP, hB, h0⟩ : ∃ z2 z3 z4, z2 = uA a4 5 0 0 q5 ∧ z3 = uA c4 5 0 0 (eI (T 0) 186 (fun _ => 0)) ∧ xW D classes A z4 H_416 ∧ bS b (sY 6) z2 z3 M z4 ∧ z4 b = some (.inr (4, [.int 0, .int 0, .ref q1, .ref q2, .ref q3, .ref q4, .int 0, .null, .null, .null, .null, .null, .null, .int 0, .null, .null, .null])) := ⟨_, _, _, rfl, rfl, hP, (hB.add ⟨_, h0⟩ hq5 sY_n).congr (sY_1 (by omega)) (fun _ _ _ _ => rfl), xU_kn hq5 h0⟩
  refine x_putF (v := .ref q5) (ty := t_M 7) (C := R_M) (T := F_M) (N := 17) hx hb hg i_M t_M t_M_ok n_M hown hK hP hS h0 rfl 7 (by decide) (hg _ w_361) (fun _ h9 => h9) rfl hnm rfl (by decide +kernel) rfl rfl (Nat.le_of_ble_eq_true rfl) d_M_init_42 (fun H_417 L_418 hP hS => ?_)
  obtain ⟨Mz, hP, hB, h0⟩ : ∃ z, xW D classes A z H_417 ∧ bS b (sY 6) a5 c5 M z ∧ z b = some (.inr (4, [.int 0, .int 0, .ref q1, .ref q2, .ref q3, .ref q4, .int 0, .ref q5, .null, .null, .null, .null, .null, .int 0, .null, .null, .null])) := ⟨_, hP, hB.own _, xU_s⟩
  refine lv_aload_n hx hb d_M_init_45 rfl (lv_at hl 0 rfl) ?_
  refine lv_sipush (v := nI 186) hx hb d_M_init_46 (by decide) ?_
  refine x_newi (atype := .int) (n := nI 186) (N' := 186) hx hb (hg _ w_67) rfl hK hP hS hA 0 rfl (nI_pos (by omega)) (nI_clamp (by omega)) (by omega) (by simp only [rmC]; omega) (by simp only [rmC]; omega) d_M_init_49 (fun q6 H_419 hq6 hP hS => ?_)
  obtain ⟨a6, c6, Mz, uD6, uE6, hP, hB, h0⟩ : ∃ z2 z3 z4, z2 = uA a5 6 0 0 q6 ∧ z3 = uA c5 6 0 0 (eI (T 0) 186 (fun _ => 0)) ∧ xW D classes A z4 H_419 ∧ bS b (sY 7) z2 z3 M z4 ∧ z4 b = some (.inr (4, [.int 0, .int 0, .ref q1, .ref q2, .ref q3, .ref q4, .int 0, .ref q5, .null, .null, .null, .null, .null, .int 0, .null, .null, .null])) := ⟨_, _, _, rfl, rfl, hP, (hB.add ⟨_, h0⟩ hq6 sY_n).congr (sY_1 (by omega)) (fun _ _ _ _ => rfl), xU_kn hq6 h0⟩
  refine x_putF (v := .ref q6) (ty := t_M 8) (C := R_M) (T := F_M) (N := 17) hx hb hg i_M t_M t_M_ok n_M hown hK hP hS h0 rfl 8 (by decide) (hg _ w_362) (fun _ h9 => h9) rfl hnm rfl (by decide +kernel) rfl rfl (Nat.le_of_ble_eq_true rfl) d_M_init_51 (fun H_420 L_421 hP hS => ?_)
  obtain ⟨Mz, hP, hB, h0⟩ : ∃ z, xW D classes A z H_420 ∧ bS b (sY 7) a6 c6 M z ∧ z b = some (.inr (4, [.int 0, .int 0, .ref q1, .ref q2, .ref q3, .ref q4, .int 0, .ref q5, .ref q6, .null, .null, .null, .null, .int 0, .null, .null, .null])) := ⟨_, hP, hB.own _, xU_s⟩
  refine lv_aload_n hx hb d_M_init_54 rfl (lv_at hl 0 rfl) ?_
  refine lv_sipush (v := nI 840) hx hb d_M_init_55 (by decide) ?_
  refine x_newi (atype := .int) (n := nI 840) (N' := 840) hx hb (hg _ w_67) rfl hK hP hS hA 0 rfl (nI_pos (by omega)) (nI_clamp (by omega)) (by omega) (by simp only [rmC]; omega) (by simp only [rmC]; omega) d_M_init_58 (fun q7 H_422 hq7 hP hS => ?_)
  obtain ⟨a7, c7, Mz, uD7, uE7, hP, hB, h0⟩ : ∃ z2 z3 z4, z2 = uA a6 7 0 0 q7 ∧ z3 = uA c6 7 0 0 (eI (T 0) 840 (fun _ => 0)) ∧ xW D classes A z4 H_422 ∧ bS b (sY 8) z2 z3 M z4 ∧ z4 b = some (.inr (4, [.int 0, .int 0, .ref q1, .ref q2, .ref q3, .ref q4, .int 0, .ref q5, .ref q6, .null, .null, .null, .null, .int 0, .null, .null, .null])) := ⟨_, _, _, rfl, rfl, hP, (hB.add ⟨_, h0⟩ hq7 sY_n).congr (sY_1 (by omega)) (fun _ _ _ _ => rfl), xU_kn hq7 h0⟩
  refine x_putF (v := .ref q7) (ty := t_M 9) (C := R_M) (T := F_M) (N := 17) hx hb hg i_M t_M t_M_ok n_M hown hK hP hS h0 rfl 9 (by decide) (hg _ w_363) (fun _ h9 => h9) rfl hnm rfl (by decide +kernel) rfl rfl (Nat.le_of_ble_eq_true rfl) d_M_init_60 (fun H_423 L_424 hP hS => ?_)
  obtain ⟨Mz, hP, hB, h0⟩ : ∃ z, xW D classes A z H_423 ∧ bS b (sY 8) a7 c7 M z ∧ z b = some (.inr (4, [.int 0, .int 0, .ref q1, .ref q2, .ref q3, .ref q4, .int 0, .ref q5, .ref q6, .ref q7, .null, .null, .null, .int 0, .null, .null, .null])) := ⟨_, hP, hB.own _, xU_s⟩
  refine lv_aload_n hx hb d_M_init_63 rfl (lv_at hl 0 rfl) ?_
  refine lv_bipush (v := nI 84) hx hb d_M_init_64 (by decide) ?_
  refine x_newz (atype := .boolean) (n := nI 84) (N' := 84) hx hb (hg _ w_66) rfl hK hP hS hA 1 rfl (nI_pos (by omega)) (nI_clamp (by omega)) (by omega) (by simp only [rmC]; omega) (by simp only [rmC]; omega) d_M_init_66 (fun q8 H_425 hq8 hP hS => ?_)
  obtain ⟨a8, c8, Mz, uD8, uE8, hP, hB, h0⟩ : ∃ z2 z3 z4, z2 = uA a7 8 0 0 q8 ∧ z3 = uA c7 8 0 0 (eI (T 1) 84 (fun _ => 0)) ∧ xW D classes A z4 H_425 ∧ bS b (sY 9) z2 z3 M z4 ∧ z4 b = some (.inr (4, [.int 0, .int 0, .ref q1, .ref q2, .ref q3, .ref q4, .int 0, .ref q5, .ref q6, .ref q7, .null, .null, .null, .int 0, .null, .null, .null])) := ⟨_, _, _, rfl, rfl, hP, (hB.add ⟨_, h0⟩ hq8 sY_n).congr (sY_1 (by omega)) (fun _ _ _ _ => rfl), xU_kn hq8 h0⟩
  refine x_putF (v := .ref q8) (ty := t_M 10) (C := R_M) (T := F_M) (N := 17) hx hb hg i_M t_M t_M_ok n_M hown hK hP hS h0 rfl 10 (by decide) (hg _ w_364) (fun _ h9 => h9) rfl hnm rfl (by decide +kernel) rfl rfl (Nat.le_of_ble_eq_true rfl) d_M_init_68 (fun H_426 L_427 hP hS => ?_)
  obtain ⟨Mz, hP, hB, h0⟩ : ∃ z, xW D classes A z H_426 ∧ bS b (sY 9) a8 c8 M z ∧ z b = some (.inr (4, [.int 0, .int 0, .ref q1, .ref q2, .ref q3, .ref q4, .int 0, .ref q5, .ref q6, .ref q7, .ref q8, .null, .null, .int 0, .null, .null, .null])) := ⟨_, hP, hB.own _, xU_s⟩
  refine lv_aload_n hx hb d_M_init_71 rfl (lv_at hl 0 rfl) ?_
  refine lv_iconst (v := nI 4) hx hb d_M_init_72 (by decide) ?_
  refine x_newi (atype := .int) (n := nI 4) (N' := 4) hx hb (hg _ w_67) rfl hK hP hS hA 0 rfl (nI_pos (by omega)) (nI_clamp (by omega)) (by omega) (by simp only [rmC]; omega) (by simp only [rmC]; omega) d_M_init_73 (fun q9 H_428 hq9 hP hS => ?_)
  obtain ⟨a9, c9, Mz, uD9, uE9, hP, hB, h0⟩ : ∃ z2 z3 z4, z2 = uA a8 9 0 0 q9 ∧ z3 = uA c8 9 0 0 (eI (T 0) 4 (fun _ => 0)) ∧ xW D classes A z4 H_428 ∧ bS b (sY 10) z2 z3 M z4 ∧ z4 b = some (.inr (4, [.int 0, .int 0, .ref q1, .ref q2, .ref q3, .ref q4, .int 0, .ref q5, .ref q6, .ref q7, .ref q8, .null, .null, .int 0, .null, .null, .null])) := ⟨_, _, _, rfl, rfl, hP, (hB.add ⟨_, h0⟩ hq9 sY_n).congr (sY_1 (by omega)) (fun _ _ _ _ => rfl), xU_kn hq9 h0⟩
  refine x_putF (v := .ref q9) (ty := t_M 11) (C := R_M) (T := F_M) (N := 17) hx hb hg i_M t_M t_M_ok n_M hown hK hP hS h0 rfl 11 (by decide) (hg _ w_365) (fun _ h9 => h9) rfl hnm rfl (by decide +kernel) rfl rfl (Nat.le_of_ble_eq_true rfl) d_M_init_75 (fun H_429 L_430 hP hS => ?_)
  obtain ⟨Mz, hP, hB, h0⟩ : ∃ z, xW D classes A z H_429 ∧ bS b (sY 10) a9 c9 M z ∧ z b = some (.inr (4, [.int 0, .int 0, .ref q1, .ref q2, .ref q3, .ref q4, .int 0, .ref q5, .ref q6, .ref q7, .ref q8, .ref q9, .null, .int 0, .null, .null, .null])) := ⟨_, hP, hB.own _, xU_s⟩
  refine lv_aload_n hx hb d_M_init_78 rfl (lv_at hl 0 rfl) ?_
  refine lv_iconst (v := nI 4) hx hb d_M_init_79 (by decide) ?_
  refine x_newi (atype := .int) (n := nI 4) (N' := 4) hx hb (hg _ w_67) rfl hK hP hS hA 0 rfl (nI_pos (by omega)) (nI_clamp (by omega)) (by omega) (by simp only [rmC]; omega) (by simp only [rmC]; omega) d_M_init_80 (fun q10 H_431 hq10 hP hS => ?_)
  obtain ⟨a10, c10, Mz, uD10, uE10, hP, hB, h0⟩ : ∃ z2 z3 z4, z2 = uA a9 10 0 0 q10 ∧ z3 = uA c9 10 0 0 (eI (T 0) 4 (fun _ => 0)) ∧ xW D classes A z4 H_431 ∧ bS b (sY 11) z2 z3 M z4 ∧ z4 b = some (.inr (4, [.int 0, .int 0, .ref q1, .ref q2, .ref q3, .ref q4, .int 0, .ref q5, .ref q6, .ref q7, .ref q8, .ref q9, .null, .int 0, .null, .null, .null])) := ⟨_, _, _, rfl, rfl, hP, (hB.add ⟨_, h0⟩ hq10 sY_n).congr (sY_1 (by omega)) (fun _ _ _ _ => rfl), xU_kn hq10 h0⟩
  refine x_putF (v := .ref q10) (ty := t_M 12) (C := R_M) (T := F_M) (N := 17) hx hb hg i_M t_M t_M_ok n_M hown hK hP hS h0 rfl 12 (by decide) (hg _ w_366) (fun _ h9 => h9) rfl hnm rfl (by decide +kernel) rfl rfl (Nat.le_of_ble_eq_true rfl) d_M_init_82 (fun H_432 L_433 hP hS => ?_)
  obtain ⟨Mz, hP, hB, h0⟩ : ∃ z, xW D classes A z H_432 ∧ bS b (sY 11) a10 c10 M z ∧ z b = some (.inr (4, [.int 0, .int 0, .ref q1, .ref q2, .ref q3, .ref q4, .int 0, .ref q5, .ref q6, .ref q7, .ref q8, .ref q9, .ref q10, .int 0, .null, .null, .null])) := ⟨_, hP, hB.own _, xU_s⟩
  refine lv_aload_n hx hb d_M_init_85 rfl (lv_at hl 0 rfl) ?_
  refine lv_iconst (v := nI 4) hx hb d_M_init_86 (by decide) ?_
  refine x_newi (atype := .int) (n := nI 4) (N' := 4) hx hb (hg _ w_67) rfl hK hP hS hA 0 rfl (nI_pos (by omega)) (nI_clamp (by omega)) (by omega) (by simp only [rmC]; omega) (by simp only [rmC]; omega) d_M_init_87 (fun q11 H_434 hq11 hP hS => ?_)
  obtain ⟨a11, c11, Mz, uD11, uE11, hP, hB, h0⟩ : ∃ z2 z3 z4, z2 = uA a10 11 0 0 q11 ∧ z3 = uA c10 11 0 0 (eI (T 0) 4 (fun _ => 0)) ∧ xW D classes A z4 H_434 ∧ bS b (sY 12) z2 z3 M z4 ∧ z4 b = some (.inr (4, [.int 0, .int 0, .ref q1, .ref q2, .ref q3, .ref q4, .int 0, .ref q5, .ref q6, .ref q7, .ref q8, .ref q9, .ref q10, .int 0, .null, .null, .null])) := ⟨_, _, _, rfl, rfl, hP, (hB.add ⟨_, h0⟩ hq11 sY_n).congr (sY_1 (by omega)) (fun _ _ _ _ => rfl), xU_kn hq11 h0⟩
  refine x_putF (v := .ref q11) (ty := t_M 14) (C := R_M) (T := F_M) (N := 17) hx hb hg i_M t_M t_M_ok n_M hown hK hP hS h0 rfl 14 (by decide) (hg _ w_368) (fun _ h9 => h9) rfl hnm rfl (by decide +kernel) rfl rfl (Nat.le_of_ble_eq_true rfl) d_M_init_89 (fun H_435 L_436 hP hS => ?_)
  obtain ⟨Mz, hP, hB, h0⟩ : ∃ z, xW D classes A z H_435 ∧ bS b (sY 12) a11 c11 M z ∧ z b = some (.inr (4, [.int 0, .int 0, .ref q1, .ref q2, .ref q3, .ref q4, .int 0, .ref q5, .ref q6, .ref q7, .ref q8, .ref q9, .ref q10, .int 0, .ref q11, .null, .null])) := ⟨_, hP, hB.own _, xU_s⟩
  refine lv_aload_n hx hb d_M_init_92 rfl (lv_at hl 0 rfl) ?_
  refine lv_bipush (v := nI 16) hx hb d_M_init_93 (by decide) ?_
  refine x_newi (atype := .int) (n := nI 16) (N' := 16) hx hb (hg _ w_67) rfl hK hP hS hA 0 rfl (nI_pos (by omega)) (nI_clamp (by omega)) (by omega) (by simp only [rmC]; omega) (by simp only [rmC]; omega) d_M_init_95 (fun q12 H_437 hq12 hP hS => ?_)
  obtain ⟨a12, c12, Mz, uD12, uE12, hP, hB, h0⟩ : ∃ z2 z3 z4, z2 = uA a11 12 0 0 q12 ∧ z3 = uA c11 12 0 0 (eI (T 0) 16 (fun _ => 0)) ∧ xW D classes A z4 H_437 ∧ bS b (sY 13) z2 z3 M z4 ∧ z4 b = some (.inr (4, [.int 0, .int 0, .ref q1, .ref q2, .ref q3, .ref q4, .int 0, .ref q5, .ref q6, .ref q7, .ref q8, .ref q9, .ref q10, .int 0, .ref q11, .null, .null])) := ⟨_, _, _, rfl, rfl, hP, (hB.add ⟨_, h0⟩ hq12 sY_n).congr (sY_1 (by omega)) (fun _ _ _ _ => rfl), xU_kn hq12 h0⟩
  refine x_putF (v := .ref q12) (ty := t_M 15) (C := R_M) (T := F_M) (N := 17) hx hb hg i_M t_M t_M_ok n_M hown hK hP hS h0 rfl 15 (by decide) (hg _ w_369) (fun _ h9 => h9) rfl hnm rfl (by decide +kernel) rfl rfl (Nat.le_of_ble_eq_true rfl) d_M_init_97 (fun H_438 L_439 hP hS => ?_)
  obtain ⟨Mz, hP, hB, h0⟩ : ∃ z, xW D classes A z H_438 ∧ bS b (sY 13) a12 c12 M z ∧ z b = some (.inr (4, [.int 0, .int 0, .ref q1, .ref q2, .ref q3, .ref q4, .int 0, .ref q5, .ref q6, .ref q7, .ref q8, .ref q9, .ref q10, .int 0, .ref q11, .ref q12, .null])) := ⟨_, hP, hB.own _, xU_s⟩
  refine lv_aload_n hx hb d_M_init_100 rfl (lv_at hl 0 rfl) ?_
  refine lv_iconst (v := nI 4) hx hb d_M_init_101 (by decide) ?_
  refine x_newi (atype := .int) (n := nI 4) (N' := 4) hx hb (hg _ w_67) rfl hK hP hS hA 0 rfl (nI_pos (by omega)) (nI_clamp (by omega)) (by omega) (by simp only [rmC]; omega) (by simp only [rmC]; omega) d_M_init_102 (fun q13 H_440 hq13 hP hS => ?_)
  obtain ⟨a13, c13, Mz, uD13, uE13, hP, hB, h0⟩ : ∃ z2 z3 z4, z2 = uA a12 13 0 0 q13 ∧ z3 = uA c12 13 0 0 (eI (T 0) 4 (fun _ => 0)) ∧ xW D classes A z4 H_440 ∧ bS b (sY 14) z2 z3 M z4 ∧ z4 b = some (.inr (4, [.int 0, .int 0, .ref q1, .ref q2, .ref q3, .ref q4, .int 0, .ref q5, .ref q6, .ref q7, .ref q8, .ref q9, .ref q10, .int 0, .ref q11, .ref q12, .null])) := ⟨_, _, _, rfl, rfl, hP, (hB.add ⟨_, h0⟩ hq13 sY_n).congr (sY_1 (by omega)) (fun _ _ _ _ => rfl), xU_kn hq13 h0⟩
  refine x_putF (v := .ref q13) (ty := t_M 16) (C := R_M) (T := F_M) (N := 17) hx hb hg i_M t_M t_M_ok n_M hown hK hP hS h0 rfl 16 (by decide) (hg _ w_370) (fun _ h9 => h9) rfl hnm rfl (by decide +kernel) rfl rfl (Nat.le_of_ble_eq_true rfl) d_M_init_104 (fun H_441 L_442 hP hS => ?_)
  obtain ⟨Mz, hP, hB, h0⟩ : ∃ z, xW D classes A z H_441 ∧ bS b (sY 14) a13 c13 M z ∧ z b = some (.inr (4, [.int 0, .int 0, .ref q1, .ref q2, .ref q3, .ref q4, .int 0, .ref q5, .ref q6, .ref q7, .ref q8, .ref q9, .ref q10, .int 0, .ref q11, .ref q12, .ref q13])) := ⟨_, hP, hB.own _, xU_s⟩
  refine W.widen (k := 13) (n := 1354) (by omega) (by omega) ?_
  have lp : ∀ (n i : Nat), 7 < i + n → i ≤ 7 → ∀ (Mx : xM) (Hx : Heap) (Lx : List Loc), xW D classes A Mx Hx → va_S A s.heap Hx Lx → bS b (sY 14) a13 (uA c13 1 0 0 (eI (T 1) 7 (fun j => if j < i then 1 else 0))) M Mx → Mx b = some (.inr (4, [.int (nI K), .int (nI N), .ref q1, .ref q2, .ref q3, .ref q4, .int 0, .ref q5, .ref q6, .ref q7, .ref q8, .ref q9, .ref q10, .int 0, .ref q11, .ref q12, .ref q13])) → ∀ (ls : Array Slot), lv_has ls 4 [(0, .ref b), (1, .int x), (2, .int y), (3, .int (nI i))] → W p l e (rmC 1 13 1354) s m [.ref b, .int x, .int y].toArray below meth c Hx Lx 13 1354 Q (F0 m 163 ls []) := by
    intro n
    induction n with
    | zero =>
      intro i hi hi2
      exact absurd hi (by omega)
    | succ n ih =>
      intro i hi hi2 Mx Hx Lx hP hS hB h0 ls hl
      have m1 : sY 14 1 0 0 := by simp [sY]
      have ex1 : a13 1 0 0 = q1 := by simp [uD1, uD2, uD3, uD4, uD5, uD6, uD7, uD8, uD9, uD10, uD11, uD12, uD13, uA]
      have g1 : Mx q1 = some (eI (T 1) 7 (fun j => if j < i then 1 else 0)) := by
        have z := (hB.1 1 0 0 m1).1
        rw [ex1, uA_s] at z
        exact z
      refine lv_iload_n hx hb d_M_init_163 rfl (lv_at hl 3 rfl) ?_
      refine lv_bipush (v := nI 7) hx hb d_M_init_164 (by decide) ?_
      refine x_nc_ge (tgt := 182) hx hb d_M_init_166 (by decide) (by omega) (by omega) (fun hc => ?_) (fun hc => ?_)
      · have hiN : i = 7 := by omega
        subst hiN
        refine hret _ _ _ _ _ d_M_init_182 hP hS ⟨rfl, fun k => if k = 0 then b else a13 k 0 0, hB.cad (fun _ _ _ => Iff.rfl) (fun k f s z => ?_) (fun k f s z => ?_), rfl, ?_⟩
        · simp only [sY] at z
          obtain ⟨z1, z2, rfl, rfl⟩ := z
          simp [show ¬ k = 0 by omega]
        · simp only [sY] at z
          obtain ⟨z1, z2, rfl, rfl⟩ := z
          have hk13 : k = 1 ∨ k = 2 ∨ k = 3 ∨ k = 4 ∨ k = 5 ∨ k = 6 ∨ k = 7 ∨ k = 8 ∨ k = 9 ∨ k = 10 ∨ k = 11 ∨ k = 12 ∨ k = 13 := by omega
          subst uE1 uE2 uE3 uE4 uE5 uE6 uE7 uE8 uE9 uE10 uE11 uE12 uE13
          rcases hk13 with rfl | rfl | rfl | rfl | rfl | rfl | rfl | rfl | rfl | rfl | rfl | rfl | rfl <;> simp [cM, uA, q0_n, q0_1]
        · rw [h0]
          subst uD1 uD2 uD3 uD4 uD5 uD6 uD7 uD8 uD9 uD10 uD11 uD12 uD13
          simp [cM, uA, q0F]
      · refine lv_aload_n hx hb d_M_init_169 rfl (lv_at hl 0 rfl) ?_
        refine x_get (v := .ref q1) (C := R_M) (T := F_M) (N := 17) hx hb hg i_M hown hK hP h0 rfl 2 (by decide) (hg _ w_356) (fun _ h9 => h9) rfl d_M_init_170 ?_
        refine lv_iload_n hx hb d_M_init_173 rfl (lv_at hl 3 rfl) ?_
        refine lv_iconst (v := nI 1) hx hb d_M_init_174 (by decide) ?_
        refine x_zast hx hb hK hP hS 1 g1 rfl (vp_in_nI (by omega) (by omega)) d_M_init_175 (fun H_443 L_444 hP hS => ?_)
        rw [show vp_nar .boolean (nI 1) = nI 1 from by rfl] at hP
        rw [nI_clamp (by omega)] at hP
        have eu : upd (fun j => if j < i then (1 : Int32) else 0) i (nI 1) = fun j => if j < i + 1 then 1 else 0 := by
          funext j
          by_cases hj : j = i
          · rw [hj, pk_us, if_pos (by omega)]
            rfl
          · rw [pk_un hj]
            have hjj : j < i + 1 ↔ j < i := by omega
            simp [hjj]
        rw [eu] at hP
        have hB := hB.set (c' := uA c13 1 0 0 (eI (T 1) 7 (fun j => if j < (i + 1) then 1 else 0))) m1 uA_s (fun k1 f1 s1 _ z => by rw [uA_n z, uA_n z])
        rw [ex1] at hB
        have h01 : b ≠ q1 := fun z => by rw [← z, h0] at g1; cases g1
        have h0 := xU_k (e := (eI (T 1) 7 (fun j => if j < (i + 1) then 1 else 0))) h01 h0
        refine lv_iinc (v := nI (i + 1)) (lv' := [(3, .int (nI (i + 1))), (0, .ref b), (1, .int x), (2, .int y)]) hx hb d_M_init_176 hl (k := 3) rfl (nI_1 _) (by decide) rfl (fun ls hl => ?_)
        refine lv_goto (tgt := 163) hx hb d_M_init_179 (by decide) ?_
        exact ih (i + 1) (by omega) (by omega) _ _ _ hP hS hB h0 ls (lv_sub hl [1, 2, 3, 0] rfl)
  have k158 : ∀ (Mx : xM) (Hx : Heap) (Lx : List Loc), xW D classes A Mx Hx → va_S A s.heap Hx Lx → bS b (sY 14) a13 c13 M Mx → Mx b = some (.inr (4, [.int (nI K), .int 0, .ref q1, .ref q2, .ref q3, .ref q4, .int 0, .ref q5, .ref q6, .ref q7, .ref q8, .ref q9, .ref q10, .int 0, .ref q11, .ref q12, .ref q13])) → ∀ (ls : Array Slot), lv_has ls 4 [(0, .ref b), (1, .int x), (2, .int y)] → W p l e (rmC 1 13 1354) s m [.ref b, .int x, .int y].toArray below meth c Hx Lx 13 1354 Q (F0 m 158 ls [.int (nI N), .ref b]) := by
    intro Mx Hx Lx hP hS hB h0 ls hl
    refine x_putF (v := .int (nI N)) (ty := .int) (C := R_M) (T := F_M) (N := 17) hx hb hg i_M t_M t_M_ok n_M hown hK hP hS h0 rfl 1 (by decide) (hg _ w_355) (fun _ h9 => h9) rfl hnm rfl (by decide +kernel) rfl rfl (Nat.le_of_ble_eq_true rfl) d_M_init_158 (fun H_445 L_446 hP hS => ?_)
    obtain ⟨Mz, hP, hB, h0⟩ : ∃ z, xW D classes A z H_445 ∧ bS b (sY 14) a13 c13 M z ∧ z b = some (.inr (4, [.int (nI K), .int (nI N), .ref q1, .ref q2, .ref q3, .ref q4, .int 0, .ref q5, .ref q6, .ref q7, .ref q8, .ref q9, .ref q10, .int 0, .ref q11, .ref q12, .ref q13])) := ⟨_, hP, hB.own _, xU_s⟩
    refine lv_iconst (v := nI 0) hx hb d_M_init_161 (by decide) ?_
    refine lv_istore_n (lv' := [(3, .int (nI 0)), (0, .ref b), (1, .int x), (2, .int y)]) hx hb d_M_init_162 rfl hl (by decide) rfl (fun ls hl => ?_)
    refine lp 8 0 (by omega) (by omega) _ _ _ hP hS (hB.congr (fun _ _ _ => Iff.rfl) (fun k f s z => ?_)) h0 ls (lv_sub hl [1, 2, 3, 0] rfl)
    subst uE1 uE2 uE3 uE4 uE5 uE6 uE7 uE8 uE9 uE10 uE11 uE12 uE13
    by_cases hk : k = 1 ∧ f = 0 ∧ s = 0
    · obtain ⟨rfl, rfl, rfl⟩ := hk
      simp [uA]
    · rw [uA_n hk]
  have k127 : ∀ (Mx : xM) (Hx : Heap) (Lx : List Loc), xW D classes A Mx Hx → va_S A s.heap Hx Lx → bS b (sY 14) a13 c13 M Mx → Mx b = some (.inr (4, [.int 0, .int 0, .ref q1, .ref q2, .ref q3, .ref q4, .int 0, .ref q5, .ref q6, .ref q7, .ref q8, .ref q9, .ref q10, .int 0, .ref q11, .ref q12, .ref q13])) → ∀ (ls : Array Slot), lv_has ls 4 [(0, .ref b), (1, .int x), (2, .int y)] → W p l e (rmC 1 13 1354) s m [.ref b, .int x, .int y].toArray below meth c Hx Lx 13 1354 Q (F0 m 127 ls [.int (nI K), .ref b]) := by
    intro Mx Hx Lx hP hS hB h0 ls hl
    refine x_putF (v := .int (nI K)) (ty := .int) (C := R_M) (T := F_M) (N := 17) hx hb hg i_M t_M t_M_ok n_M hown hK hP hS h0 rfl 0 (by decide) (hg _ w_354) (fun _ h9 => h9) rfl hnm rfl (by decide +kernel) rfl rfl (Nat.le_of_ble_eq_true rfl) d_M_init_127 (fun H_447 L_448 hP hS => ?_)
    obtain ⟨Mz, hP, hB, h0⟩ : ∃ z, xW D classes A z H_447 ∧ bS b (sY 14) a13 c13 M z ∧ z b = some (.inr (4, [.int (nI K), .int 0, .ref q1, .ref q2, .ref q3, .ref q4, .int 0, .ref q5, .ref q6, .ref q7, .ref q8, .ref q9, .ref q10, .int 0, .ref q11, .ref q12, .ref q13])) := ⟨_, hP, hB.own _, xU_s⟩
    refine lv_aload_n hx hb d_M_init_130 rfl (lv_at hl 0 rfl) ?_
    refine lv_iload_n hx hb d_M_init_131 rfl (lv_at hl 2 rfl) ?_
    refine lv_aload_n hx hb d_M_init_132 rfl (lv_at hl 0 rfl) ?_
    refine x_get (v := .int (nI K)) (C := R_M) (T := F_M) (N := 17) hx hb hg i_M hown hK hP h0 rfl 0 (by decide) (hg _ w_354) (fun _ h9 => h9) rfl d_M_init_133 ?_
    refine lv_icmp_ge (tgt := 146) hx hb d_M_init_136 (by decide) (fun c1 => ?_) (fun c1 => ?_)
    · refine lv_iload_n hx hb d_M_init_146 rfl (lv_at hl 2 rfl) ?_
      refine lv_bipush (v := nI 7) hx hb d_M_init_147 (by decide) ?_
      refine lv_icmp_le (tgt := 157) hx hb d_M_init_149 (by decide) (fun c2 => ?_) (fun c2 => ?_)
      · refine lv_iload_n hx hb d_M_init_157 rfl (lv_at hl 2 rfl) ?_
        refine x_top (y := nI N) ((clF_mid (by exact c1) (by exact c2)).symm.trans hNx) ?_
        exact k158 _ _ _ hP hS hB h0 ls (lv_sub hl [0, 1, 2] rfl)
      · refine lv_bipush (v := nI 7) hx hb d_M_init_152 (by decide) ?_
        refine lv_goto (tgt := 158) hx hb d_M_init_154 (by decide) ?_
        refine x_top (y := nI N) ((clF_hi (by exact c2) (nI_le (by omega) (by omega))).symm.trans hNx) ?_
        exact k158 _ _ _ hP hS hB h0 ls (lv_sub hl [0, 1, 2] rfl)
    · refine lv_aload_n hx hb d_M_init_139 rfl (lv_at hl 0 rfl) ?_
      refine x_get (v := .int (nI K)) (C := R_M) (T := F_M) (N := 17) hx hb hg i_M hown hK hP h0 rfl 0 (by decide) (hg _ w_354) (fun _ h9 => h9) rfl d_M_init_140 ?_
      refine lv_goto (tgt := 158) hx hb d_M_init_143 (by decide) ?_
      refine x_top (y := nI N) ((clF_lo (by exact c1) (nI_le (by omega) (by omega))).symm.trans hNx) ?_
      exact k158 _ _ _ hP hS hB h0 ls (lv_sub hl [0, 1, 2] rfl)
  refine lv_aload_n hx hb d_M_init_107 rfl (lv_at hl 0 rfl) ?_
  refine lv_iload_n hx hb d_M_init_108 rfl (lv_at hl 1 rfl) ?_
  refine lv_iconst (v := nI 1) hx hb d_M_init_109 (by decide) ?_
  refine lv_icmp_ge (tgt := 117) hx hb d_M_init_110 (by decide) (fun c1 => ?_) (fun c1 => ?_)
  · refine lv_iload_n hx hb d_M_init_117 rfl (lv_at hl 1 rfl) ?_
    refine lv_iconst (v := nI 4) hx hb d_M_init_118 (by decide) ?_
    refine lv_icmp_le (tgt := 126) hx hb d_M_init_119 (by decide) (fun c2 => ?_) (fun c2 => ?_)
    · refine lv_iload_n hx hb d_M_init_126 rfl (lv_at hl 1 rfl) ?_
      refine x_top (y := nI K) ((clF_mid (by exact c1) (by exact c2)).symm.trans hKx) ?_
      exact k127 _ _ _ hP hS hB h0 ls (lv_sub hl [0, 1, 2] rfl)
    · refine lv_iconst (v := nI 4) hx hb d_M_init_122 (by decide) ?_
      refine lv_goto (tgt := 127) hx hb d_M_init_123 (by decide) ?_
      refine x_top (y := nI K) ((clF_hi (by exact c2) (nI_le (by omega) (by omega))).symm.trans hKx) ?_
      exact k127 _ _ _ hP hS hB h0 ls (lv_sub hl [0, 1, 2] rfl)
  · refine lv_iconst (v := nI 1) hx hb d_M_init_113 (by decide) ?_
    refine lv_goto (tgt := 127) hx hb d_M_init_114 (by decide) ?_
    refine x_top (y := nI K) ((clF_lo (by exact c1) (nI_le (by omega) (by omega))).symm.trans hKx) ?_
    exact k127 _ _ _ hP hS hB h0 ls (lv_sub hl [0, 1, 2] rfl)
