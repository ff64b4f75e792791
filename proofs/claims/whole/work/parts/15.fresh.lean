/-! notes, fresh records, the best number -/
theorem upd_s {f : Nat → Int32} {k : Nat} {x : Int32} : upd f k x k = x := pk_us
theorem upd_n {f : Nat → Int32} {k j : Nat} {x : Int32} (h : j ≠ k) : upd f k x j = f j := pk_un h
def ntS (g : gT) (f w : Nat) (ro se : Int32) : gT := upS (upS (upS g 12 f 0 (upd (g 12 f 0) 1 (nI (w + 1)))) 15 f 0 (upd (g 15 f 0) (w + 1) ro)) 16 f 0 (upd (g 16 f 0) (w + 1) se)
def gvS (K : Nat) (g : gT) (f i : Nat) : gT := cpS (upS g 9 0 0 (upd (g 9 0 0) 1 (shG (g 7 0 0) (nI i + 1) 0 K))) 9 0 0 17 f i
def fpV (K : Nat) (cw : Nat → Int32) (j : Nat) : Int32 := mixF (shG cw (nI j + 1) 0 K) (nI j + 100)
theorem rtI_congr {f f' : Nat → Int32} : ∀ n, (∀ j, j < n → f j = f' j) → rtI f n = rtI f' n := by
  intro n
  induction n with
  | zero => intro _; rfl
  | succ n ih => intro h; rw [rtI, rtI, ih (fun j hj => h j (by omega)), h n (by omega)]
theorem rtF_congr {f f' : Nat → Int32} {n : Nat} {x : Int32} (h : ∀ j, j < n → f j = f' j) : rtF f n x = rtF f' n x := by rw [rtF, rtF, rtI_congr n h]
set_option maxHeartbeats 4000000 in
set_option maxRecDepth 100000 in
theorem c_F_noteNext (l : Launch) (D : va_G) (T : Nat → ClassId) (A : Nat → Prop) (M : xM) (ad : Nat → Nat → Nat → Nat) (K N : Nat) (g : gT) (hz : zB K N) (hG : gG T ad K N g M) (f w : Nat) (hf : f < 6) (hw : g 12 f 0 1 = nI w) (hw30 : w < 30) (x y : Int32) : Met l y_F_noteNext (Cond.code y_F_noteNext b_F_noteNext 3 none :: gw) (rmH 0) (xPc D T A M [.ref (ad 12 f 0), .int x, .int y]) (xQ D A (fun r M1 => r = none ∧ gR T ad K N M (ntS g f w x y) M1)) 0 0 A := by
  refine xMetQv (by decide) (Nat.le_of_ble_eq_true rfl) ?_
  intro p e s m below meth c Q ls hB hP hS hl hret
  obtain ⟨hx, hb, hml, hown, hg, hK0, hnm⟩ := hB
  have hown : s.vm.findClass "ShareGrid$StoredFile" = some m.cls := hown
  have hK := hK0.1
  have hN := hK0.2.1
  obtain ⟨hz1, hz4, hzn, hz7⟩ := id hz
  have hR := hG.rf
  have hl : lv_has ls 3 [(0, .ref (ad 12 f 0)), (1, .int x), (2, .int y)] := hl
  refine lv_aload_n hx hb d_F_noteNext_0 rfl (lv_at hl 0 rfl) ?_
  refine lv_dup hx hb d_F_noteNext_1 rfl ?_
  refine x_get (v := .int (g 12 f 0 1)) (C := R_F) (T := F_F) (N := 6) hx hb hg i_F hown hK hP (ga_12 hG (show f < 6 by omega)) rfl 5 (by decide) (hg _ w_75) (fun _ h9 => h9) rfl d_F_noteNext_2 ?_
  refine x_top (y := nI w) hw ?_
  refine lv_iconst (v := nI 1) hx hb d_F_noteNext_5 (by decide) ?_
  refine lv_iadd hx hb d_F_noteNext_6 ?_
  refine x_top (y := nI (w + 1)) (nI_add _ _) ?_
  refine x_put (v := .int (nI (w + 1))) (ty := .int) (C := R_F) (T := F_F) (N := 6) hx hb hg i_F t_F t_F_ok n_F hown hK hP hS (ga_12 hG (show f < 6 by omega)) rfl 5 (by decide) (hg _ w_75) (fun _ h9 => h9) rfl (by decide +kernel) rfl rfl (Nat.le_of_ble_eq_true rfl) d_F_noteNext_7 (fun H_57 L_58 hP hS => ?_)
  obtain ⟨g_59, hg_59⟩ : ∃ z, z = upS g 12 f 0 (upd (g 12 f 0) 1 (nI (w + 1))) := ⟨_, rfl⟩
  obtain ⟨M_60, hP, hR⟩ : ∃ z, xW D classes A z H_57 ∧ gR T ad K N M g_59 z := ⟨_, hP, by rw [hg_59]; exact hR.set (Or.inr (Or.inl ⟨by omega, by omega, by omega, rfl⟩)) rfl⟩
  have hG := hR.1
  have hw1 : g_59 12 f 0 1 = nI (w + 1) := by rw [hg_59, upS_s]; rfl
  refine lv_aload_n hx hb d_F_noteNext_10 rfl (lv_at hl 0 rfl) ?_
  refine x_get (v := .ref (ad 15 f 0)) (C := R_F) (T := F_F) (N := 6) hx hb hg i_F hown hK hP (ga_12 hG (show f < 6 by omega)) rfl 2 (by decide) (hg _ w_72) (fun _ h9 => h9) rfl d_F_noteNext_11 ?_
  refine lv_aload_n hx hb d_F_noteNext_14 rfl (lv_at hl 0 rfl) ?_
  refine x_get (v := .int (g_59 12 f 0 1)) (C := R_F) (T := F_F) (N := 6) hx hb hg i_F hown hK hP (ga_12 hG (show f < 6 by omega)) rfl 5 (by decide) (hg _ w_75) (fun _ h9 => h9) rfl d_F_noteNext_15 ?_
  refine x_top (y := nI (w + 1)) hw1 ?_
  refine lv_iload_n hx hb d_F_noteNext_18 rfl (lv_at hl 1 rfl) ?_
  refine x_iast hx hb hK hP hS 0 (ga_15 hG (show f < 6 by omega)) rfl (vp_in_nI (by omega) (by omega)) d_F_noteNext_19 (fun H_61 L_62 hP hS => ?_)
  rw [nI_clamp (by omega)] at hP
  obtain ⟨g_63, hg_63⟩ : ∃ z, z = upS g_59 15 f 0 (upd (g_59 15 f 0) (w + 1) x) := ⟨_, rfl⟩
  obtain ⟨M_64, hP, hR⟩ : ∃ z, xW D classes A z H_61 ∧ gR T ad K N M g_63 z := ⟨_, hP, by rw [hg_63]; exact hR.set (Or.inr (Or.inl ⟨by omega, by omega, by omega, rfl⟩)) rfl⟩
  have hG := hR.1
  have hw2 : g_63 12 f 0 1 = nI (w + 1) := by rw [hg_63, upS_n (by omega)]; exact hw1
  refine lv_aload_n hx hb d_F_noteNext_20 rfl (lv_at hl 0 rfl) ?_
  refine x_get (v := .ref (ad 16 f 0)) (C := R_F) (T := F_F) (N := 6) hx hb hg i_F hown hK hP (ga_12 hG (show f < 6 by omega)) rfl 3 (by decide) (hg _ w_73) (fun _ h9 => h9) rfl d_F_noteNext_21 ?_
  refine lv_aload_n hx hb d_F_noteNext_24 rfl (lv_at hl 0 rfl) ?_
  refine x_get (v := .int (g_63 12 f 0 1)) (C := R_F) (T := F_F) (N := 6) hx hb hg i_F hown hK hP (ga_12 hG (show f < 6 by omega)) rfl 5 (by decide) (hg _ w_75) (fun _ h9 => h9) rfl d_F_noteNext_25 ?_
  refine x_top (y := nI (w + 1)) hw2 ?_
  refine lv_iload_n hx hb d_F_noteNext_28 rfl (lv_at hl 2 rfl) ?_
  refine x_iast hx hb hK hP hS 0 (ga_16 hG (show f < 6 by omega)) rfl (vp_in_nI (by omega) (by omega)) d_F_noteNext_29 (fun H_65 L_66 hP hS => ?_)
  rw [nI_clamp (by omega)] at hP
  obtain ⟨g_67, hg_67⟩ : ∃ z, z = upS g_63 16 f 0 (upd (g_63 16 f 0) (w + 1) y) := ⟨_, rfl⟩
  obtain ⟨M_68, hP, hR⟩ : ∃ z, xW D classes A z H_65 ∧ gR T ad K N M g_67 z := ⟨_, hP, by rw [hg_67]; exact hR.set (Or.inr (Or.inl ⟨by omega, by omega, by omega, rfl⟩)) rfl⟩
  have hG := hR.1
  exact hret _ _ _ _ _ d_F_noteNext_30 hP hS ⟨rfl, by
    have e1 : g_59 15 f 0 = g 15 f 0 := by rw [hg_59, upS_n (by omega)]
    have e2 : g_63 16 f 0 = g 16 f 0 := by rw [hg_63, upS_n (by omega), hg_59, upS_n (by omega)]
    rw [hg_67, e2, hg_63, e1, hg_59] at hR
    exact hR⟩
set_option maxHeartbeats 4000000 in
set_option maxRecDepth 100000 in
theorem c_G_giveFreshRecord (l : Launch) (D : va_G) (T : Nat → ClassId) (A : Nat → Prop) (M : xM) (ad : Nat → Nat → Nat → Nat) (K N : Nat) (g : gT) (hz : zB K N) (hG : gG T ad K N g M) (f i : Nat) (hf : f < 6) (hi : i < N) (hfr : g 9 0 0 0 = 0 ∨ g 9 0 0 0 = 1) : Met l y_G_giveFreshRecord (Cond.code y_G_giveFreshRecord b_G_giveFreshRecord 3 none :: gw) (rmH 3) (xPc D T A M [.ref (ad 0 0 0), .ref (ad 12 f 0), .int (nI i)]) (xQ D A (fun r M1 => r = none ∧ gR T ad K N M (gvS K g f i) M1)) 0 0 A := by
  refine xMetQv (by decide) (Nat.le_of_ble_eq_true rfl) ?_
  intro p e s m below meth c Q ls hB hP hS hl hret
  obtain ⟨hx, hb, hml, hown, hg, hK0, hnm⟩ := hB
  have hown : s.vm.findClass "ShareGrid" = some m.cls := hown
  have hK := hK0.1
  have hN := hK0.2.1
  obtain ⟨hz1, hz4, hzn, hz7⟩ := id hz
  have hR := hG.rf
  have hl : lv_has ls 3 [(0, .ref (ad 0 0 0)), (1, .ref (ad 12 f 0)), (2, .int (nI i))] := hl
  refine lv_aload_n hx hb d_G_giveFreshRecord_0 rfl (lv_at hl 0 rfl) ?_
  refine x_get (v := .ref (ad 9 0 0)) (C := R_G) (T := F_G) (N := 12) hx hb hg i_G hown hK hP (ga_0 hG) rfl 8 (by decide) (hg _ w_118) (fun _ h9 => h9) rfl d_G_giveFreshRecord_1 ?_
  refine lv_aload_n hx hb d_G_giveFreshRecord_4 rfl (lv_at hl 0 rfl) ?_
  refine x_get (v := .ref (ad 6 0 0)) (C := R_G) (T := F_G) (N := 12) hx hb hg i_G hown hK hP (ga_0 hG) rfl 7 (by decide) (hg _ w_117) (fun _ h9 => h9) rfl d_G_giveFreshRecord_5 ?_
  refine lv_iload_n hx hb d_G_giveFreshRecord_8 rfl (lv_at hl 2 rfl) ?_
  refine xvn_R (n := 1) (As := [.int (nI i)]) (rest := [.ref (ad 9 0 0)]) hx hb hml hown hg hK0 hP hN (c_C_shareAt l D T A _ ad K N g hz hG (nI i)) w_196 w_5 e_193 w_195 s_4 (ga_6 hG) rfl rfl (by decide +kernel) ⟨Nat.le_of_ble_eq_true rfl, Nat.le_of_ble_eq_true rfl⟩ rfl hl.1 rfl (Nat.le_of_ble_eq_true rfl) ⟨Nat.zero_le _, Nat.zero_le _⟩ rfl rfl d_G_giveFreshRecord_9 (fun r hr => ?_)
  subst hr
  refine x_fr (pc := 12) [.int (shG (g 7 0 0) ((nI i) + 1) 0 K), .ref (ad 9 0 0)] rfl rfl ?_
  refine x_putN (v := .int (shG (g 7 0 0) ((nI i) + 1) 0 K)) (ty := .int) (C := R_R) (T := F_R) (N := 5) hx hb hg i_R t_R t_R_ok n_R hown hK hP hS (ga_9 hG) rfl 2 (by decide) (va_Nw.use rfl (hN _ e_48)) (fun _ h9 => h9) rfl (by decide +kernel) rfl rfl (Nat.le_of_ble_eq_true rfl) d_G_giveFreshRecord_12 (fun H_69 L_70 hP hS => ?_)
  obtain ⟨g_71, hg_71⟩ : ∃ z, z = upS g 9 0 0 (upd (g 9 0 0) 1 (shG (g 7 0 0) ((nI i) + 1) 0 K)) := ⟨_, rfl⟩
  obtain ⟨M_72, hP, hR⟩ : ∃ z, xW D classes A z H_69 ∧ gR T ad K N M g_71 z := ⟨_, hP, by rw [hg_71]; exact hR.set (Or.inl ⟨by omega, rfl, rfl⟩) rfl⟩
  have hG := hR.1
  have hfr1 : g_71 9 0 0 0 = 0 ∨ g_71 9 0 0 0 = 1 := by rw [hg_71]; exact hfr
  refine lv_aload_n hx hb d_G_giveFreshRecord_15 rfl (lv_at hl 1 rfl) ?_
  refine x_getN (v := .ref (ad 13 f 0)) (C := R_F) (T := F_F) (N := 6) hx hb hg i_F hown hK hP (ga_12 hG (show f < 6 by omega)) rfl 0 (by decide) (va_Nw.use rfl (hN _ e_69)) (fun _ h9 => h9) rfl d_G_giveFreshRecord_16 ?_
  refine lv_iload_n hx hb d_G_giveFreshRecord_19 rfl (lv_at hl 2 rfl) ?_
  refine x_aldq (v := .ref (ad 17 f i)) hx hb hK hP 2 (ga_13 hG (show f < 6 by omega)) rfl (vp_in_nI (by omega) (by omega)) (by rw [nI_clamp (by omega)]; rfl) d_G_giveFreshRecord_20 ?_
  refine lv_aload_n hx hb d_G_giveFreshRecord_21 rfl (lv_at hl 0 rfl) ?_
  refine x_get (v := .ref (ad 9 0 0)) (C := R_G) (T := F_G) (N := 12) hx hb hg i_G hown hK hP (ga_0 hG) rfl 8 (by decide) (hg _ w_118) (fun _ h9 => h9) rfl d_G_giveFreshRecord_22 ?_
  refine xvn_Q (n := 1) (As := [.ref (ad 9 0 0)]) (rest := []) hx hb hml hown hg hK0 hP hN (c_R_copyFrom l D T A _ (ad 17 f i) (ad 9 0 0) (ad 18 f i) (ad 10 0 0) N (g_71 10 0 0) (g_71 18 f i) (g_71 9 0 0 0) (g_71 9 0 0 1) (g_71 9 0 0 2) (g_71 9 0 0 3) (g_71 17 f i 0) (g_71 17 f i 1) (g_71 17 f i 2) (g_71 17 f i 3) (by omega) hfr1 (ga_17 hG (show f < 6 by omega) (show i < N by omega)) (ga_9 hG) (ga_18 hG (show f < 6 by omega) (show i < N by omega)) (ga_10 hG) (hG.ne (Or.inl ⟨by omega, rfl, rfl⟩) (Or.inr (Or.inr ⟨by omega, by omega, by omega, by omega⟩)) (by omega))) w_231 w_4 e_228 w_230 s_9 (ga_17 hG (show f < 6 by omega) (show i < N by omega)) rfl rfl (by decide +kernel) ⟨Nat.le_of_ble_eq_true rfl, Nat.le_of_ble_eq_true rfl⟩ rfl hl.1 rfl (Nat.le_of_ble_eq_true rfl) hS ⟨Nat.zero_le _, Nat.zero_le _⟩ rfl rfl d_G_giveFreshRecord_25 (fun r M1 H_73 L_74 hr hP hS => ?_)
  obtain ⟨rfl, rfl⟩ := hr
  obtain ⟨g_75, hg_75⟩ : ∃ z, z = cpS g_71 9 0 0 17 f i := ⟨_, rfl⟩
  obtain ⟨M_76, hP, hR⟩ : ∃ z, xW D classes A z H_73 ∧ gR T ad K N M g_75 z := ⟨_, hP, by rw [hg_75]; exact (hR.set (Or.inr (Or.inr ⟨by omega, by omega, by omega, by omega⟩)) rfl).set (Or.inr (Or.inr ⟨by omega, by omega, by omega, by omega⟩)) rfl⟩
  have hG := hR.1
  refine x_fr (pc := 28) [] rfl rfl ?_
  exact hret _ _ _ _ _ d_G_giveFreshRecord_28 hP hS ⟨rfl, by rw [hg_75, hg_71] at hR; exact hR⟩
def mkR (K N : Nat) (g g' : gT) (x y : Int32) : Prop := (∀ k f s, k ≠ 9 → k ≠ 10 → g' k f s = g k f s) ∧ (∀ j, j < N → g' 10 0 0 j = fpV K (g 7 0 0) j) ∧ g' 9 0 0 0 = 1 ∧ g' 9 0 0 2 = x ∧ g' 9 0 0 3 = mixF (rtF (fpV K (g 7 0 0)) N x) y ^^^ y
set_option maxHeartbeats 4000000 in
set_option maxRecDepth 100000 in
theorem c_G_makeFreshRecord (l : Launch) (D : va_G) (T : Nat → ClassId) (A : Nat → Prop) (M : xM) (ad : Nat → Nat → Nat → Nat) (K N : Nat) (g : gT) (hz : zB K N) (hG : gG T ad K N g M) (x y : Int32) : Met l y_G_makeFreshRecord (Cond.code y_G_makeFreshRecord b_G_makeFreshRecord 4 (some .int) :: gw) (rmH 3) (xPc D T A M [.ref (ad 0 0 0), .int x, .int y]) (xQ D A (fun r M1 => ∃ g', r = some (.int (rtF (fpV K (g 7 0 0)) N x)) ∧ gR T ad K N M g' M1 ∧ mkR K N g g' x y)) 0 0 A := by
  refine xMetQi (by decide) (Nat.le_of_ble_eq_true rfl) ?_
  intro p e s m below meth c Q ls hB hP hS hl hret
  obtain ⟨hx, hb, hml, hown, hg, hK0, hnm⟩ := hB
  have hown : s.vm.findClass "ShareGrid" = some m.cls := hown
  have hK := hK0.1
  have hN := hK0.2.1
  obtain ⟨hz1, hz4, hzn, hz7⟩ := id hz
  have hR := hG.rf
  have hl : lv_has ls 4 [(0, .ref (ad 0 0 0)), (1, .int x), (2, .int y)] := hl
  refine lv_aload_n hx hb d_G_makeFreshRecord_0 rfl (lv_at hl 0 rfl) ?_
  refine x_get (v := .ref (ad 9 0 0)) (C := R_G) (T := F_G) (N := 12) hx hb hg i_G hown hK hP (ga_0 hG) rfl 8 (by decide) (hg _ w_118) (fun _ h9 => h9) rfl d_G_makeFreshRecord_1 ?_
  refine lv_iload_n hx hb d_G_makeFreshRecord_4 rfl (lv_at hl 1 rfl) ?_
  refine x_putN (v := .int x) (ty := .int) (C := R_R) (T := F_R) (N := 5) hx hb hg i_R t_R t_R_ok n_R hown hK hP hS (ga_9 hG) rfl 3 (by decide) (va_Nw.use rfl (hN _ e_51)) (fun _ h9 => h9) rfl (by decide +kernel) rfl rfl (Nat.le_of_ble_eq_true rfl) d_G_makeFreshRecord_5 (fun H_77 L_78 hP hS => ?_)
  obtain ⟨g_79, hg_79⟩ : ∃ z, z = upS g 9 0 0 (upd (g 9 0 0) 2 x) := ⟨_, rfl⟩
  obtain ⟨M_80, hP, hR⟩ : ∃ z, xW D classes A z H_77 ∧ gR T ad K N M g_79 z := ⟨_, hP, by rw [hg_79]; exact hR.set (Or.inl ⟨by omega, rfl, rfl⟩) rfl⟩
  have hG := hR.1
  refine lv_iconst (v := nI 0) hx hb d_G_makeFreshRecord_8 (by decide) ?_
  refine lv_istore_n (lv' := [(3, .int (nI 0)), (0, .ref (ad 0 0 0)), (1, .int x), (2, .int y)]) hx hb d_G_makeFreshRecord_9 rfl hl (by decide) rfl (fun ls hl => ?_)
  have loop : ∀ (n : Nat) (i : Nat) (gx : gT), N + 1 ≤ i + n → i ≤ N → (∀ k f s, k ≠ 9 → k ≠ 10 → gx k f s = g k f s) → (∀ j, j < i → gx 10 0 0 j = fpV K (g 7 0 0) j) → gx 9 0 0 2 = x → ∀ (Mx : xM) (Hx : Heap) (Lx : List Loc), xW D classes A Mx Hx → va_S A s.heap Hx Lx → gR T ad K N M gx Mx → ∀ (ls : Array Slot), lv_has ls 4 [(0, .ref (ad 0 0 0)), (1, .int x), (2, .int y), (3, .int (nI i))] → W p l e (rmH 3) s m [.ref (ad 0 0 0), .int x, .int y].toArray below meth c Hx Lx 0 0 Q (F0 m 10 ls []) := by
    intro n
    induction n with
    | zero =>
      intro i gx h2 h1 r1 r2 r3
      exact absurd h2 (by omega)
    | succ n ih =>
      intro i gx h2 h1 r1 r2 r3 Mx Hx Lx hP hS hR ls hl
      have hG := hR.1
      refine lv_iload_n hx hb d_G_makeFreshRecord_10 rfl (lv_at hl 3 rfl) ?_
      refine lv_aload_n hx hb d_G_makeFreshRecord_11 rfl (lv_at hl 0 rfl) ?_
      refine x_get (v := .int (nI N)) (C := R_G) (T := F_G) (N := 12) hx hb hg i_G hown hK hP (ga_0 hG) rfl 1 (by decide) (hg _ w_111) (fun _ h9 => h9) rfl d_G_makeFreshRecord_12 ?_
      refine x_nc_ge (tgt := 45) hx hb d_G_makeFreshRecord_15 (by decide) (by omega) (by omega) (fun c1 => ?_) (fun c1 => ?_)
      · have hiN : i = N := by omega
        rw [hiN] at r2
        have ero : rtF (gx 10 0 0) N (gx 9 0 0 2) = rtF (fpV K (g 7 0 0)) N x := by rw [r3]; exact rtF_congr r2
        refine lv_aload_n hx hb d_G_makeFreshRecord_45 rfl (lv_at hl 0 rfl) ?_
        refine x_get (v := .ref (ad 9 0 0)) (C := R_G) (T := F_G) (N := 12) hx hb hg i_G hown hK hP (ga_0 hG) rfl 8 (by decide) (hg _ w_118) (fun _ h9 => h9) rfl d_G_makeFreshRecord_46 ?_
        refine xvn_R (n := 0) (As := []) (rest := []) hx hb hml hown hg hK0 hP hN (c_R_rootOfFingerprints l D T A _ (ad 9 0 0) (ad 10 0 0) N (gx 10 0 0) (gx 9 0 0 0) (gx 9 0 0 1) (gx 9 0 0 2) (gx 9 0 0 3) (by omega) (ga_9 hG) (ga_10 hG)) w_214 w_4 e_211 w_213 s_5 (ga_9 hG) rfl rfl (by decide +kernel) ⟨Nat.le_of_ble_eq_true rfl, Nat.le_of_ble_eq_true rfl⟩ rfl hl.1 rfl (Nat.le_of_ble_eq_true rfl) ⟨Nat.zero_le _, Nat.zero_le _⟩ rfl rfl d_G_makeFreshRecord_49 (fun r hr => ?_)
        subst hr
        refine x_fr (pc := 52) [.int (rtF (gx 10 0 0) N (gx 9 0 0 2))] rfl rfl ?_
        refine lv_istore_n (lv' := [(3, .int (rtF (gx 10 0 0) N (gx 9 0 0 2))), (0, .ref (ad 0 0 0)), (1, .int x), (2, .int y)]) hx hb d_G_makeFreshRecord_52 rfl hl (by decide) rfl (fun ls hl => ?_)
        refine lv_aload_n hx hb d_G_makeFreshRecord_53 rfl (lv_at hl 1 rfl) ?_
        refine x_get (v := .ref (ad 9 0 0)) (C := R_G) (T := F_G) (N := 12) hx hb hg i_G hown hK hP (ga_0 hG) rfl 8 (by decide) (hg _ w_118) (fun _ h9 => h9) rfl d_G_makeFreshRecord_54 ?_
        refine lv_iload_n hx hb d_G_makeFreshRecord_57 rfl (lv_at hl 0 rfl) ?_
        refine lv_iload_n hx hb d_G_makeFreshRecord_58 rfl (lv_at hl 3 rfl) ?_
        refine xs_R (n := 2) (As := [.int (rtF (gx 10 0 0) N (gx 9 0 0 2)), .int y]) (rest := [.ref (ad 9 0 0)]) hx hb hml hown hg hK0 hP (c_G_mix l D T A _ (rtF (gx 10 0 0) N (gx 9 0 0 2)) y) w_156 w_1 w_154 w_155 (by decide +kernel) ⟨Nat.le_of_ble_eq_true rfl, Nat.le_of_ble_eq_true rfl⟩ rfl hl.1 rfl (Nat.le_of_ble_eq_true rfl) ⟨Nat.zero_le _, Nat.zero_le _⟩ rfl rfl d_G_makeFreshRecord_59 (fun r hr => ?_)
        subst hr
        refine x_fr (pc := 62) [.int (mixF (rtF (gx 10 0 0) N (gx 9 0 0 2)) y), .ref (ad 9 0 0)] rfl rfl ?_
        refine lv_iload_n hx hb d_G_makeFreshRecord_62 rfl (lv_at hl 3 rfl) ?_
        refine lv_ixor hx hb d_G_makeFreshRecord_63 ?_
        refine x_putN (v := .int ((mixF (rtF (gx 10 0 0) N (gx 9 0 0 2)) y) ^^^ y)) (ty := .int) (C := R_R) (T := F_R) (N := 5) hx hb hg i_R t_R t_R_ok n_R hown hK hP hS (ga_9 hG) rfl 4 (by decide) (va_Nw.use rfl (hN _ e_54)) (fun _ h9 => h9) rfl (by decide +kernel) rfl rfl (Nat.le_of_ble_eq_true rfl) d_G_makeFreshRecord_64 (fun H_81 L_82 hP hS => ?_)
        obtain ⟨g_83, hg_83⟩ : ∃ z, z = upS gx 9 0 0 (upd (gx 9 0 0) 3 ((mixF (rtF (gx 10 0 0) N (gx 9 0 0 2)) y) ^^^ y)) := ⟨_, rfl⟩
        obtain ⟨M_84, hP, hR⟩ : ∃ z, xW D classes A z H_81 ∧ gR T ad K N M g_83 z := ⟨_, hP, by rw [hg_83]; exact hR.set (Or.inl ⟨by omega, rfl, rfl⟩) rfl⟩
        have hG := hR.1
        refine lv_aload_n hx hb d_G_makeFreshRecord_67 rfl (lv_at hl 1 rfl) ?_
        refine x_get (v := .ref (ad 9 0 0)) (C := R_G) (T := F_G) (N := 12) hx hb hg i_G hown hK hP (ga_0 hG) rfl 8 (by decide) (hg _ w_118) (fun _ h9 => h9) rfl d_G_makeFreshRecord_68 ?_
        refine lv_iconst (v := 1) hx hb d_G_makeFreshRecord_71 (by decide) ?_
        refine x_putN (v := .int 1) (ty := .boolean) (C := R_R) (T := F_R) (N := 5) hx hb hg i_R t_R t_R_ok n_R hown hK hP hS (ga_9 hG) rfl 1 (by decide) (va_Nw.use rfl (hN _ e_45)) (fun _ h9 => h9) rfl (by decide +kernel) (by rfl) (by rfl) (Nat.le_of_ble_eq_true rfl) d_G_makeFreshRecord_72 (fun H_85 L_86 hP hS => ?_)
        obtain ⟨g_87, hg_87⟩ : ∃ z, z = upS g_83 9 0 0 (upd (g_83 9 0 0) 0 1) := ⟨_, rfl⟩
        obtain ⟨M_88, hP, hR⟩ : ∃ z, xW D classes A z H_85 ∧ gR T ad K N M g_87 z := ⟨_, hP, by rw [hg_87]; exact hR.set (Or.inl ⟨by omega, rfl, rfl⟩) rfl⟩
        have hG := hR.1
        refine lv_iload_n hx hb d_G_makeFreshRecord_75 rfl (lv_at hl 0 rfl) ?_
        refine hret _ _ _ _ _ _ d_G_makeFreshRecord_76 hP hS ⟨g_87, by rw [ero], hR, ?_, ?_, ?_, ?_, ?_⟩
        · intro k f s q1 q2; rw [hg_87, upS_n (by omega), hg_83, upS_n (by omega)]; exact r1 k f s q1 q2
        · intro j hj; rw [hg_87, upS_n (by omega), hg_83, upS_n (by omega)]; exact r2 j hj
        · rw [hg_87, upS_s]; rfl
        · rw [hg_87, upS_s, upd_n (by omega), hg_83, upS_s, upd_n (by omega)]; exact r3
        · rw [hg_87, upS_s, upd_n (by omega), hg_83, upS_s, upd_s, ero]
      · refine lv_aload_n hx hb d_G_makeFreshRecord_18 rfl (lv_at hl 0 rfl) ?_
        refine x_get (v := .ref (ad 9 0 0)) (C := R_G) (T := F_G) (N := 12) hx hb hg i_G hown hK hP (ga_0 hG) rfl 8 (by decide) (hg _ w_118) (fun _ h9 => h9) rfl d_G_makeFreshRecord_19 ?_
        refine x_getN (v := .ref (ad 10 0 0)) (C := R_R) (T := F_R) (N := 5) hx hb hg i_R hown hK hP (ga_9 hG) rfl 0 (by decide) (va_Nw.use rfl (hN _ e_42)) (fun _ h9 => h9) rfl d_G_makeFreshRecord_22 ?_
        refine lv_iload_n hx hb d_G_makeFreshRecord_25 rfl (lv_at hl 3 rfl) ?_
        refine lv_aload_n hx hb d_G_makeFreshRecord_26 rfl (lv_at hl 0 rfl) ?_
        refine x_get (v := .ref (ad 6 0 0)) (C := R_G) (T := F_G) (N := 12) hx hb hg i_G hown hK hP (ga_0 hG) rfl 7 (by decide) (hg _ w_117) (fun _ h9 => h9) rfl d_G_makeFreshRecord_27 ?_
        refine lv_iload_n hx hb d_G_makeFreshRecord_30 rfl (lv_at hl 3 rfl) ?_
        refine xvn_R (n := 1) (As := [.int (nI i)]) (rest := [.int (nI i), .ref (ad 10 0 0)]) hx hb hml hown hg hK0 hP hN (c_C_shareAt l D T A _ ad K N gx hz hG (nI i)) w_196 w_5 e_193 w_195 s_4 (ga_6 hG) rfl rfl (by decide +kernel) ⟨Nat.le_of_ble_eq_true rfl, Nat.le_of_ble_eq_true rfl⟩ rfl hl.1 rfl (Nat.le_of_ble_eq_true rfl) ⟨Nat.zero_le _, Nat.zero_le _⟩ rfl rfl d_G_makeFreshRecord_31 (fun r hr => ?_)
        subst hr
        refine x_fr (pc := 34) [.int (shG (gx 7 0 0) ((nI i) + 1) 0 K), .int (nI i), .ref (ad 10 0 0)] rfl rfl ?_
        refine lv_iload_n hx hb d_G_makeFreshRecord_34 rfl (lv_at hl 3 rfl) ?_
        refine xs_R (n := 2) (As := [.int (shG (gx 7 0 0) ((nI i) + 1) 0 K), .int (nI i)]) (rest := [.int (nI i), .ref (ad 10 0 0)]) hx hb hml hown hg hK0 hP (c_G_fingerprint l D T A _ (shG (gx 7 0 0) ((nI i) + 1) 0 K) (nI i)) w_210 w_1 w_208 w_209 (by decide +kernel) ⟨Nat.le_of_ble_eq_true rfl, Nat.le_of_ble_eq_true rfl⟩ rfl hl.1 rfl (Nat.le_of_ble_eq_true rfl) ⟨Nat.zero_le _, Nat.zero_le _⟩ rfl rfl d_G_makeFreshRecord_35 (fun r hr => ?_)
        subst hr
        refine x_fr (pc := 38) [.int (mixF (shG (gx 7 0 0) ((nI i) + 1) 0 K) ((nI i) + 100)), .int (nI i), .ref (ad 10 0 0)] rfl rfl ?_
        refine x_iast hx hb hK hP hS 0 (ga_10 hG) rfl (vp_in_nI (by omega) (by omega)) d_G_makeFreshRecord_38 (fun H_89 L_90 hP hS => ?_)
        rw [nI_clamp (by omega)] at hP
        obtain ⟨g_91, hg_91⟩ : ∃ z, z = upS gx 10 0 0 (upd (gx 10 0 0) i (mixF (shG (gx 7 0 0) ((nI i) + 1) 0 K) ((nI i) + 100))) := ⟨_, rfl⟩
        obtain ⟨M_92, hP, hR⟩ : ∃ z, xW D classes A z H_89 ∧ gR T ad K N M g_91 z := ⟨_, hP, by rw [hg_91]; exact hR.set (Or.inl ⟨by omega, rfl, rfl⟩) rfl⟩
        have hG := hR.1
        have e7 : gx 7 0 0 = g 7 0 0 := r1 7 0 0 (by omega) (by omega)
        have ra : ∀ k f s, k ≠ 9 → k ≠ 10 → g_91 k f s = g k f s := fun k f s q1 q2 => by rw [hg_91, upS_n (by omega)]; exact r1 k f s q1 q2
        have rb : ∀ j, j < i + 1 → g_91 10 0 0 j = fpV K (g 7 0 0) j := by
          intro j hj
          rw [hg_91, upS_s]
          by_cases hji : j = i
          · subst hji; rw [upd_s, e7]; rfl
          · rw [upd_n hji]; exact r2 j (by omega)
        have rc : g_91 9 0 0 2 = x := by rw [hg_91, upS_n (by omega)]; exact r3
        refine lv_iinc (v := nI (i + 1)) (lv' := [(3, .int (nI (i + 1))), (0, .ref (ad 0 0 0)), (1, .int x), (2, .int y)]) hx hb d_G_makeFreshRecord_39 hl (k := 3) rfl (nI_1 _) (by decide) rfl (fun ls hl => ?_)
        refine lv_goto (tgt := 10) hx hb d_G_makeFreshRecord_42 (by decide) ?_
        exact ih (i + 1) g_91 (by omega) (by omega) ra rb rc _ _ _ hP hS hR ls (lv_sub hl [1, 2, 3, 0] rfl)
  exact loop (N + 1) 0 g_79 (by omega) (by omega) (fun k f s q1 q2 => by rw [hg_79, upS_n (by omega)]) (fun j hj => absurd hj (by omega)) (by rw [hg_79, upS_s]; rfl) _ _ _ hP hS hR ls (lv_sub hl [1, 2, 3, 0] rfl)
theorem xU_id {M : xM} {a : Nat} {e : va_E} (h : M a = some e) : xU M a e = M := by
  funext x
  by_cases q : x = a
  · subst q; rw [xU_s, h]
  · rw [xU_n q]
set_option maxHeartbeats 4000000 in
set_option maxRecDepth 100000 in
theorem c_J_fill (l : Launch) (D : va_G) (T : Nat → ClassId) (A : Nat → Prop) (M : xM) (a n0 : Nat) (f : Nat → Int32) (x : Int32) (hn0 : n0 ≤ 31) (ha : M a = some (eI (T 0) n0 f)) : Met l y_J_fill (Cond.code y_J_fill b_J_fill 4 none :: gw) (rmH 0) (xPc D T A M [.ref a, .int x]) (xQ D A (fun r M1 => r = none ∧ M1 = xU M a (eI (T 0) n0 (fun _ => x)))) 0 0 A := by
  refine xMetQv (by decide) (Nat.le_of_ble_eq_true rfl) ?_
  intro p e s m below meth c Q ls hB hP hS hl hret
  obtain ⟨hx, hb, hml, hown, hg, hK0, hnm⟩ := hB
  have hown : s.vm.findClass "java/util/Arrays" = some m.cls := hown
  have hK := hK0.1
  have hN := hK0.2.1
  have hl : lv_has ls 4 [(0, .ref a), (1, .int x)] := hl
  refine lv_iconst (v := nI 0) hx hb d_J_fill_0 (by decide) ?_
  refine lv_istore_n (lv' := [(2, .int (nI 0)), (0, .ref a), (1, .int x)]) hx hb d_J_fill_1 rfl hl (by decide) rfl (fun ls hl => ?_)
  refine lv_aload_n hx hb d_J_fill_2 rfl (lv_at hl 1 rfl) ?_
  refine x_alen (v := nI n0) hx hb hK hP 0 ha rfl rfl d_J_fill_3 ?_
  refine lv_istore_n (lv' := [(3, .int (nI n0)), (2, .int (nI 0)), (0, .ref a), (1, .int x)]) hx hb d_J_fill_4 rfl hl (by decide) rfl (fun ls hl => ?_)
  have loop : ∀ (n i : Nat) (h : Nat → Int32), n0 + 1 ≤ i + n → i ≤ n0 → (∀ j, j < i → h j = x) → ∀ (Hx : Heap) (Lx : List Loc), xW D classes A (xU M a (eI (T 0) n0 h)) Hx → va_S A s.heap Hx Lx → ∀ (ls : Array Slot), lv_has ls 4 [(0, .ref a), (1, .int x), (2, .int (nI i)), (3, .int (nI n0))] → W p l e (rmH 0) s m [.ref a, .int x].toArray below meth c Hx Lx 0 0 Q (F0 m 5 ls []) := by
    intro n
    induction n with
    | zero => intro i h h2 h1; exact absurd h2 (by omega)
    | succ n ih =>
      intro i h h2 h1 r1 Hx Lx hP hS ls hl
      refine lv_iload_n hx hb d_J_fill_5 rfl (lv_at hl 2 rfl) ?_
      refine lv_iload_n hx hb d_J_fill_6 rfl (lv_at hl 3 rfl) ?_
      refine x_nc_ge (tgt := 20) hx hb d_J_fill_7 (by decide) (by omega) (by omega) (fun c1 => ?_) (fun c1 => ?_)
      · have hP := hP.ext (f' := fun _ => x) (fun j hj => r1 j (by omega))
        exact hret _ _ _ _ _ d_J_fill_20 hP hS ⟨rfl, rfl⟩
      · refine lv_aload_n hx hb d_J_fill_10 rfl (lv_at hl 0 rfl) ?_
        refine lv_iload_n hx hb d_J_fill_11 rfl (lv_at hl 2 rfl) ?_
        refine lv_iload_n hx hb d_J_fill_12 rfl (lv_at hl 1 rfl) ?_
        refine x_iast hx hb hK hP hS 0 xU_s rfl (vp_in_nI (by omega) (by omega)) d_J_fill_13 (fun H_93 L_94 hP hS => ?_)
        rw [nI_clamp (by omega), xU_uu] at hP
        refine lv_iinc (v := nI (i + 1)) (lv' := [(2, .int (nI (i + 1))), (0, .ref a), (1, .int x), (3, .int (nI n0))]) hx hb d_J_fill_14 hl (k := 2) rfl (nI_1 _) (by decide) rfl (fun ls hl => ?_)
        refine lv_goto (tgt := 5) hx hb d_J_fill_17 (by decide) ?_
        exact ih (i + 1) _ (by omega) (by omega) (fun j hj => by
          by_cases hji : j = i
          · subst hji; rw [upd_s]
          · rw [upd_n hji]; exact r1 j (by omega)) _ _ hP hS ls (lv_sub hl [1, 2, 0, 3] rfl)
  exact loop (n0 + 1) 0 f (by omega) (by omega) (fun j hj => absurd hj (by omega)) _ _ (by rw [xU_id ha]; exact hP) hS ls (lv_sub hl [2, 3, 1, 0] rfl)
