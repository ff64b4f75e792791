/-! writing methods of the class: the small ones -/
theorem xU_uu {M : xM} {a : Nat} {e e' : va_E} : xU (xU M a e) a e' = xU M a e' := by
  funext x
  by_cases h : x = a
  · subst h; rw [xU_s, xU_s]
  · rw [xU_n h, xU_n h, xU_n h]
theorem arr_congr {cA : ClassId} {n : Nat} {f f' : Nat → Int32} (h : ∀ j, j < n → f j = f' j) : vp_cell cA (n, .inl f) = vp_cell cA (n, .inl f') := by
  rw [vp_cell_i, vp_cell_i]
  unfold arrV
  congr 1
  apply Array.ext_getElem?
  intro i
  simp
  by_cases hi : i < n
  · simp [hi, h i hi]
  · simp [hi]
theorem xW.ext {D : va_G} {cl : List vw_C} {A : Nat → Prop} {M : xM} {H : Heap} {a n : Nat} {cA : ClassId} {f f' : Nat → Int32} (h : xW D cl A (xU M a (eI cA n f)) H) (hf : ∀ j, j < n → f j = f' j) : xW D cl A (xU M a (eI cA n f')) H := by
  obtain ⟨ws, hP, hD, hE⟩ := h
  obtain ⟨q0, h0⟩ := (hE a _).mp xU_s
  have hE2 := hE.set (e := eI cA n f') hD h0
  rw [xU_uu] at hE2
  refine ⟨_, ?_, hD.set h0, hE2⟩
  refine hP.set hD h0 ?_ (fun _ _ => rfl)
  show H[a]? = some (vp_cell cA (n, .inl f'))
  rw [← arr_congr hf]
  exact hP q0 _ h0
def iG (N : Nat) (g : gT) (q : Nat) (w : Nat → Nat) : Prop := g 0 0 0 0 = nI q ∧ q ≤ 6 ∧ (∀ f, f < 6 → g 12 f 0 1 = nI (w f) ∧ w f ≤ 30) ∧ ∀ f s, f < 6 → s < N → (g 17 f s 0 = 0 ∨ g 17 f s 0 = 1) ∧ (g 19 f s 0 = 0 ∨ g 19 f s 0 = 1)
set_option maxHeartbeats 4000000 in
set_option maxRecDepth 100000 in
theorem c_R_copyFrom (l : Launch) (D : va_G) (T : Nat → ClassId) (A : Nat → Prop) (M : xM) (a b fa fb n0 : Nat) (f f1 : Nat → Int32) (y0 y1 y2 y3 z0 z1 z2 z3 : Int32) (hn0 : n0 ≤ 7) (hy0 : y0 = 0 ∨ y0 = 1) (ha : M a = some (.inr (1, [.ref fa, .int z0, .int z1, .int z2, .int z3]))) (hb1 : M b = some (.inr (1, [.ref fb, .int y0, .int y1, .int y2, .int y3]))) (hfa : M fa = some (eI (T 0) n0 f1)) (hfb : M fb = some (eI (T 0) n0 f)) (hba : b ≠ a) : Met l y_R_copyFrom (Cond.code y_R_copyFrom b_R_copyFrom 2 none :: gw) (rmH 1) (xPc D T A M [.ref a, .ref b]) (xQ D A (fun r M1 => r = none ∧ M1 = xU (xU M a (.inr (1, [.ref fa, .int y0, .int y1, .int y2, .int y3]))) fa (eI (T 0) n0 f))) 0 0 A := by
  refine xMetQv (by decide) (Nat.le_of_ble_eq_true rfl) ?_
  intro p e s m below meth c Q ls hB hP hS hl hret
  obtain ⟨hx, hb, hml, hown, hg, hK0, hnm⟩ := hB
  have hown : s.vm.findClass "ShareGrid$ServerRecord" = some m.cls := hown
  have hK := hK0.1
  have hN := hK0.2.1
  have hfaa : fa ≠ a := fun q => by rw [q, ha] at hfa; cases hfa
  have hfba : fb ≠ a := fun q => by rw [q, ha] at hfb; cases hfb
  have hl : lv_has ls 2 [(0, .ref a), (1, .ref b)] := hl
  refine lv_aload_n hx hb d_R_copyFrom_0 rfl (lv_at hl 0 rfl) ?_
  refine lv_aload_n hx hb d_R_copyFrom_1 rfl (lv_at hl 1 rfl) ?_
  refine x_get (v := .int y0) (C := R_R) (T := F_R) (N := 5) hx hb hg i_R hown hK hP hb1 rfl 1 (by decide) (hg _ w_43) (fun _ h9 => h9) rfl d_R_copyFrom_2 ?_
  refine x_put (v := .int y0) (ty := .boolean) (C := R_R) (T := F_R) (N := 5) hx hb hg i_R t_R t_R_ok n_R hown hK hP hS ha rfl 1 (by decide) (hg _ w_43) (fun _ h9 => h9) rfl (by decide +kernel) (by rcases hy0 with h | h <;> rw [h] <;> rfl) (by rcases hy0 with h | h <;> rw [h] <;> rfl) (Nat.le_of_ble_eq_true rfl) d_R_copyFrom_5 (fun H_1 L_2 hP hS => ?_)
  have hP : xW D classes A (xU M a (.inr (1, [.ref fa, .int y0, .int z1, .int z2, .int z3]))) H_1 := hP
  refine lv_aload_n hx hb d_R_copyFrom_8 rfl (lv_at hl 0 rfl) ?_
  refine lv_aload_n hx hb d_R_copyFrom_9 rfl (lv_at hl 1 rfl) ?_
  refine x_get (v := .int y1) (C := R_R) (T := F_R) (N := 5) hx hb hg i_R hown hK hP (xU_k hba hb1) rfl 2 (by decide) (hg _ w_46) (fun _ h9 => h9) rfl d_R_copyFrom_10 ?_
  refine x_put (v := .int y1) (ty := .int) (C := R_R) (T := F_R) (N := 5) hx hb hg i_R t_R t_R_ok n_R hown hK hP hS xU_s rfl 2 (by decide) (hg _ w_46) (fun _ h9 => h9) rfl (by decide +kernel) rfl rfl (Nat.le_of_ble_eq_true rfl) d_R_copyFrom_13 (fun H_3 L_4 hP hS => ?_)
  rw [xU_uu] at hP
  have hP : xW D classes A (xU M a (.inr (1, [.ref fa, .int y0, .int y1, .int z2, .int z3]))) H_3 := hP
  refine lv_aload_n hx hb d_R_copyFrom_16 rfl (lv_at hl 0 rfl) ?_
  refine lv_aload_n hx hb d_R_copyFrom_17 rfl (lv_at hl 1 rfl) ?_
  refine x_get (v := .int y2) (C := R_R) (T := F_R) (N := 5) hx hb hg i_R hown hK hP (xU_k hba hb1) rfl 3 (by decide) (hg _ w_49) (fun _ h9 => h9) rfl d_R_copyFrom_18 ?_
  refine x_put (v := .int y2) (ty := .int) (C := R_R) (T := F_R) (N := 5) hx hb hg i_R t_R t_R_ok n_R hown hK hP hS xU_s rfl 3 (by decide) (hg _ w_49) (fun _ h9 => h9) rfl (by decide +kernel) rfl rfl (Nat.le_of_ble_eq_true rfl) d_R_copyFrom_21 (fun H_5 L_6 hP hS => ?_)
  rw [xU_uu] at hP
  have hP : xW D classes A (xU M a (.inr (1, [.ref fa, .int y0, .int y1, .int y2, .int z3]))) H_5 := hP
  refine lv_aload_n hx hb d_R_copyFrom_24 rfl (lv_at hl 0 rfl) ?_
  refine lv_aload_n hx hb d_R_copyFrom_25 rfl (lv_at hl 1 rfl) ?_
  refine x_get (v := .int y3) (C := R_R) (T := F_R) (N := 5) hx hb hg i_R hown hK hP (xU_k hba hb1) rfl 4 (by decide) (hg _ w_52) (fun _ h9 => h9) rfl d_R_copyFrom_26 ?_
  refine x_put (v := .int y3) (ty := .int) (C := R_R) (T := F_R) (N := 5) hx hb hg i_R t_R t_R_ok n_R hown hK hP hS xU_s rfl 4 (by decide) (hg _ w_52) (fun _ h9 => h9) rfl (by decide +kernel) rfl rfl (Nat.le_of_ble_eq_true rfl) d_R_copyFrom_29 (fun H_7 L_8 hP hS => ?_)
  rw [xU_uu] at hP
  have hP : xW D classes A (xU M a (.inr (1, [.ref fa, .int y0, .int y1, .int y2, .int y3]))) H_7 := hP
  refine lv_aload_n hx hb d_R_copyFrom_32 rfl (lv_at hl 1 rfl) ?_
  refine x_get (v := .ref fb) (C := R_R) (T := F_R) (N := 5) hx hb hg i_R hown hK hP (xU_k hba hb1) rfl 0 (by decide) (hg _ w_40) (fun _ h9 => h9) rfl d_R_copyFrom_33 ?_
  refine lv_iconst (v := nI 0) hx hb d_R_copyFrom_36 (by decide) ?_
  refine lv_aload_n hx hb d_R_copyFrom_37 rfl (lv_at hl 0 rfl) ?_
  refine x_get (v := .ref fa) (C := R_R) (T := F_R) (N := 5) hx hb hg i_R hown hK hP xU_s rfl 0 (by decide) (hg _ w_40) (fun _ h9 => h9) rfl d_R_copyFrom_38 ?_
  refine lv_iconst (v := nI 0) hx hb d_R_copyFrom_41 (by decide) ?_
  refine lv_aload_n hx hb d_R_copyFrom_42 rfl (lv_at hl 0 rfl) ?_
  refine x_get (v := .ref fa) (C := R_R) (T := F_R) (N := 5) hx hb hg i_R hown hK hP xU_s rfl 0 (by decide) (hg _ w_40) (fun _ h9 => h9) rfl d_R_copyFrom_43 ?_
  refine x_alen (v := nI n0) hx hb hK hP 0 (xU_k hfaa hfa) rfl rfl d_R_copyFrom_46 ?_
  refine x_copyi hx hb (hml.trans hl.1.symm) hown (hg _ w_232) (hg _ w_234) (hg _ w_233) (hg _ w_7) hK hP hS 0 (xU_k hfba hfb) (xU_k hfaa hfa) rfl (by decide) (by decide) (nI_pos (by omega)) (by rw [nI_clamp (n := n0) (by omega)]; exact Nat.le_of_eq (Nat.zero_add _)) (by rw [nI_clamp (n := n0) (by omega)]; exact Nat.le_of_eq (Nat.zero_add _)) (Nat.le_of_ble_eq_true rfl) (by decide +kernel) d_R_copyFrom_47 (fun H1 L1 hP hS => ?_)
  rw [nI_clamp (n := n0) (by omega), show (nI 0).toNatClampNeg = 0 from rfl] at hP
  have hP := hP.ext (f' := f) (fun j hj => by
    rw [pk_cpy_in (Nat.zero_le _) (by omega)]
    congr 1
    omega)
  exact hret _ _ _ _ _ d_R_copyFrom_50 hP hS ⟨rfl, rfl⟩
def aDraft (K : Nat) (g : gT) (x y : Int32) : Int32 × gT := if inF x (nI K) = 0 then (-1, g) else (0, upS g 4 0 0 (upd (g 4 0 0) x.toNatClampNeg y))
def aServer (N : Nat) (g : gT) (x u k : Int32) : Int32 × gT := if inF x (nI N) = 0 then (-1, g) else (0, upS (upS g 1 0 0 (upd (g 1 0 0) x.toNatClampNeg u)) 2 0 0 (upd (g 2 0 0) x.toNatClampNeg k))
def aWipe (N : Nat) (g : gT) (x y : Int32) : Int32 × gT := if inF x (g 0 0 0 0) = 0 then (-1, g) else if inF y (nI N) = 0 then (-1, g) else (0, upS g 17 x.toNatClampNeg y.toNatClampNeg (upd (g 17 x.toNatClampNeg y.toNatClampNeg) 0 0))
def aCreate (g : gT) (q : Nat) (x : Int32) : Int32 × gT := if 0 ≤ fdF (fun f => g 12 f 0 0) (mixF (mixF x 1) 2) 0 q then (-1, g) else if 6 ≤ q then (-2, g) else (nI q, upS (upS g 12 q 0 (upd (g 12 q 0) 0 (mixF (mixF x 1) 2))) 0 0 0 (upd (g 0 0 0) 0 (nI (q + 1))))
/-- a method that answers and leaves: the pair an -/
def pA (T : Nat → ClassId) (ad : Nat → Nat → Nat → Nat) (K N : Nat) (M : xM) (an : Int32 × gT) (r : Option Value) (M1 : xM) : Prop := r = some (.int an.1) ∧ gR T ad K N M an.2 M1
set_option maxHeartbeats 4000000 in
set_option maxRecDepth 100000 in
theorem c_G_draft (l : Launch) (D : va_G) (T : Nat → ClassId) (A : Nat → Prop) (M : xM) (ad : Nat → Nat → Nat → Nat) (K N : Nat) (g : gT) (hz : zB K N) (hG : gG T ad K N g M) (x y : Int32) : Met l y_G_draft (Cond.code y_G_draft b_G_draft 3 (some .int) :: gw) (rmH 1) (xPc D T A M [.ref (ad 0 0 0), .int x, .int y]) (xQ D A (fun r M1 => pA T ad K N M (aDraft K g x y) r M1)) 0 0 A := by
  refine xMetQi (by decide) (Nat.le_of_ble_eq_true rfl) ?_
  intro p e s m below meth c Q ls hB hP hS hl hret
  obtain ⟨hx, hb, hml, hown, hg, hK0, hnm⟩ := hB
  have hown : s.vm.findClass "ShareGrid" = some m.cls := hown
  have hK := hK0.1
  have hN := hK0.2.1
  obtain ⟨hz1, hz4, hzn, hz7⟩ := id hz
  have hR := hG.rf
  have hl : lv_has ls 3 [(0, .ref (ad 0 0 0)), (1, .int x), (2, .int y)] := hl
  refine lv_aload_n hx hb d_G_draft_0 rfl (lv_at hl 0 rfl) ?_
  refine lv_iload_n hx hb d_G_draft_1 rfl (lv_at hl 1 rfl) ?_
  refine xv_R (n := 1) (As := [.int x]) (rest := []) hx hb hml hown hg hK0 hP (c_G_isWordPlace l D T A M ad K N g hz hG x) w_177 w_1 w_174 w_176 s_1 (ga_0 hG) rfl rfl (by decide +kernel) ⟨Nat.le_of_ble_eq_true rfl, Nat.le_of_ble_eq_true rfl⟩ rfl hl.1 rfl (Nat.le_of_ble_eq_true rfl) ⟨Nat.zero_le _, Nat.zero_le _⟩ rfl rfl d_G_draft_2 (fun r hr => ?_)
  subst hr
  refine x_fr (pc := 5) [.int (inF x (nI K))] rfl rfl ?_
  refine lv_if_ne (tgt := 10) hx hb d_G_draft_5 (by decide) (fun c_5 => ?_) (fun c_5 => ?_)
  · have c6 := c_5
    obtain ⟨j, hj, rfl⟩ := inF_j (by omega) c6
    refine lv_aload_n hx hb d_G_draft_10 rfl (lv_at hl 0 rfl) ?_
    refine x_get (v := .ref (ad 4 0 0)) (C := R_G) (T := F_G) (N := 12) hx hb hg i_G hown hK hP (ga_0 hG) rfl 5 (by decide) (hg _ w_115) (fun _ h9 => h9) rfl d_G_draft_11 ?_
    refine lv_iload_n hx hb d_G_draft_14 rfl (lv_at hl 1 rfl) ?_
    refine lv_iload_n hx hb d_G_draft_15 rfl (lv_at hl 2 rfl) ?_
    refine x_iast hx hb hK hP hS 0 (ga_4 hG) rfl (vp_in_nI (by omega) (by omega)) d_G_draft_16 (fun H_9 L_10 hP hS => ?_)
    rw [nI_clamp (by omega)] at hP
    obtain ⟨g_11, hg_11⟩ : ∃ z, z = upS g 4 0 0 (upd (g 4 0 0) j y) := ⟨_, rfl⟩
    obtain ⟨M_12, hP, hR⟩ : ∃ z, xW D classes A z H_9 ∧ gR T ad K N M g_11 z := ⟨_, hP, by rw [hg_11]; exact hR.set (Or.inl ⟨by omega, rfl, rfl⟩) rfl⟩
    have hG := hR.1
    refine lv_iconst (v := nI 0) hx hb d_G_draft_17 (by decide) ?_
    exact hret _ _ _ _ _ _ d_G_draft_18 hP hS (by rw [aDraft, if_neg c6, nI_clamp (by omega), ← hg_11]; exact ⟨rfl, hR⟩)
  · refine lv_iconst (v := (-1)) hx hb d_G_draft_8 (by decide) ?_
    exact hret _ _ _ _ _ _ d_G_draft_9 hP hS (by rw [aDraft, if_pos c_5]; exact ⟨rfl, hR⟩)
set_option maxHeartbeats 4000000 in
set_option maxRecDepth 100000 in
theorem c_G_server (l : Launch) (D : va_G) (T : Nat → ClassId) (A : Nat → Prop) (M : xM) (ad : Nat → Nat → Nat → Nat) (K N : Nat) (g : gT) (hz : zB K N) (hG : gG T ad K N g M) (x u k : Int32) (hu : u = 0 ∨ u = 1) (hk : k = 0 ∨ k = 1) : Met l y_G_server (Cond.code y_G_server b_G_server 4 (some .int) :: gw) (rmH 1) (xPc D T A M [.ref (ad 0 0 0), .int x, .int u, .int k]) (xQ D A (fun r M1 => pA T ad K N M (aServer N g x u k) r M1)) 0 0 A := by
  refine xMetQi (by decide) (Nat.le_of_ble_eq_true rfl) ?_
  intro p e s m below meth c Q ls hB hP hS hl hret
  obtain ⟨hx, hb, hml, hown, hg, hK0, hnm⟩ := hB
  have hown : s.vm.findClass "ShareGrid" = some m.cls := hown
  have hK := hK0.1
  have hN := hK0.2.1
  obtain ⟨hz1, hz4, hzn, hz7⟩ := id hz
  have hR := hG.rf
  have hl : lv_has ls 4 [(0, .ref (ad 0 0 0)), (1, .int x), (2, .int u), (3, .int k)] := hl
  refine lv_aload_n hx hb d_G_server_0 rfl (lv_at hl 0 rfl) ?_
  refine lv_iload_n hx hb d_G_server_1 rfl (lv_at hl 1 rfl) ?_
  refine xv_R (n := 1) (As := [.int x]) (rest := []) hx hb hml hown hg hK0 hP (c_G_isPlace l D T A M ad K N g hz hG x) w_305 w_1 w_302 w_304 s_17 (ga_0 hG) rfl rfl (by decide +kernel) ⟨Nat.le_of_ble_eq_true rfl, Nat.le_of_ble_eq_true rfl⟩ rfl hl.1 rfl (Nat.le_of_ble_eq_true rfl) ⟨Nat.zero_le _, Nat.zero_le _⟩ rfl rfl d_G_server_2 (fun r hr => ?_)
  subst hr
  refine x_fr (pc := 5) [.int (inF x (nI N))] rfl rfl ?_
  refine lv_if_ne (tgt := 10) hx hb d_G_server_5 (by decide) (fun c_5 => ?_) (fun c_5 => ?_)
  · have c6 := c_5
    obtain ⟨j, hj, rfl⟩ := inF_j (by omega) c6
    refine lv_aload_n hx hb d_G_server_10 rfl (lv_at hl 0 rfl) ?_
    refine x_get (v := .ref (ad 1 0 0)) (C := R_G) (T := F_G) (N := 12) hx hb hg i_G hown hK hP (ga_0 hG) rfl 2 (by decide) (hg _ w_112) (fun _ h9 => h9) rfl d_G_server_11 ?_
    refine lv_iload_n hx hb d_G_server_14 rfl (lv_at hl 1 rfl) ?_
    refine lv_iload_n hx hb d_G_server_15 rfl (lv_at hl 2 rfl) ?_
    refine x_zast hx hb hK hP hS 1 (ga_1 hG) rfl (vp_in_nI (by omega) (by omega)) d_G_server_16 (fun H_13 L_14 hP hS => ?_)
    rw [show vp_nar .boolean u = u from by rcases hu with h | h <;> rw [h] <;> rfl] at hP
    rw [nI_clamp (by omega)] at hP
    obtain ⟨g_15, hg_15⟩ : ∃ z, z = upS g 1 0 0 (upd (g 1 0 0) j u) := ⟨_, rfl⟩
    obtain ⟨M_16, hP, hR⟩ : ∃ z, xW D classes A z H_13 ∧ gR T ad K N M g_15 z := ⟨_, hP, by rw [hg_15]; exact hR.set (Or.inl ⟨by omega, rfl, rfl⟩) rfl⟩
    have hG := hR.1
    refine lv_aload_n hx hb d_G_server_17 rfl (lv_at hl 0 rfl) ?_
    refine x_get (v := .ref (ad 2 0 0)) (C := R_G) (T := F_G) (N := 12) hx hb hg i_G hown hK hP (ga_0 hG) rfl 3 (by decide) (hg _ w_113) (fun _ h9 => h9) rfl d_G_server_18 ?_
    refine lv_iload_n hx hb d_G_server_21 rfl (lv_at hl 1 rfl) ?_
    refine lv_iload_n hx hb d_G_server_22 rfl (lv_at hl 3 rfl) ?_
    refine x_zast hx hb hK hP hS 1 (ga_2 hG) rfl (vp_in_nI (by omega) (by omega)) d_G_server_23 (fun H_17 L_18 hP hS => ?_)
    rw [show vp_nar .boolean k = k from by rcases hk with h | h <;> rw [h] <;> rfl] at hP
    rw [nI_clamp (by omega)] at hP
    obtain ⟨g_19, hg_19⟩ : ∃ z, z = upS g_15 2 0 0 (upd (g_15 2 0 0) j k) := ⟨_, rfl⟩
    obtain ⟨M_20, hP, hR⟩ : ∃ z, xW D classes A z H_17 ∧ gR T ad K N M g_19 z := ⟨_, hP, by rw [hg_19]; exact hR.set (Or.inl ⟨by omega, rfl, rfl⟩) rfl⟩
    have hG := hR.1
    refine lv_iconst (v := nI 0) hx hb d_G_server_24 (by decide) ?_
    exact hret _ _ _ _ _ _ d_G_server_25 hP hS (by rw [aServer, if_neg c6, nI_clamp (by omega)]; refine ⟨rfl, ?_⟩; rw [hg_19, hg_15] at hR; exact hR)
  · refine lv_iconst (v := (-1)) hx hb d_G_server_8 (by decide) ?_
    exact hret _ _ _ _ _ _ d_G_server_9 hP hS (by rw [aServer, if_pos c_5]; exact ⟨rfl, hR⟩)
set_option maxHeartbeats 4000000 in
set_option maxRecDepth 100000 in
theorem c_G_wipe (l : Launch) (D : va_G) (T : Nat → ClassId) (A : Nat → Prop) (M : xM) (ad : Nat → Nat → Nat → Nat) (K N : Nat) (g : gT) (hz : zB K N) (hG : gG T ad K N g M) (q : Nat) (hq : g 0 0 0 0 = nI q) (hq6 : q ≤ 6) (x y : Int32) : Met l y_G_wipe (Cond.code y_G_wipe b_G_wipe 3 (some .int) :: gw) (rmH 1) (xPc D T A M [.ref (ad 0 0 0), .int x, .int y]) (xQ D A (fun r M1 => pA T ad K N M (aWipe N g x y) r M1)) 0 0 A := by
  refine xMetQi (by decide) (Nat.le_of_ble_eq_true rfl) ?_
  intro p e s m below meth c Q ls hB hP hS hl hret
  obtain ⟨hx, hb, hml, hown, hg, hK0, hnm⟩ := hB
  have hown : s.vm.findClass "ShareGrid" = some m.cls := hown
  have hK := hK0.1
  have hN := hK0.2.1
  obtain ⟨hz1, hz4, hzn, hz7⟩ := id hz
  have hR := hG.rf
  have hl : lv_has ls 3 [(0, .ref (ad 0 0 0)), (1, .int x), (2, .int y)] := hl
  refine lv_aload_n hx hb d_G_wipe_0 rfl (lv_at hl 0 rfl) ?_
  refine lv_iload_n hx hb d_G_wipe_1 rfl (lv_at hl 1 rfl) ?_
  refine xv_R (n := 1) (As := [.int x]) (rest := []) hx hb hml hown hg hK0 hP (c_G_isFile l D T A M ad K N g hz hG x) w_313 w_1 w_310 w_312 s_18 (ga_0 hG) rfl rfl (by decide +kernel) ⟨Nat.le_of_ble_eq_true rfl, Nat.le_of_ble_eq_true rfl⟩ rfl hl.1 rfl (Nat.le_of_ble_eq_true rfl) ⟨Nat.zero_le _, Nat.zero_le _⟩ rfl rfl d_G_wipe_2 (fun r hr => ?_)
  subst hr
  refine x_fr (pc := 5) [.int (inF x (g 0 0 0 0))] rfl rfl ?_
  refine lv_if_eq (tgt := 16) hx hb d_G_wipe_5 (by decide) (fun c_5 => ?_) (fun c_5 => ?_)
  · refine lv_iconst (v := (-1)) hx hb d_G_wipe_16 (by decide) ?_
    exact hret _ _ _ _ _ _ d_G_wipe_17 hP hS (by rw [aWipe, if_pos c_5]; exact ⟨rfl, hR⟩)
  · refine lv_aload_n hx hb d_G_wipe_8 rfl (lv_at hl 0 rfl) ?_
    refine lv_iload_n hx hb d_G_wipe_9 rfl (lv_at hl 2 rfl) ?_
    refine xv_R (n := 1) (As := [.int y]) (rest := []) hx hb hml hown hg hK0 hP (c_G_isPlace l D T A M ad K N g hz hG y) w_305 w_1 w_302 w_304 s_17 (ga_0 hG) rfl rfl (by decide +kernel) ⟨Nat.le_of_ble_eq_true rfl, Nat.le_of_ble_eq_true rfl⟩ rfl hl.1 rfl (Nat.le_of_ble_eq_true rfl) ⟨Nat.zero_le _, Nat.zero_le _⟩ rfl rfl d_G_wipe_10 (fun r hr => ?_)
    subst hr
    refine x_fr (pc := 13) [.int (inF y (nI N))] rfl rfl ?_
    refine lv_if_ne (tgt := 18) hx hb d_G_wipe_13 (by decide) (fun c_13 => ?_) (fun c_13 => ?_)
    · have c6 := c_5
      have c7 := c_13
      have c8 := c6
      rw [hq] at c8
      obtain ⟨f, hf, rfl⟩ := inF_j (by omega) c8
      obtain ⟨i, hi, rfl⟩ := inF_j (by omega) c7
      refine lv_aload_n hx hb d_G_wipe_18 rfl (lv_at hl 0 rfl) ?_
      refine x_get (v := .ref (ad 3 0 0)) (C := R_G) (T := F_G) (N := 12) hx hb hg i_G hown hK hP (ga_0 hG) rfl 4 (by decide) (hg _ w_114) (fun _ h9 => h9) rfl d_G_wipe_19 ?_
      refine lv_iload_n hx hb d_G_wipe_22 rfl (lv_at hl 1 rfl) ?_
      refine x_aldq (v := .ref (ad 12 f 0)) hx hb hK hP 3 (ga_3 hG) rfl (vp_in_nI (by omega) (by omega)) (by rw [nI_clamp (by omega)]; rfl) d_G_wipe_23 ?_
      refine x_getN (v := .ref (ad 13 f 0)) (C := R_F) (T := F_F) (N := 6) hx hb hg i_F hown hK hP (ga_12 hG (show f < 6 by omega)) rfl 0 (by decide) (va_Nw.use rfl (hN _ e_69)) (fun _ h9 => h9) rfl d_G_wipe_24 ?_
      refine lv_iload_n hx hb d_G_wipe_27 rfl (lv_at hl 2 rfl) ?_
      refine x_aldq (v := .ref (ad 17 f i)) hx hb hK hP 2 (ga_13 hG (show f < 6 by omega)) rfl (vp_in_nI (by omega) (by omega)) (by rw [nI_clamp (by omega)]; rfl) d_G_wipe_28 ?_
      refine lv_iconst (v := nI 0) hx hb d_G_wipe_29 (by decide) ?_
      refine x_putN (v := .int (nI 0)) (ty := .boolean) (C := R_R) (T := F_R) (N := 5) hx hb hg i_R t_R t_R_ok n_R hown hK hP hS (ga_17 hG (show f < 6 by omega) (show i < N by omega)) rfl 1 (by decide) (va_Nw.use rfl (hN _ e_45)) (fun _ h9 => h9) rfl (by decide +kernel) (by rfl) (by rfl) (Nat.le_of_ble_eq_true rfl) d_G_wipe_30 (fun H_21 L_22 hP hS => ?_)
      obtain ⟨g_23, hg_23⟩ : ∃ z, z = upS g 17 f i (upd (g 17 f i) 0 (nI 0)) := ⟨_, rfl⟩
      obtain ⟨M_24, hP, hR⟩ : ∃ z, xW D classes A z H_21 ∧ gR T ad K N M g_23 z := ⟨_, hP, by rw [hg_23]; exact hR.set (Or.inr (Or.inr ⟨by omega, by omega, by omega, by omega⟩)) rfl⟩
      have hG := hR.1
      refine lv_iconst (v := nI 0) hx hb d_G_wipe_33 (by decide) ?_
      exact hret _ _ _ _ _ _ d_G_wipe_34 hP hS (by rw [aWipe, if_neg c6, if_neg c7, nI_clamp (by omega), nI_clamp (by omega)]; refine ⟨rfl, ?_⟩; rw [hg_23] at hR; exact hR)
    · refine lv_iconst (v := (-1)) hx hb d_G_wipe_16 (by decide) ?_
      exact hret _ _ _ _ _ _ d_G_wipe_17 hP hS (by rw [aWipe, if_neg c_5, if_pos c_13]; exact ⟨rfl, hR⟩)
set_option maxHeartbeats 4000000 in
set_option maxRecDepth 100000 in
theorem c_G_create (l : Launch) (D : va_G) (T : Nat → ClassId) (A : Nat → Prop) (M : xM) (ad : Nat → Nat → Nat → Nat) (K N : Nat) (g : gT) (hz : zB K N) (hG : gG T ad K N g M) (q : Nat) (hq : g 0 0 0 0 = nI q) (hq6 : q ≤ 6) (x : Int32) : Met l y_G_create (Cond.code y_G_create b_G_create 3 (some .int) :: gw) (rmH 2) (xPc D T A M [.ref (ad 0 0 0), .int x]) (xQ D A (fun r M1 => pA T ad K N M (aCreate g q x) r M1)) 0 0 A := by
  refine xMetQi (by decide) (Nat.le_of_ble_eq_true rfl) ?_
  intro p e s m below meth c Q ls hB hP hS hl hret
  obtain ⟨hx, hb, hml, hown, hg, hK0, hnm⟩ := hB
  have hown : s.vm.findClass "ShareGrid" = some m.cls := hown
  have hK := hK0.1
  have hN := hK0.2.1
  obtain ⟨hz1, hz4, hzn, hz7⟩ := id hz
  have hR := hG.rf
  have hl : lv_has ls 3 [(0, .ref (ad 0 0 0)), (1, .int x)] := hl
  refine lv_iload_n hx hb d_G_create_0 rfl (lv_at hl 1 rfl) ?_
  refine xs_R (n := 1) (As := [.int x]) (rest := []) hx hb hml hown hg hK0 hP (c_G_readKeyOf l D T A M x) w_153 w_1 w_151 w_152 (by decide +kernel) ⟨Nat.le_of_ble_eq_true rfl, Nat.le_of_ble_eq_true rfl⟩ rfl hl.1 rfl (Nat.le_of_ble_eq_true rfl) ⟨Nat.zero_le _, Nat.zero_le _⟩ rfl rfl d_G_create_1 (fun r hr => ?_)
  subst hr
  refine x_fr (pc := 4) [.int (mixF x 1)] rfl rfl ?_
  refine xs_R (n := 1) (As := [.int (mixF x 1)]) (rest := []) hx hb hml hown hg hK0 hP (c_G_verifyKeyOf l D T A M (mixF x 1)) w_161 w_1 w_159 w_160 (by decide +kernel) ⟨Nat.le_of_ble_eq_true rfl, Nat.le_of_ble_eq_true rfl⟩ rfl hl.1 rfl (Nat.le_of_ble_eq_true rfl) ⟨Nat.zero_le _, Nat.zero_le _⟩ rfl rfl d_G_create_4 (fun r hr => ?_)
  subst hr
  refine x_fr (pc := 7) [.int (mixF (mixF x 1) 2)] rfl rfl ?_
  refine lv_istore_n (lv' := [(2, .int (mixF (mixF x 1) 2)), (0, .ref (ad 0 0 0)), (1, .int x)]) hx hb d_G_create_7 rfl hl (by decide) rfl (fun ls hl => ?_)
  refine lv_aload_n hx hb d_G_create_8 rfl (lv_at hl 1 rfl) ?_
  refine lv_iload_n hx hb d_G_create_9 rfl (lv_at hl 0 rfl) ?_
  refine xv_R (n := 1) (As := [.int (mixF (mixF x 1) 2)]) (rest := []) hx hb hml hown hg hK0 hP (c_G_fileUnder l D T A M ad K N g hz hG q hq hq6 (mixF (mixF x 1) 2)) w_169 w_1 w_166 w_168 s_0 (ga_0 hG) rfl rfl (by decide +kernel) ⟨Nat.le_of_ble_eq_true rfl, Nat.le_of_ble_eq_true rfl⟩ rfl hl.1 rfl (Nat.le_of_ble_eq_true rfl) ⟨Nat.zero_le _, Nat.zero_le _⟩ rfl rfl d_G_create_10 (fun r hr => ?_)
  subst hr
  refine x_fr (pc := 13) [.int (fdF (fun f => g 12 f 0 0) (mixF (mixF x 1) 2) 0 q)] rfl rfl ?_
  refine lv_if_lt (tgt := 18) hx hb d_G_create_13 (by decide) (fun c_13 => ?_) (fun c_13 => ?_)
  · refine lv_aload_n hx hb d_G_create_18 rfl (lv_at hl 1 rfl) ?_
    refine x_get (v := .int (g 0 0 0 0)) (C := R_G) (T := F_G) (N := 12) hx hb hg i_G hown hK hP (ga_0 hG) rfl 10 (by decide) (hg _ w_120) (fun _ h9 => h9) rfl d_G_create_19 ?_
    refine x_top (y := nI q) hq ?_
    refine lv_bipush (v := nI 6) hx hb d_G_create_22 (by decide) ?_
    refine x_nc_lt (tgt := 30) hx hb d_G_create_24 (by decide) (by omega) (by omega) (fun c_24 => ?_) (fun c_24 => ?_)
    · refine lv_aload_n hx hb d_G_create_30 rfl (lv_at hl 1 rfl) ?_
      refine x_get (v := .ref (ad 3 0 0)) (C := R_G) (T := F_G) (N := 12) hx hb hg i_G hown hK hP (ga_0 hG) rfl 4 (by decide) (hg _ w_114) (fun _ h9 => h9) rfl d_G_create_31 ?_
      refine lv_aload_n hx hb d_G_create_34 rfl (lv_at hl 1 rfl) ?_
      refine x_get (v := .int (g 0 0 0 0)) (C := R_G) (T := F_G) (N := 12) hx hb hg i_G hown hK hP (ga_0 hG) rfl 10 (by decide) (hg _ w_120) (fun _ h9 => h9) rfl d_G_create_35 ?_
      refine x_top (y := nI q) hq ?_
      refine x_aldq (v := .ref (ad 12 q 0)) hx hb hK hP 3 (ga_3 hG) rfl (vp_in_nI (by omega) (by omega)) (by rw [nI_clamp (by omega)]; rfl) d_G_create_38 ?_
      refine lv_iload_n hx hb d_G_create_39 rfl (lv_at hl 0 rfl) ?_
      refine x_putN (v := .int (mixF (mixF x 1) 2)) (ty := .int) (C := R_F) (T := F_F) (N := 6) hx hb hg i_F t_F t_F_ok n_F hown hK hP hS (ga_12 hG (show q < 6 by omega)) rfl 4 (by decide) (va_Nw.use rfl (hN _ e_74)) (fun _ h9 => h9) rfl (by decide +kernel) rfl rfl (Nat.le_of_ble_eq_true rfl) d_G_create_40 (fun H_25 L_26 hP hS => ?_)
      obtain ⟨g_27, hg_27⟩ : ∃ z, z = upS g 12 q 0 (upd (g 12 q 0) 0 (mixF (mixF x 1) 2)) := ⟨_, rfl⟩
      obtain ⟨M_28, hP, hR⟩ : ∃ z, xW D classes A z H_25 ∧ gR T ad K N M g_27 z := ⟨_, hP, by rw [hg_27]; exact hR.set (Or.inr (Or.inl ⟨by omega, by omega, by omega, rfl⟩)) rfl⟩
      have hG := hR.1
      have hq1 : g_27 0 0 0 0 = nI q := by rw [hg_27]; exact hq
      refine lv_aload_n hx hb d_G_create_43 rfl (lv_at hl 1 rfl) ?_
      refine lv_dup hx hb d_G_create_44 rfl ?_
      refine x_get (v := .int (g_27 0 0 0 0)) (C := R_G) (T := F_G) (N := 12) hx hb hg i_G hown hK hP (ga_0 hG) rfl 10 (by decide) (hg _ w_120) (fun _ h9 => h9) rfl d_G_create_45 ?_
      refine x_top (y := nI q) hq1 ?_
      refine lv_iconst (v := nI 1) hx hb d_G_create_48 (by decide) ?_
      refine lv_iadd hx hb d_G_create_49 ?_
      refine x_top (y := nI (q + 1)) (nI_add _ _) ?_
      refine x_put (v := .int (nI (q + 1))) (ty := .int) (C := R_G) (T := F_G) (N := 12) hx hb hg i_G t_G t_G_ok n_G hown hK hP hS (ga_0 hG) rfl 10 (by decide) (hg _ w_120) (fun _ h9 => h9) rfl (by decide +kernel) rfl rfl (Nat.le_of_ble_eq_true rfl) d_G_create_50 (fun H_29 L_30 hP hS => ?_)
      obtain ⟨g_31, hg_31⟩ : ∃ z, z = upS g_27 0 0 0 (upd (g_27 0 0 0) 0 (nI (q + 1))) := ⟨_, rfl⟩
      obtain ⟨M_32, hP, hR⟩ : ∃ z, xW D classes A z H_29 ∧ gR T ad K N M g_31 z := ⟨_, hP, by rw [hg_31]; exact hR.set (Or.inl ⟨by omega, rfl, rfl⟩) rfl⟩
      have hG := hR.1
      have hq2 : g_31 0 0 0 0 = nI (q + 1) := by rw [hg_31]; rfl
      refine lv_aload_n hx hb d_G_create_53 rfl (lv_at hl 1 rfl) ?_
      refine x_get (v := .int (g_31 0 0 0 0)) (C := R_G) (T := F_G) (N := 12) hx hb hg i_G hown hK hP (ga_0 hG) rfl 10 (by decide) (hg _ w_120) (fun _ h9 => h9) rfl d_G_create_54 ?_
      refine x_top (y := nI (q + 1)) hq2 ?_
      refine lv_iconst (v := nI 1) hx hb d_G_create_57 (by decide) ?_
      refine lv_isub hx hb d_G_create_58 ?_
      refine x_top (y := nI ((q + 1) - 1)) (pk_sub (by omega)) ?_
      exact hret _ _ _ _ _ _ d_G_create_59 hP hS (by rw [aCreate, if_neg (Int32.not_le.mpr c_13), if_neg (Nat.not_le.mpr c_24)]; refine ⟨by rw [show q + 1 - 1 = q by omega], ?_⟩; rw [hg_31, hg_27] at hR; exact hR)
    · refine lv_bipush (v := (-2)) hx hb d_G_create_27 (by decide) ?_
      exact hret _ _ _ _ _ _ d_G_create_29 hP hS (by rw [aCreate, if_neg (Int32.not_le.mpr c_13), if_pos c_24]; exact ⟨rfl, hR⟩)
  · refine lv_iconst (v := (-1)) hx hb d_G_create_16 (by decide) ?_
    exact hret _ _ _ _ _ _ d_G_create_17 hP hS (by rw [aCreate, if_pos (Int32.not_lt.mp c_13)]; exact ⟨rfl, hR⟩)
