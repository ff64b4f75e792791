/-! places that serve; decoding a version -/
theorem cuF_mono {u : Nat → Int32} {a b : Nat} (h : a ≤ b) : cuF u a ≤ cuF u b := by
  induction b with
  | zero => rw [show a = 0 by omega]; exact Nat.le_refl _
  | succ b ih =>
    by_cases h1 : a = b + 1
    · rw [h1]; exact Nat.le_refl _
    · have := ih (by omega)
      rw [show cuF u (b + 1) = if u b = 0 then cuF u b else cuF u b + 1 from rfl]
      split <;> omega
theorem cuF_s {u : Nat → Int32} {i : Nat} (h : ¬ u i = 0) : cuF u (i + 1) = cuF u i + 1 := by rw [cuF, if_neg h]
theorem cuF_z {u : Nat → Int32} {i : Nat} (h : u i = 0) : cuF u (i + 1) = cuF u i := by rw [cuF, if_pos h]
theorem cuF_inj {u : Nat → Int32} {a b : Nat} (ha : ¬ u a = 0) (hb : ¬ u b = 0) (h : cuF u a = cuF u b) : a = b := by
  rcases Nat.lt_trichotomy a b with q | q | q
  · have := cuF_mono (u := u) (show a + 1 ≤ b by omega); rw [cuF_s ha] at this; omega
  · exact q
  · have := cuF_mono (u := u) (show b + 1 ≤ a by omega); rw [cuF_s hb] at this; omega
theorem cuF_ex {u : Nat → Int32} {j : Nat} : ∀ n, j < cuF u n → ∃ s, s < n ∧ ¬ u s = 0 ∧ cuF u s = j := by
  intro n
  induction n with
  | zero => intro h; exact absurd h (by rw [cuF]; omega)
  | succ n ih =>
    intro h
    by_cases hn : u n = 0
    · rw [cuF_z hn] at h
      obtain ⟨s, h1, h2⟩ := ih h
      exact ⟨s, by omega, h2⟩
    · rw [cuF_s hn] at h
      by_cases hj : j = cuF u n
      · exact ⟨n, by omega, hn, hj.symm⟩
      · obtain ⟨s, h1, h2⟩ := ih (by omega)
        exact ⟨s, by omega, h2⟩
def plS (u : Nat → Int32) (j : Nat) : Nat → Nat → Nat
  | s, 0 => s
  | s, n + 1 => if ¬ u s = 0 ∧ cuF u s = j then s else plS u j (s + 1) n
def plF (N : Nat) (u : Nat → Int32) (j : Nat) : Nat := plS u j 0 N
theorem plS_eq {u : Nat → Int32} {s : Nat} (hs : ¬ u s = 0) : ∀ n s0, s0 ≤ s → s < s0 + n → plS u (cuF u s) s0 n = s := by
  intro n
  induction n with
  | zero => intro s0 h1 h2; omega
  | succ n ih =>
    intro s0 h1 h2
    rw [plS]
    by_cases h : ¬ u s0 = 0 ∧ cuF u s0 = cuF u s
    · rw [if_pos h]; exact cuF_inj h.1 hs h.2
    · rw [if_neg h]
      have hne : s0 ≠ s := fun q => h (by rw [q]; exact ⟨hs, rfl⟩)
      exact ih (s0 + 1) (by omega) (by omega)
theorem plF_eq {N : Nat} {u : Nat → Int32} {s : Nat} (h : s < N) (hs : ¬ u s = 0) : plF N u (cuF u s) = s := plS_eq hs N 0 (Nat.zero_le _) (by omega)
theorem plF_ok {N n j : Nat} {u : Nat → Int32} (hn : n ≤ N) (h : j < cuF u n) : plF N u j < n ∧ ¬ u (plF N u j) = 0 ∧ cuF u (plF N u j) = j := by
  obtain ⟨s, h1, h2, h3⟩ := cuF_ex n h
  have e := plF_eq (N := N) (u := u) (s := s) (by omega) h2
  rw [h3] at e
  rw [e]
  exact ⟨h1, h2, h3⟩
theorem stD_congr {K lv j : Nat} {p p' a b : Nat → Int32} (hp : ∀ i, i < K → p i = p' i) (h : ∀ i, i < K → a i = b i) (hj : j < K) : ∀ i, i < K → stD p lv j a i = stD p' lv j b i := by
  intro i hi
  rw [stD, stD]
  by_cases q : i = j
  · subst q; rw [upd_s, upd_s, h i hi, h (i - 1) (by omega), hp i hi, hp (i - lv) (by omega)]
  · rw [upd_n q, upd_n q]; exact h i hi
theorem inD_congr {K lv : Nat} {p p' : Nat → Int32} (hp : ∀ i, i < K → p i = p' i) : ∀ (u : Nat) (a b : Nat → Int32), lv + u ≤ K → (∀ i, i < K → a i = b i) → ∀ i, i < K → inD p lv u a i = inD p' lv u b i := by
  intro u
  induction u with
  | zero => intro a b _ h i hi; exact h i hi
  | succ u ih => intro a b hu h; exact ih _ _ (by omega) (stD_congr hp h (by omega))
theorem ouD_congr {K : Nat} {p p' : Nat → Int32} (hp : ∀ i, i < K → p i = p' i) : ∀ (t lv : Nat) (a b : Nat → Int32), lv + t ≤ K → (∀ i, i < K → a i = b i) → ∀ i, i < K → ouD K p lv t a i = ouD K p' lv t b i := by
  intro t
  induction t with
  | zero => intro lv a b _ h i hi; exact h i hi
  | succ t ih => intro lv a b ht h; exact ih (lv + 1) _ _ (by omega) (inD_congr hp (K - lv) a b (by omega) h)
theorem stC_congr {K b0 j : Nat} {p p' a b : Nat → Int32} (hp : ∀ i, i < K → p i = p' i) (h : ∀ i, i < K → a i = b i) (hb : b0 < K) (hj : j + 1 < K) : ∀ i, i < K → stC p b0 j a i = stC p' b0 j b i := by
  intro i hi
  rw [stC, stC]
  by_cases q : i = j
  · subst q; rw [upd_s, upd_s, h i hi, h (i + 1) hj, hp b0 hb]
  · rw [upd_n q, upd_n q]; exact h i hi
theorem inC_congr {K b0 : Nat} {p p' : Nat → Int32} (hp : ∀ i, i < K → p i = p' i) (hb : b0 < K) : ∀ (u j : Nat) (a b : Nat → Int32), j + u + 1 ≤ K → (∀ i, i < K → a i = b i) → ∀ i, i < K → inC p b0 j u a i = inC p' b0 j u b i := by
  intro u
  induction u with
  | zero => intro j a b _ h i hi; exact h i hi
  | succ u ih => intro j a b hu h; exact ih (j + 1) _ _ (by omega) (stC_congr hp h hb (by omega))
theorem ouC_congr {K : Nat} {p p' : Nat → Int32} (hp : ∀ i, i < K → p i = p' i) : ∀ (t : Nat) (a b : Nat → Int32), t < K → (∀ i, i < K → a i = b i) → ∀ i, i < K → ouC K p t a i = ouC K p' t b i := by
  intro t
  induction t with
  | zero => intro a b _ h i hi; exact h i hi
  | succ t ih => intro a b ht h; exact ih _ _ (by omega) (inC_congr hp (by omega) (K - 1 - t) t a b (by omega) h)
theorem dcS_congr {K : Nat} {p p' a b : Nat → Int32} (hK : 1 ≤ K) (hp : ∀ i, i < K → p i = p' i) (h : ∀ i, i < K → a i = b i) : ∀ i, i < K → dcS K p a i = dcS K p' b i := ouC_congr hp (K - 1) _ _ (by omega) (ouD_congr hp (K - 1) 1 a b (by omega) h)
/-- the same but for what a call may use for itself -/
def kpS (g g' : gT) : Prop := ∀ k f s, k ≠ 7 → k ≠ 8 → k ≠ 9 → k ≠ 10 → k ≠ 11 → g' k f s = g k f s
theorem kpS.rf {g : gT} : kpS g g := fun _ _ _ _ _ _ _ _ => rfl
theorem kpS.tr {g g1 g2 : gT} (h : kpS g g1) (h1 : kpS g1 g2) : kpS g g2 := fun k f s a b c d e => (h1 k f s a b c d e).trans (h k f s a b c d e)
theorem kpS.up {g : gT} {k f s : Nat} {h : Nat → Int32} (hk : 7 ≤ k ∧ k ≤ 11) : kpS g (upS g k f s h) := fun k1 f1 s1 a b c d e => upS_n (by omega)
theorem sdG_sc {N : Nat} {g g' : gT} (h : kpS g g') (f i : Nat) : sdG N g' f i = sdG N g f i := by
  have h' := fun k a b => h k a b
  show sdF N (g' 17 f i) (g' 18 f i) (g' 15 f 0) (g' 16 f 0) (g' 12 f 0 1) i = _
  rw [h 17 f i (by omega) (by omega) (by omega) (by omega) (by omega), h 18 f i (by omega) (by omega) (by omega) (by omega) (by omega), h 15 f 0 (by omega) (by omega) (by omega) (by omega) (by omega), h 16 f 0 (by omega) (by omega) (by omega) (by omega) (by omega), h 12 f 0 (by omega) (by omega) (by omega) (by omega) (by omega)]
theorem swG_sc {N : Nat} {g g' : gT} (h : kpS g g') (f i : Nat) (x : Int32) : swG N g' f i x = swG N g f i x := by
  rw [swG, swG, sdG_sc h, h 17 f i (by omega) (by omega) (by omega) (by omega) (by omega)]
theorem svF_sc {N : Nat} {g g' : gT} (h : kpS g g') (f : Nat) (x : Int32) : svF N g' f x = svF N g f x := by
  funext s
  rw [svF, svF, sdG_sc h, h 17 f s (by omega) (by omega) (by omega) (by omega) (by omega), h 1 0 0 (by omega) (by omega) (by omega) (by omega) (by omega)]
theorem svF_0 {N : Nat} {g : gT} {f s : Nat} {x : Int32} : svF N g f x s = 0 ↔ g 1 0 0 s = 0 ∨ swG N g f s x = 0 := by
  rw [svF, swG]
  by_cases h1 : g 1 0 0 s = 0
  · simp [h1]
  · by_cases h2 : g 17 f s 2 = x
    · by_cases h3 : sdG N g f s = 0
      · simp [h1, h2, h3]
      · simp [h1, h2, h3]
    · simp [h1, h2]
def dcV (K N : Nat) (g : gT) (f : Nat) (x : Int32) (j : Nat) : Int32 := dcS K (fun i => nI (plF N (svF N g f x) i) + 1) (fun i => g 17 f (plF N (svF N g f x) i) 1) j
set_option maxHeartbeats 4000000 in
set_option maxRecDepth 100000 in
theorem c_G_decodeVersion (l : Launch) (D : va_G) (T : Nat → ClassId) (A : Nat → Prop) (M : xM) (ad : Nat → Nat → Nat → Nat) (K N : Nat) (g : gT) (hz : zB K N) (hG : gG T ad K N g M) (f w : Nat) (hf : f < 6) (hw : g 12 f 0 1 = nI w) (hw30 : w ≤ 30) (x : Int32) (hcn : K ≤ cuF (svF N g f x) N) : Met l y_G_decodeVersion (Cond.code y_G_decodeVersion b_G_decodeVersion 5 (some .int) :: gw) (rmH 5) (xPc D T A M [.ref (ad 0 0 0), .ref (ad 12 f 0), .int x]) (xQ D A (fun r M1 => ∃ g', r = some (.int (nI (plF N (svF N g f x) 0))) ∧ gR T ad K N M g' M1 ∧ (∀ k f s, k ≠ 7 → k ≠ 8 → g' k f s = g k f s) ∧ ∀ j, j < K → g' 7 0 0 j = dcV K N g f x j)) 0 0 A := by
  refine xMetQi (by decide) (Nat.le_of_ble_eq_true rfl) ?_
  intro p e s m below meth c Q ls hB hP hS hl hret
  obtain ⟨hx, hb, hml, hown, hg, hK0, hnm⟩ := hB
  have hown : s.vm.findClass "ShareGrid" = some m.cls := hown
  have hK := hK0.1
  have hN := hK0.2.1
  obtain ⟨hz1, hz4, hzn, hz7⟩ := id hz
  have hR := hG.rf
  have hl : lv_has ls 5 [(0, .ref (ad 0 0 0)), (1, .ref (ad 12 f 0)), (2, .int x)] := hl
  refine lv_iconst (v := nI 0) hx hb d_G_decodeVersion_0 (by decide) ?_
  refine lv_istore_n (lv' := [(3, .int (nI 0)), (0, .ref (ad 0 0 0)), (1, .ref (ad 12 f 0)), (2, .int x)]) hx hb d_G_decodeVersion_1 rfl hl (by decide) rfl (fun ls hl => ?_)
  refine lv_iconst (v := nI 0) hx hb d_G_decodeVersion_2 (by decide) ?_
  refine lv_istore (lv' := [(4, .int (nI 0)), (3, .int (nI 0)), (0, .ref (ad 0 0 0)), (1, .ref (ad 12 f 0)), (2, .int x)]) hx hb d_G_decodeVersion_3 hl (by decide) rfl (fun ls hl => ?_)
  have loop : ∀ (n : Nat) (i : Nat) (gx : gT), N + 1 ≤ i + n → i ≤ N → cuF (svF N g f x) i ≤ K → (∀ k f s, k ≠ 7 → k ≠ 8 → gx k f s = g k f s) → (∀ s, s < i → ¬ svF N g f x s = 0 → gx 8 0 0 (cuF (svF N g f x) s) = nI s + 1 ∧ gx 7 0 0 (cuF (svF N g f x) s) = g 17 f s 1) → ∀ (Mx : xM) (Hx : Heap) (Lx : List Loc), xW D classes A Mx Hx → va_S A s.heap Hx Lx → gR T ad K N M gx Mx → ∀ (ls : Array Slot), lv_has ls 5 [(0, .ref (ad 0 0 0)), (1, .ref (ad 12 f 0)), (2, .int x), (3, .int (nI (cuF (svF N g f x) i))), (4, .int (nI i))] → W p l e (rmH 5) s m [.ref (ad 0 0 0), .ref (ad 12 f 0), .int x].toArray below meth c Hx Lx 0 0 Q (F0 m 5 ls []) := by
    intro n
    induction n with
    | zero =>
      intro i gx h2 h1 h3 r1 r2
      exact absurd h2 (by omega)
    | succ n ih =>
      intro i gx h2 h1 h3 r1 r2 Mx Hx Lx hP hS hR ls hl
      have hG := hR.1
      have hsc : kpS g gx := fun k f s a b _ _ _ => r1 k f s a b
      refine lv_iload hx hb d_G_decodeVersion_5 (lv_at hl 4 rfl) ?_
      refine lv_aload_n hx hb d_G_decodeVersion_7 rfl (lv_at hl 0 rfl) ?_
      refine x_get (v := .int (nI N)) (C := R_G) (T := F_G) (N := 12) hx hb hg i_G hown hK hP (ga_0 hG) rfl 1 (by decide) (hg _ w_111) (fun _ h9 => h9) rfl d_G_decodeVersion_8 ?_
      refine x_nc_ge (tgt := 84) hx hb d_G_decodeVersion_11 (by decide) (by omega) (by omega) (fun c1 => ?_) (fun c1 => ?_)
      · have hiK : cuF (svF N g f x) i = K := by rw [show i = N by omega] at h3 ⊢; omega
        refine lv_aload_n hx hb d_G_decodeVersion_84 rfl (lv_at hl 0 rfl) ?_
        refine x_get (v := .ref (ad 6 0 0)) (C := R_G) (T := F_G) (N := 12) hx hb hg i_G hown hK hP (ga_0 hG) rfl 7 (by decide) (hg _ w_117) (fun _ h9 => h9) rfl d_G_decodeVersion_85 ?_
        refine xvn_Q (n := 0) (As := []) (rest := []) hx hb hml hown hg hK0 hP hN (c_C_decodeShares l D T A _ ad K N gx hz hG) w_265 w_5 e_262 w_264 s_14 (ga_6 hG) rfl rfl (by decide +kernel) ⟨Nat.le_of_ble_eq_true rfl, Nat.le_of_ble_eq_true rfl⟩ rfl hl.1 rfl (Nat.le_of_ble_eq_true rfl) hS ⟨Nat.zero_le _, Nat.zero_le _⟩ rfl rfl d_G_decodeVersion_88 (fun r M1 H_133 L_134 hr hP hS => ?_)
        obtain ⟨rfl, hR1⟩ := hr
        obtain ⟨g_135, hg_135⟩ : ∃ z, z = upS gx 7 0 0 (dcS K (gx 8 0 0) (gx 7 0 0)) := ⟨_, rfl⟩
        rw [← hg_135] at hR1
        have hR := hR.tr hR1
        have hG := hR.1
        refine x_fr (pc := 91) [] rfl rfl ?_
        refine lv_aload_n hx hb d_G_decodeVersion_91 rfl (lv_at hl 0 rfl) ?_
        refine x_get (v := .ref (ad 6 0 0)) (C := R_G) (T := F_G) (N := 12) hx hb hg i_G hown hK hP (ga_0 hG) rfl 7 (by decide) (hg _ w_117) (fun _ h9 => h9) rfl d_G_decodeVersion_92 ?_
        refine x_getN (v := .ref (ad 8 0 0)) (C := R_C) (T := F_C) (N := 3) hx hb hg i_C hown hK hP (ga_6 hG) rfl 2 (by decide) (va_Nw.use rfl (hN _ e_100)) (fun _ h9 => h9) rfl d_G_decodeVersion_95 ?_
        refine lv_iconst (v := nI 0) hx hb d_G_decodeVersion_98 (by decide) ?_
        have hpl : ∀ j, j < K → gx 8 0 0 j = nI (plF N (svF N g f x) j) + 1 ∧ gx 7 0 0 j = g 17 f (plF N (svF N g f x) j) 1 := by
          intro j hj
          obtain ⟨p1, p2, p3⟩ := plF_ok (N := N) (n := i) (j := j) (u := svF N g f x) h1 (by omega)
          have := r2 _ p1 p2
          rw [p3] at this
          exact this
        refine x_iald (v := g_135 8 0 0 0) hx hb hK hP 0 (ga_8 hG) rfl (vp_in_nI (by omega) (by omega)) (by rw [nI_clamp (by omega)]) d_G_decodeVersion_99 ?_
        refine xs_R (n := 1) (As := [.int (g_135 8 0 0 0)]) (rest := []) hx hb hml hown hg hK0 hP (c_G_placeOf l D T A _ (g_135 8 0 0 0)) w_280 w_1 w_278 w_279 (by decide +kernel) ⟨Nat.le_of_ble_eq_true rfl, Nat.le_of_ble_eq_true rfl⟩ rfl hl.1 rfl (Nat.le_of_ble_eq_true rfl) ⟨Nat.zero_le _, Nat.zero_le _⟩ rfl rfl d_G_decodeVersion_100 (fun r hr => ?_)
        subst hr
        refine x_fr (pc := 103) [.int ((g_135 8 0 0 0) - 1)] rfl rfl ?_
        refine hret _ _ _ _ _ _ d_G_decodeVersion_103 hP hS ⟨g_135, ?_, hR, ?_, ?_⟩
        · have e0 : g_135 8 0 0 0 = nI (plF N (svF N g f x) 0) + 1 := by rw [hg_135, upS_n (by omega)]; exact (hpl 0 (by omega)).1
          rw [e0, Int32.add_sub_cancel]
        · intro k f s q1 q2; rw [hg_135, upS_n (by omega)]; exact r1 k f s q1 q2
        · intro j hj; rw [hg_135, upS_s]; exact dcS_congr hz1 (fun i hi => (hpl i hi).1) (fun i hi => (hpl i hi).2) j hj
      · refine lv_iload_n hx hb d_G_decodeVersion_14 rfl (lv_at hl 3 rfl) ?_
        refine lv_aload_n hx hb d_G_decodeVersion_15 rfl (lv_at hl 0 rfl) ?_
        refine x_get (v := .int (nI K)) (C := R_G) (T := F_G) (N := 12) hx hb hg i_G hown hK hP (ga_0 hG) rfl 0 (by decide) (hg _ w_110) (fun _ h9 => h9) rfl d_G_decodeVersion_16 ?_
        refine x_nc_ge (tgt := 84) hx hb d_G_decodeVersion_19 (by decide) (by omega) (by omega) (fun c2 => ?_) (fun c2 => ?_)
        · have hiK : cuF (svF N g f x) i = K := by omega
          refine lv_aload_n hx hb d_G_decodeVersion_84 rfl (lv_at hl 0 rfl) ?_
          refine x_get (v := .ref (ad 6 0 0)) (C := R_G) (T := F_G) (N := 12) hx hb hg i_G hown hK hP (ga_0 hG) rfl 7 (by decide) (hg _ w_117) (fun _ h9 => h9) rfl d_G_decodeVersion_85 ?_
          refine xvn_Q (n := 0) (As := []) (rest := []) hx hb hml hown hg hK0 hP hN (c_C_decodeShares l D T A _ ad K N gx hz hG) w_265 w_5 e_262 w_264 s_14 (ga_6 hG) rfl rfl (by decide +kernel) ⟨Nat.le_of_ble_eq_true rfl, Nat.le_of_ble_eq_true rfl⟩ rfl hl.1 rfl (Nat.le_of_ble_eq_true rfl) hS ⟨Nat.zero_le _, Nat.zero_le _⟩ rfl rfl d_G_decodeVersion_88 (fun r M1 H_136 L_137 hr hP hS => ?_)
          obtain ⟨rfl, hR1⟩ := hr
          obtain ⟨g_138, hg_138⟩ : ∃ z, z = upS gx 7 0 0 (dcS K (gx 8 0 0) (gx 7 0 0)) := ⟨_, rfl⟩
          rw [← hg_138] at hR1
          have hR := hR.tr hR1
          have hG := hR.1
          refine x_fr (pc := 91) [] rfl rfl ?_
          refine lv_aload_n hx hb d_G_decodeVersion_91 rfl (lv_at hl 0 rfl) ?_
          refine x_get (v := .ref (ad 6 0 0)) (C := R_G) (T := F_G) (N := 12) hx hb hg i_G hown hK hP (ga_0 hG) rfl 7 (by decide) (hg _ w_117) (fun _ h9 => h9) rfl d_G_decodeVersion_92 ?_
          refine x_getN (v := .ref (ad 8 0 0)) (C := R_C) (T := F_C) (N := 3) hx hb hg i_C hown hK hP (ga_6 hG) rfl 2 (by decide) (va_Nw.use rfl (hN _ e_100)) (fun _ h9 => h9) rfl d_G_decodeVersion_95 ?_
          refine lv_iconst (v := nI 0) hx hb d_G_decodeVersion_98 (by decide) ?_
          have hpl : ∀ j, j < K → gx 8 0 0 j = nI (plF N (svF N g f x) j) + 1 ∧ gx 7 0 0 j = g 17 f (plF N (svF N g f x) j) 1 := by
            intro j hj
            obtain ⟨p1, p2, p3⟩ := plF_ok (N := N) (n := i) (j := j) (u := svF N g f x) h1 (by omega)
            have := r2 _ p1 p2
            rw [p3] at this
            exact this
          refine x_iald (v := g_138 8 0 0 0) hx hb hK hP 0 (ga_8 hG) rfl (vp_in_nI (by omega) (by omega)) (by rw [nI_clamp (by omega)]) d_G_decodeVersion_99 ?_
          refine xs_R (n := 1) (As := [.int (g_138 8 0 0 0)]) (rest := []) hx hb hml hown hg hK0 hP (c_G_placeOf l D T A _ (g_138 8 0 0 0)) w_280 w_1 w_278 w_279 (by decide +kernel) ⟨Nat.le_of_ble_eq_true rfl, Nat.le_of_ble_eq_true rfl⟩ rfl hl.1 rfl (Nat.le_of_ble_eq_true rfl) ⟨Nat.zero_le _, Nat.zero_le _⟩ rfl rfl d_G_decodeVersion_100 (fun r hr => ?_)
          subst hr
          refine x_fr (pc := 103) [.int ((g_138 8 0 0 0) - 1)] rfl rfl ?_
          refine hret _ _ _ _ _ _ d_G_decodeVersion_103 hP hS ⟨g_138, ?_, hR, ?_, ?_⟩
          · have e0 : g_138 8 0 0 0 = nI (plF N (svF N g f x) 0) + 1 := by rw [hg_138, upS_n (by omega)]; exact (hpl 0 (by omega)).1
            rw [e0, Int32.add_sub_cancel]
          · intro k f s q1 q2; rw [hg_138, upS_n (by omega)]; exact r1 k f s q1 q2
          · intro j hj; rw [hg_138, upS_s]; exact dcS_congr hz1 (fun i hi => (hpl i hi).1) (fun i hi => (hpl i hi).2) j hj
        · refine lv_aload_n hx hb d_G_decodeVersion_22 rfl (lv_at hl 0 rfl) ?_
          refine x_get (v := .ref (ad 1 0 0)) (C := R_G) (T := F_G) (N := 12) hx hb hg i_G hown hK hP (ga_0 hG) rfl 2 (by decide) (hg _ w_112) (fun _ h9 => h9) rfl d_G_decodeVersion_23 ?_
          refine lv_iload hx hb d_G_decodeVersion_26 (lv_at hl 4 rfl) ?_
          refine x_zald (v := gx 1 0 0 i) hx hb hK hP 1 (ga_1 hG) rfl (vp_in_nI (by omega) (by omega)) (by rw [nI_clamp (by omega)]) d_G_decodeVersion_28 ?_
          refine lv_if_eq (tgt := 78) hx hb d_G_decodeVersion_29 (by decide) (fun c3 => ?_) (fun c3 => ?_)
          · have hz0 : svF N g f x i = 0 := svF_0.mpr (Or.inl (by rw [← r1 1 0 0 (by omega) (by omega)]; exact c3))
            have ecu := cuF_z hz0
            refine lv_iinc (v := nI (i + 1)) (lv' := [(4, .int (nI (i + 1))), (0, .ref (ad 0 0 0)), (1, .ref (ad 12 f 0)), (2, .int x), (3, .int (nI (cuF (svF N g f x) i)))]) hx hb d_G_decodeVersion_78 hl (k := 4) rfl (nI_1 _) (by decide) rfl (fun ls hl => ?_)
            refine lv_goto (tgt := 5) hx hb d_G_decodeVersion_81 (by decide) ?_
            exact ih (i + 1) gx (by omega) (by omega) (by rw [ecu]; exact h3) r1 (fun s hs ht => (Nat.lt_succ_iff_lt_or_eq.mp hs).elim (fun z => r2 s z ht) (fun z => absurd (by rw [z]; exact hz0) ht)) _ _ _ hP hS hR ls (by rw [ecu]; exact (lv_sub hl [1, 2, 3, 4, 0] rfl))
          · refine lv_aload_n hx hb d_G_decodeVersion_32 rfl (lv_at hl 1 rfl) ?_
            refine lv_iload hx hb d_G_decodeVersion_33 (lv_at hl 4 rfl) ?_
            refine lv_iload_n hx hb d_G_decodeVersion_35 rfl (lv_at hl 2 rfl) ?_
            refine xvn_R (n := 2) (As := [.int (nI i), .int x]) (rest := []) hx hb hml hown hg hK0 hP hN (c_F_isSoundWith l D T A _ ad K N gx hz hG f i w (by omega) (by omega) (by rw [r1 12 f 0 (by omega) (by omega)]; exact hw) hw30 x) w_259 w_3 e_256 w_258 s_13 (ga_12 hG (show f < 6 by omega)) rfl rfl (by decide +kernel) ⟨Nat.le_of_ble_eq_true rfl, Nat.le_of_ble_eq_true rfl⟩ rfl hl.1 rfl (Nat.le_of_ble_eq_true rfl) ⟨Nat.zero_le _, Nat.zero_le _⟩ rfl rfl d_G_decodeVersion_36 (fun r hr => ?_)
            subst hr
            refine x_fr (pc := 39) [.int (swG N gx f i x)] rfl rfl ?_
            refine lv_if_eq (tgt := 78) hx hb d_G_decodeVersion_39 (by decide) (fun c4 => ?_) (fun c4 => ?_)
            · have hz0 : svF N g f x i = 0 := svF_0.mpr (Or.inr (by rw [← swG_sc hsc]; exact c4))
              have ecu := cuF_z hz0
              refine lv_iinc (v := nI (i + 1)) (lv' := [(4, .int (nI (i + 1))), (0, .ref (ad 0 0 0)), (1, .ref (ad 12 f 0)), (2, .int x), (3, .int (nI (cuF (svF N g f x) i)))]) hx hb d_G_decodeVersion_78 hl (k := 4) rfl (nI_1 _) (by decide) rfl (fun ls hl => ?_)
              refine lv_goto (tgt := 5) hx hb d_G_decodeVersion_81 (by decide) ?_
              exact ih (i + 1) gx (by omega) (by omega) (by rw [ecu]; exact h3) r1 (fun s hs ht => (Nat.lt_succ_iff_lt_or_eq.mp hs).elim (fun z => r2 s z ht) (fun z => absurd (by rw [z]; exact hz0) ht)) _ _ _ hP hS hR ls (by rw [ecu]; exact (lv_sub hl [1, 2, 3, 4, 0] rfl))
            · have hz0 : ¬ svF N g f x i = 0 := fun z => (svF_0.mp z).elim (fun z => c3 (by rw [r1 1 0 0 (by omega) (by omega)]; exact z)) (fun z => c4 (by rw [swG_sc hsc]; exact z))
              have ecu := cuF_s hz0
              refine lv_aload_n hx hb d_G_decodeVersion_42 rfl (lv_at hl 0 rfl) ?_
              refine x_get (v := .ref (ad 6 0 0)) (C := R_G) (T := F_G) (N := 12) hx hb hg i_G hown hK hP (ga_0 hG) rfl 7 (by decide) (hg _ w_117) (fun _ h9 => h9) rfl d_G_decodeVersion_43 ?_
              refine x_getN (v := .ref (ad 8 0 0)) (C := R_C) (T := F_C) (N := 3) hx hb hg i_C hown hK hP (ga_6 hG) rfl 2 (by decide) (va_Nw.use rfl (hN _ e_100)) (fun _ h9 => h9) rfl d_G_decodeVersion_46 ?_
              refine lv_iload_n hx hb d_G_decodeVersion_49 rfl (lv_at hl 3 rfl) ?_
              refine lv_iload hx hb d_G_decodeVersion_50 (lv_at hl 4 rfl) ?_
              refine xs_R (n := 1) (As := [.int (nI i)]) (rest := [.int (nI (cuF (svF N g f x) i)), .ref (ad 8 0 0)]) hx hb hml hown hg hK0 hP (c_G_pointOf l D T A _ (nI i)) w_199 w_1 w_261 w_198 (by decide +kernel) ⟨Nat.le_of_ble_eq_true rfl, Nat.le_of_ble_eq_true rfl⟩ rfl hl.1 rfl (Nat.le_of_ble_eq_true rfl) ⟨Nat.zero_le _, Nat.zero_le _⟩ rfl rfl d_G_decodeVersion_52 (fun r hr => ?_)
              subst hr
              refine x_fr (pc := 55) [.int ((nI i) + 1), .int (nI (cuF (svF N g f x) i)), .ref (ad 8 0 0)] rfl rfl ?_
              refine x_iast hx hb hK hP hS 0 (ga_8 hG) rfl (vp_in_nI (by omega) (by omega)) d_G_decodeVersion_55 (fun H_139 L_140 hP hS => ?_)
              rw [nI_clamp (by omega)] at hP
              obtain ⟨g_141, hg_141⟩ : ∃ z, z = upS gx 8 0 0 (upd (gx 8 0 0) (cuF (svF N g f x) i) ((nI i) + 1)) := ⟨_, rfl⟩
              obtain ⟨M_142, hP, hR⟩ : ∃ z, xW D classes A z H_139 ∧ gR T ad K N M g_141 z := ⟨_, hP, by rw [hg_141]; exact hR.set (Or.inl ⟨by omega, rfl, rfl⟩) rfl⟩
              have hG := hR.1
              refine lv_aload_n hx hb d_G_decodeVersion_56 rfl (lv_at hl 0 rfl) ?_
              refine x_get (v := .ref (ad 6 0 0)) (C := R_G) (T := F_G) (N := 12) hx hb hg i_G hown hK hP (ga_0 hG) rfl 7 (by decide) (hg _ w_117) (fun _ h9 => h9) rfl d_G_decodeVersion_57 ?_
              refine x_getN (v := .ref (ad 7 0 0)) (C := R_C) (T := F_C) (N := 3) hx hb hg i_C hown hK hP (ga_6 hG) rfl 1 (by decide) (va_Nw.use rfl (hN _ e_98)) (fun _ h9 => h9) rfl d_G_decodeVersion_60 ?_
              refine lv_iload_n hx hb d_G_decodeVersion_63 rfl (lv_at hl 3 rfl) ?_
              refine lv_aload_n hx hb d_G_decodeVersion_64 rfl (lv_at hl 1 rfl) ?_
              refine x_getN (v := .ref (ad 13 f 0)) (C := R_F) (T := F_F) (N := 6) hx hb hg i_F hown hK hP (ga_12 hG (show f < 6 by omega)) rfl 0 (by decide) (va_Nw.use rfl (hN _ e_69)) (fun _ h9 => h9) rfl d_G_decodeVersion_65 ?_
              refine lv_iload hx hb d_G_decodeVersion_68 (lv_at hl 4 rfl) ?_
              refine x_aldq (v := .ref (ad 17 f i)) hx hb hK hP 2 (ga_13 hG (show f < 6 by omega)) rfl (vp_in_nI (by omega) (by omega)) (by rw [nI_clamp (by omega)]; rfl) d_G_decodeVersion_70 ?_
              refine x_getN (v := .int (g_141 17 f i 1)) (C := R_R) (T := F_R) (N := 5) hx hb hg i_R hown hK hP (ga_17 hG (show f < 6 by omega) (show i < N by omega)) rfl 2 (by decide) (va_Nw.use rfl (hN _ e_48)) (fun _ h9 => h9) rfl d_G_decodeVersion_71 ?_
              refine x_iast hx hb hK hP hS 0 (ga_7 hG) rfl (vp_in_nI (by omega) (by omega)) d_G_decodeVersion_74 (fun H_143 L_144 hP hS => ?_)
              rw [nI_clamp (by omega)] at hP
              obtain ⟨g_145, hg_145⟩ : ∃ z, z = upS g_141 7 0 0 (upd (g_141 7 0 0) (cuF (svF N g f x) i) (g_141 17 f i 1)) := ⟨_, rfl⟩
              obtain ⟨M_146, hP, hR⟩ : ∃ z, xW D classes A z H_143 ∧ gR T ad K N M g_145 z := ⟨_, hP, by rw [hg_145]; exact hR.set (Or.inl ⟨by omega, rfl, rfl⟩) rfl⟩
              have hG := hR.1
              have ra : ∀ k f s, k ≠ 7 → k ≠ 8 → g_145 k f s = g k f s := fun k f s q1 q2 => by rw [hg_145, upS_n (by omega), hg_141, upS_n (by omega)]; exact r1 k f s q1 q2
              have rb : ∀ s, s < i + 1 → ¬ svF N g f x s = 0 → g_145 8 0 0 (cuF (svF N g f x) s) = nI s + 1 ∧ g_145 7 0 0 (cuF (svF N g f x) s) = g 17 f s 1 := by
                intro s hs ht
                have e8 : g_145 8 0 0 = g_141 8 0 0 := by rw [hg_145, upS_n (by omega)]
                have e7 : g_141 7 0 0 = gx 7 0 0 := by rw [hg_141, upS_n (by omega)]
                rw [e8]
                rcases Nat.lt_succ_iff_lt_or_eq.mp hs with z | z
                · have hlt : cuF (svF N g f x) s ≠ cuF (svF N g f x) i := fun q => by have := cuF_inj ht hz0 q; omega
                  refine ⟨?_, ?_⟩
                  · rw [hg_141, upS_s, upd_n hlt]; exact (r2 s z ht).1
                  · rw [hg_145, upS_s, upd_n hlt, e7]; exact (r2 s z ht).2
                · subst z
                  refine ⟨?_, ?_⟩
                  · rw [hg_141, upS_s, upd_s]
                  · rw [hg_145, upS_s, upd_s, hg_141, upS_n (by omega), r1 17 f s (by omega) (by omega)]
              refine lv_iinc (v := nI ((cuF (svF N g f x) i) + 1)) (lv' := [(3, .int (nI ((cuF (svF N g f x) i) + 1))), (0, .ref (ad 0 0 0)), (1, .ref (ad 12 f 0)), (2, .int x), (4, .int (nI i))]) hx hb d_G_decodeVersion_75 hl (k := 3) rfl (nI_1 _) (by decide) rfl (fun ls hl => ?_)
              refine lv_iinc (v := nI (i + 1)) (lv' := [(4, .int (nI (i + 1))), (3, .int (nI ((cuF (svF N g f x) i) + 1))), (0, .ref (ad 0 0 0)), (1, .ref (ad 12 f 0)), (2, .int x)]) hx hb d_G_decodeVersion_78 hl (k := 4) rfl (nI_1 _) (by decide) rfl (fun ls hl => ?_)
              refine lv_goto (tgt := 5) hx hb d_G_decodeVersion_81 (by decide) ?_
              exact ih (i + 1) g_145 (by omega) (by omega) (by rw [ecu]; omega) ra rb _ _ _ hP hS hR ls (by rw [ecu]; exact (lv_sub hl [2, 3, 4, 1, 0] rfl))
  exact loop (N + 1) 0 g (by omega) (by omega) (Nat.zero_le _) (fun _ _ _ _ _ => rfl) (fun s hs => absurd hs (by omega)) _ _ _ hP hS hR ls (lv_sub hl [2, 3, 4, 1, 0] rfl)
