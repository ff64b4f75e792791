/-! read and repair -/
theorem bdF_le (cn : Nat → Nat) (K : Nat) : ∀ w, bdF cn K w ≤ w := by
  intro w
  induction w with
  | zero => exact Nat.le_refl _
  | succ w ih => rw [bdF]; split <;> omega
theorem bdF_pos {cn : Nat → Nat} {K : Nat} : ∀ w, bdF cn K w ≠ 0 → K ≤ cn (bdF cn K w) := by
  intro w
  induction w with
  | zero => intro h; exact absurd rfl h
  | succ w ih =>
    intro h
    rw [bdF] at h ⊢
    by_cases q : K ≤ cn (w + 1)
    · rw [if_pos q]; exact q
    · rw [if_neg q] at h ⊢; exact ih h
theorem beF_le {K N : Nat} {g : gT} {f w : Nat} (hw : g 12 f 0 1 = nI w) (h30 : w ≤ 30) : beF K N g f ≤ 30 := by
  have := bdF_le (fun j => cuF (svF N g f (nI j)) N) K (g 12 f 0 1).toNatClampNeg
  rw [beF]
  rw [hw, nI_clamp (by omega)] at this ⊢
  omega
theorem beF_pos {K N : Nat} {g : gT} {f : Nat} (h : beF K N g f ≠ 0) : K ≤ cuF (svF N g f (nI (beF K N g f))) N := bdF_pos _ h
def aRead (K N : Nat) (g : gT) (q : Nat) (x : Int32) : Int32 := if 0 ≤ fuF g q (mixF x 2) then (if beF K N g (fuF g q (mixF x 2)).toNatClampNeg = 0 then -3 else nI (beF K N g (fuF g q (mixF x 2)).toNatClampNeg)) else -1
def okR (K N : Nat) (g : gT) (q : Nat) (v : Int32) : Prop := 0 ≤ fuF g q v ∧ beF K N g (fuF g q v).toNatClampNeg ≠ 0
def rdR (K N : Nat) (g g' : gT) (f : Nat) (x : Int32) : Prop := (∀ k f1 s, k ≠ 0 → k ≠ 5 → k ≠ 7 → k ≠ 8 → k ≠ 9 → k ≠ 10 → k ≠ 11 → g' k f1 s = g k f1 s) ∧ g' 0 0 0 0 = g 0 0 0 0 ∧ g' 0 0 0 1 = 1 ∧ ∀ j, j < K → g' 5 0 0 j = dcV K N g f (nI (beF K N g f)) j ^^^ mixF x (nI (beF K N g f) * 8 + nI j)
def stR (K N : Nat) (g g' : gT) (q : Nat) (x : Int32) : Prop := (okR K N g q (mixF x 2) → rdR K N g g' (fuF g q (mixF x 2)).toNatClampNeg x) ∧ (¬ okR K N g q (mixF x 2) → kpS g g')
def aRepair (K N : Nat) (g : gT) (q : Nat) (x : Int32) (cn : Nat) : Int32 := if 0 ≤ fuF g q x then (if beF K N g (fuF g q x).toNatClampNeg = 0 then -3 else nI cn) else -1
def rpV (N : Nat) (g : gT) (f : Nat) (nu : Int32) (s : Nat) : Int32 := if tkV g s = 0 then 0 else if swG N g f s nu = 0 then 1 else 0
def rpR (K N : Nat) (g g' : gT) (f : Nat) (nu : Int32) : Prop :=
  (∀ k f1 s, k ≠ 7 → k ≠ 8 → k ≠ 9 → k ≠ 10 → k ≠ 11 → k ≠ 17 → k ≠ 18 → g' k f1 s = g k f1 s) ∧
  (∀ f1 s, (f1 ≠ f ∨ rpV N g f nu s = 0) → g' 17 f1 s = g 17 f1 s ∧ g' 18 f1 s = g 18 f1 s) ∧
  ∀ s, s < N → ¬ rpV N g f nu s = 0 → g' 17 f s 0 = g 17 f (plF N (svF N g f nu) 0) 0 ∧ g' 17 f s 1 = shG (dcV K N g f nu) (nI s + 1) 0 K ∧ g' 17 f s 2 = g 17 f (plF N (svF N g f nu) 0) 2 ∧ g' 17 f s 3 = g 17 f (plF N (svF N g f nu) 0) 3 ∧ g' 18 f s = g 18 f (plF N (svF N g f nu) 0)
def stP (K N : Nat) (g g' : gT) (q : Nat) (x : Int32) : Prop := (okR K N g q x → rpR K N g g' (fuF g q x).toNatClampNeg (nI (beF K N g (fuF g q x).toNatClampNeg))) ∧ (¬ okR K N g q x → kpS g g')
/-- repair on its way -/
def rpI (K N : Nat) (g gy : gT) (f : Nat) (nu : Int32) (i : Nat) : Prop :=
  (∀ k f1 s, k ≠ 7 → k ≠ 8 → k ≠ 9 → k ≠ 10 → k ≠ 11 → k ≠ 17 → k ≠ 18 → gy k f1 s = g k f1 s) ∧ (∀ j, j < K → gy 7 0 0 j = dcV K N g f nu j) ∧
  gy 9 0 0 0 = g 17 f (plF N (svF N g f nu) 0) 0 ∧ gy 9 0 0 2 = g 17 f (plF N (svF N g f nu) 0) 2 ∧ gy 9 0 0 3 = g 17 f (plF N (svF N g f nu) 0) 3 ∧ gy 10 0 0 = g 18 f (plF N (svF N g f nu) 0) ∧
  (∀ f1 s, (f1 ≠ f ∨ i ≤ s ∨ rpV N g f nu s = 0) → gy 17 f1 s = g 17 f1 s ∧ gy 18 f1 s = g 18 f1 s) ∧
  ∀ s, s < i → ¬ rpV N g f nu s = 0 → gy 17 f s 0 = g 17 f (plF N (svF N g f nu) 0) 0 ∧ gy 17 f s 1 = shG (dcV K N g f nu) (nI s + 1) 0 K ∧ gy 17 f s 2 = g 17 f (plF N (svF N g f nu) 0) 2 ∧ gy 17 f s 3 = g 17 f (plF N (svF N g f nu) 0) 3 ∧ gy 18 f s = g 18 f (plF N (svF N g f nu) 0)
theorem rpI_step {K N : Nat} {g gy : gT} {f : Nat} {nu : Int32} {i : Nat} (ht : ¬ rpV N g f nu i = 0) (h : rpI K N g gy f nu i) : rpI K N g (gvS K gy f i) f nu (i + 1) := by
  obtain ⟨a1, a7, b0, b2, b3, b10, a6, a8⟩ := h
  have esh : shG (gy 7 0 0) (nI i + 1) 0 K = shG (dcV K N g f nu) (nI i + 1) 0 K := shG_congr0 a7
  refine ⟨fun k f' s q1 q2 q3 q4 q5 q6 q7 => ?_, fun j hj => ?_, ?_, ?_, ?_, ?_, fun f' s q => ?_, fun s q1 q2 => ?_⟩
  · rw [gvS, cpS, upS_n (by omega), upS_n (by omega), upS_n (by omega)]; exact a1 k f' s q1 q2 q3 q4 q5 q6 q7
  · rw [gvS, cpS, upS_n (by omega), upS_n (by omega), upS_n (by omega)]; exact a7 j hj
  · rw [gvS, cpS, upS_n (by omega), upS_n (by omega), upS_s]; exact b0
  · rw [gvS, cpS, upS_n (by omega), upS_n (by omega), upS_s]; exact b2
  · rw [gvS, cpS, upS_n (by omega), upS_n (by omega), upS_s]; exact b3
  · rw [gvS, cpS, upS_n (by omega), upS_n (by omega), upS_n (by omega)]; exact b10
  · by_cases hk : f' = f ∧ s = i
    · obtain ⟨rfl, rfl⟩ := hk
      rcases q with q | q | q
      · exact absurd rfl q
      · omega
      · exact absurd q ht
    · have z := a6 f' s (q.elim Or.inl fun q => q.elim (fun q => Or.inr (Or.inl (by omega))) fun q => Or.inr (Or.inr q))
      rw [gvS, cpS]
      refine ⟨?_, ?_⟩
      · rw [upS_n (by omega), upS_n (by omega), upS_n (by omega)]; exact z.1
      · rw [upS_n (by omega), upS_n (by omega), upS_n (by omega)]; exact z.2
  · by_cases hk : s = i
    · subst hk
      rw [gvS, cpS]
      refine ⟨?_, ?_, ?_, ?_, ?_⟩
      · rw [upS_n (by omega), upS_s, upS_s]; exact b0
      · rw [upS_n (by omega), upS_s, upS_s, upd_s]; exact esh
      · rw [upS_n (by omega), upS_s, upS_s]; exact b2
      · rw [upS_n (by omega), upS_s, upS_s]; exact b3
      · rw [upS_s, upS_n (by omega)]; exact b10
    · obtain ⟨e1, e2, e3, e4, e5⟩ := a8 s (by omega) q2
      rw [gvS, cpS]
      refine ⟨?_, ?_, ?_, ?_, ?_⟩
      · rw [upS_n (by omega), upS_n (by omega), upS_n (by omega)]; exact e1
      · rw [upS_n (by omega), upS_n (by omega), upS_n (by omega)]; exact e2
      · rw [upS_n (by omega), upS_n (by omega), upS_n (by omega)]; exact e3
      · rw [upS_n (by omega), upS_n (by omega), upS_n (by omega)]; exact e4
      · rw [upS_n (by omega), upS_n (by omega), upS_n (by omega)]; exact e5
theorem nI_nz {n : Nat} (h : ¬ nI n = 0) : n ≠ 0 := fun q => h (by rw [q]; rfl)
theorem nI_z {n : Nat} (hn : n < 2 ^ 31) (h : nI n = 0) : n = 0 := (nI_eq hn (by decide)).mp (h.trans nI_0.symm)
set_option maxHeartbeats 4000000 in
set_option maxRecDepth 100000 in
theorem c_G_read (l : Launch) (D : va_G) (T : Nat → ClassId) (A : Nat → Prop) (M : xM) (ad : Nat → Nat → Nat → Nat) (K N : Nat) (g : gT) (hz : zB K N) (hG : gG T ad K N g M) (q : Nat) (w : Nat → Nat) (hI : iG N g q w) (x : Int32) : Met l y_G_read (Cond.code y_G_read b_G_read 5 (some .int) :: gw) (rmH 6) (xPc D T A M [.ref (ad 0 0 0), .int x]) (xQ D A (fun r M1 => ∃ g', r = some (.int (aRead K N g q x)) ∧ gR T ad K N M g' M1 ∧ stR K N g g' q x)) 0 0 A := by
  refine xMetQi (by decide) (Nat.le_of_ble_eq_true rfl) ?_
  intro p e s m below meth c Q ls hB hP hS hl hret
  obtain ⟨hx, hb, hml, hown, hg, hK0, hnm⟩ := hB
  have hown : s.vm.findClass "ShareGrid" = some m.cls := hown
  have hK := hK0.1
  have hN := hK0.2.1
  obtain ⟨hz1, hz4, hzn, hz7⟩ := id hz
  have hR := hG.rf
  obtain ⟨hq, hq6, hwr, hbo⟩ := id hI
  have hl : lv_has ls 5 [(0, .ref (ad 0 0 0)), (1, .int x)] := hl
  refine lv_aload_n hx hb d_G_read_0 rfl (lv_at hl 0 rfl) ?_
  refine lv_iload_n hx hb d_G_read_1 rfl (lv_at hl 1 rfl) ?_
  refine xs_R (n := 1) (As := [.int x]) (rest := [.ref (ad 0 0 0)]) hx hb hml hown hg hK0 hP (c_G_verifyKeyOf l D T A _ x) w_161 w_1 w_159 w_160 (by decide +kernel) ⟨Nat.le_of_ble_eq_true rfl, Nat.le_of_ble_eq_true rfl⟩ rfl hl.1 rfl (Nat.le_of_ble_eq_true rfl) ⟨Nat.zero_le _, Nat.zero_le _⟩ rfl rfl d_G_read_2 (fun r hr => ?_)
  subst hr
  refine x_fr (pc := 5) [.int (mixF x 2), .ref (ad 0 0 0)] rfl rfl ?_
  refine xv_R (n := 1) (As := [.int (mixF x 2)]) (rest := []) hx hb hml hown hg hK0 hP (c_G_fileUnder l D T A _ ad K N g hz hG q hq hq6 (mixF x 2)) w_169 w_1 w_166 w_168 s_0 (ga_0 hG) rfl rfl (by decide +kernel) ⟨Nat.le_of_ble_eq_true rfl, Nat.le_of_ble_eq_true rfl⟩ rfl hl.1 rfl (Nat.le_of_ble_eq_true rfl) ⟨Nat.zero_le _, Nat.zero_le _⟩ rfl rfl d_G_read_5 (fun r hr => ?_)
  subst hr
  refine x_fr (pc := 8) [.int (fdF (fun f => g 12 f 0 0) (mixF x 2) 0 q)] rfl rfl ?_
  refine lv_istore_n (lv' := [(2, .int (fdF (fun f => g 12 f 0 0) (mixF x 2) 0 q)), (0, .ref (ad 0 0 0)), (1, .int x)]) hx hb d_G_read_8 rfl hl (by decide) rfl (fun ls hl => ?_)
  refine lv_iload_n hx hb d_G_read_9 rfl (lv_at hl 0 rfl) ?_
  refine lv_if_ge (tgt := 15) hx hb d_G_read_10 (by decide) (fun c7 => ?_) (fun c7 => ?_)
  · have c7 : 0 ≤ fuF g q (mixF x 2) := c7
    obtain ⟨f, hf, hfe⟩ := fuF_ge (g := g) (q := q) (x := mixF x 2) c7
    have hfe2 : (fdF (fun f => g 12 f 0 0) (mixF x 2) 0 q) = nI f := hfe
    rw [hfe2] at hl
    have ef : (fuF g q (mixF x 2)).toNatClampNeg = f := by rw [hfe, nI_clamp (by omega)]
    obtain ⟨hw0, hw30⟩ := hwr f (by omega)
    have hbe := beF_le (K := K) (N := N) hw0 hw30
    refine lv_aload_n hx hb d_G_read_15 rfl (lv_at hl 1 rfl) ?_
    refine lv_aload_n hx hb d_G_read_16 rfl (lv_at hl 1 rfl) ?_
    refine x_get (v := .ref (ad 3 0 0)) (C := R_G) (T := F_G) (N := 12) hx hb hg i_G hown hK hP (ga_0 hG) rfl 4 (by decide) (hg _ w_114) (fun _ h9 => h9) rfl d_G_read_17 ?_
    refine lv_iload_n hx hb d_G_read_20 rfl (lv_at hl 0 rfl) ?_
    refine x_aldq (v := .ref (ad 12 f 0)) hx hb hK hP 3 (ga_3 hG) rfl (vp_in_nI (by omega) (by omega)) (by rw [nI_clamp (by omega)]; rfl) d_G_read_21 ?_
    refine xv_Q (n := 1) (As := [.ref (ad 12 f 0)]) (rest := []) hx hb hml hown hg hK0 hP (c_G_bestNumber l D T A _ ad K N g hz hG f (w f) (by omega) hw0 hw30) w_242 w_1 w_239 w_241 s_10 (ga_0 hG) rfl rfl (by decide +kernel) ⟨Nat.le_of_ble_eq_true rfl, Nat.le_of_ble_eq_true rfl⟩ rfl hl.1 rfl (Nat.le_of_ble_eq_true rfl) hS ⟨Nat.zero_le _, Nat.zero_le _⟩ rfl rfl d_G_read_22 (fun r M1 H_147 L_148 hr hP hS => ?_)
    obtain ⟨h11, rfl, hR1⟩ := hr
    obtain ⟨g_149, hg_149⟩ : ∃ z, z = upS g 11 0 0 h11 := ⟨_, rfl⟩
    rw [← hg_149] at hR1
    have hR := hR.tr hR1
    have hG := hR.1
    refine x_fr (pc := 25) [.int (nI (beF K N g f))] rfl rfl ?_
    refine lv_istore_n (lv' := [(3, .int (nI (beF K N g f))), (2, .int (nI f)), (0, .ref (ad 0 0 0)), (1, .int x)]) hx hb d_G_read_25 rfl hl (by decide) rfl (fun ls hl => ?_)
    refine lv_iload_n hx hb d_G_read_26 rfl (lv_at hl 0 rfl) ?_
    have hk1 : kpS g g_149 := by rw [hg_149]; exact kpS.up (by omega)
    refine lv_if_ne (tgt := 33) hx hb d_G_read_27 (by decide) (fun c27 => ?_) (fun c27 => ?_)
    · have hbn : beF K N g f ≠ 0 := nI_nz c27
      have ehc : K ≤ cuF (svF N g_149 f (nI (beF K N g f))) N := by rw [svF_sc hk1]; exact beF_pos hbn
      refine lv_aload_n hx hb d_G_read_33 rfl (lv_at hl 2 rfl) ?_
      refine lv_aload_n hx hb d_G_read_34 rfl (lv_at hl 2 rfl) ?_
      refine x_get (v := .ref (ad 3 0 0)) (C := R_G) (T := F_G) (N := 12) hx hb hg i_G hown hK hP (ga_0 hG) rfl 4 (by decide) (hg _ w_114) (fun _ h9 => h9) rfl d_G_read_35 ?_
      refine lv_iload_n hx hb d_G_read_38 rfl (lv_at hl 1 rfl) ?_
      refine x_aldq (v := .ref (ad 12 f 0)) hx hb hK hP 3 (ga_3 hG) rfl (vp_in_nI (by omega) (by omega)) (by rw [nI_clamp (by omega)]; rfl) d_G_read_39 ?_
      refine lv_iload_n hx hb d_G_read_40 rfl (lv_at hl 0 rfl) ?_
      refine xv_Q (n := 2) (As := [.ref (ad 12 f 0), .int (nI (beF K N g f))]) (rest := []) hx hb hml hown hg hK0 hP (c_G_decodeVersion l D T A _ ad K N g_149 hz hG f (w f) (by omega) (by rw [hk1 12 f 0 (by omega) (by omega) (by omega) (by omega) (by omega)]; exact hw0) hw30 (nI (beF K N g f)) ehc) w_255 w_1 w_252 w_254 s_12 (ga_0 hG) rfl rfl (by decide +kernel) ⟨Nat.le_of_ble_eq_true rfl, Nat.le_of_ble_eq_true rfl⟩ rfl hl.1 rfl (Nat.le_of_ble_eq_true rfl) hS ⟨Nat.zero_le _, Nat.zero_le _⟩ rfl rfl d_G_read_41 (fun r M1 H_150 L_151 hr hP hS => ?_)
      obtain ⟨g_152, rfl, hR1, hdv1, hdv2⟩ := hr
      have hR := hR.tr hR1
      have hG := hR.1
      refine x_fr (pc := 44) [.int (nI (plF N (svF N g_149 f (nI (beF K N g f))) 0))] rfl rfl ?_
      refine lv_pop hx hb d_G_read_44 rfl ?_
      refine lv_iconst (v := nI 0) hx hb d_G_read_45 (by decide) ?_
      refine lv_istore (lv' := [(4, .int (nI 0)), (3, .int (nI (beF K N g f))), (2, .int (nI f)), (0, .ref (ad 0 0 0)), (1, .int x)]) hx hb d_G_read_46 hl (by decide) rfl (fun ls hl => ?_)
      have hk2 : kpS g g_152 := hk1.tr (fun k f s a b _ _ _ => hdv1 k f s a b)
      have edc : ∀ j, j < K → g_152 7 0 0 j = dcV K N g f (nI (beF K N g f)) j := by
        intro j hj
        rw [hdv2 j hj, dcV, dcV, svF_sc hk1]
        exact dcS_congr hz1 (fun _ _ => rfl) (fun i _ => by rw [hk1 17 f _ (by omega) (by omega) (by omega) (by omega) (by omega)]) j hj
      have loop : ∀ (n : Nat) (i : Nat) (gx : gT), K + 1 ≤ i + n → i ≤ K → (∀ k f s, k ≠ 5 → k ≠ 8 → k ≠ 11 → k ≠ 7 → k ≠ 9 → k ≠ 10 → gx k f s = g k f s) → (∀ j, j < i → gx 5 0 0 j = dcV K N g f (nI (beF K N g f)) j ^^^ mixF x (nI (beF K N g f) * 8 + nI j)) → (∀ j, j < K → gx 7 0 0 j = dcV K N g f (nI (beF K N g f)) j) → ∀ (Mx : xM) (Hx : Heap) (Lx : List Loc), xW D classes A Mx Hx → va_S A s.heap Hx Lx → gR T ad K N M gx Mx → ∀ (ls : Array Slot), lv_has ls 5 [(0, .ref (ad 0 0 0)), (1, .int x), (2, .int (nI f)), (3, .int (nI (beF K N g f))), (4, .int (nI i))] → W p l e (rmH 6) s m [.ref (ad 0 0 0), .int x].toArray below meth c Hx Lx 0 0 Q (F0 m 48 ls []) := by
        intro n
        induction n with
        | zero =>
          intro i gx h2 h1 r1 r2 r3
          exact absurd h2 (by omega)
        | succ n ih =>
          intro i gx h2 h1 r1 r2 r3 Mx Hx Lx hP hS hR ls hl
          have hG := hR.1
          refine lv_iload hx hb d_G_read_48 (lv_at hl 4 rfl) ?_
          refine lv_aload_n hx hb d_G_read_50 rfl (lv_at hl 0 rfl) ?_
          refine x_get (v := .int (nI K)) (C := R_G) (T := F_G) (N := 12) hx hb hg i_G hown hK hP (ga_0 hG) rfl 0 (by decide) (hg _ w_110) (fun _ h9 => h9) rfl d_G_read_51 ?_
          refine x_nc_ge (tgt := 88) hx hb d_G_read_54 (by decide) (by omega) (by omega) (fun c54 => ?_) (fun c54 => ?_)
          · have hiK : i = K := by omega
            rw [hiK] at r2
            refine lv_aload_n hx hb d_G_read_88 rfl (lv_at hl 0 rfl) ?_
            refine lv_iconst (v := 1) hx hb d_G_read_89 (by decide) ?_
            refine x_put (v := .int 1) (ty := .boolean) (C := R_G) (T := F_G) (N := 12) hx hb hg i_G t_G t_G_ok n_G hown hK hP hS (ga_0 hG) rfl 11 (by decide) (hg _ w_121) (fun _ h9 => h9) rfl (by decide +kernel) (by rfl) (by rfl) (Nat.le_of_ble_eq_true rfl) d_G_read_90 (fun H_153 L_154 hP hS => ?_)
            obtain ⟨g_155, hg_155⟩ : ∃ z, z = upS gx 0 0 0 (upd (gx 0 0 0) 1 1) := ⟨_, rfl⟩
            obtain ⟨M_156, hP, hR⟩ : ∃ z, xW D classes A z H_153 ∧ gR T ad K N M g_155 z := ⟨_, hP, by rw [hg_155]; exact hR.set (Or.inl ⟨by omega, rfl, rfl⟩) rfl⟩
            have hG := hR.1
            refine lv_iload_n hx hb d_G_read_93 rfl (lv_at hl 3 rfl) ?_
            refine hret _ _ _ _ _ _ d_G_read_94 hP hS ⟨g_155, by rw [aRead, if_pos c7, ef, if_neg hbn], hR, fun _ => ?_, fun z => absurd ⟨c7, by rw [ef]; exact hbn⟩ z⟩
            rw [ef]
            refine ⟨fun k f1 s1 q0 q5 q7 q8 q9 q10 q11 => ?_, ?_, ?_, fun j hj => ?_⟩
            · rw [hg_155, upS_n (by omega)]; exact r1 k f1 s1 q5 q8 q11 q7 q9 q10
            · rw [hg_155, upS_s, upd_n (by omega), r1 0 0 0 (by omega) (by omega) (by omega) (by omega) (by omega) (by omega)]
            · rw [hg_155, upS_s, upd_s]
            · rw [hg_155, upS_n (by omega)]; exact r2 j hj
          · refine lv_aload_n hx hb d_G_read_57 rfl (lv_at hl 0 rfl) ?_
            refine x_get (v := .ref (ad 5 0 0)) (C := R_G) (T := F_G) (N := 12) hx hb hg i_G hown hK hP (ga_0 hG) rfl 6 (by decide) (hg _ w_116) (fun _ h9 => h9) rfl d_G_read_58 ?_
            refine lv_iload hx hb d_G_read_61 (lv_at hl 4 rfl) ?_
            refine lv_aload_n hx hb d_G_read_63 rfl (lv_at hl 0 rfl) ?_
            refine x_get (v := .ref (ad 6 0 0)) (C := R_G) (T := F_G) (N := 12) hx hb hg i_G hown hK hP (ga_0 hG) rfl 7 (by decide) (hg _ w_117) (fun _ h9 => h9) rfl d_G_read_64 ?_
            refine x_getN (v := .ref (ad 7 0 0)) (C := R_C) (T := F_C) (N := 3) hx hb hg i_C hown hK hP (ga_6 hG) rfl 1 (by decide) (va_Nw.use rfl (hN _ e_98)) (fun _ h9 => h9) rfl d_G_read_67 ?_
            refine lv_iload hx hb d_G_read_70 (lv_at hl 4 rfl) ?_
            refine x_iald (v := gx 7 0 0 i) hx hb hK hP 0 (ga_7 hG) rfl (vp_in_nI (by omega) (by omega)) (by rw [nI_clamp (by omega)]) d_G_read_72 ?_
            refine lv_iload_n hx hb d_G_read_73 rfl (lv_at hl 1 rfl) ?_
            refine lv_iload_n hx hb d_G_read_74 rfl (lv_at hl 3 rfl) ?_
            refine lv_iload hx hb d_G_read_75 (lv_at hl 4 rfl) ?_
            refine xs_R (n := 3) (As := [.int x, .int (nI (beF K N g f)), .int (nI i)]) (rest := [.int (gx 7 0 0 i), .int (nI i), .ref (ad 5 0 0)]) hx hb hml hown hg hK0 hP (c_G_cipherMask l D T A _ x (nI (beF K N g f)) (nI i)) w_188 w_1 w_186 w_187 (by decide +kernel) ⟨Nat.le_of_ble_eq_true rfl, Nat.le_of_ble_eq_true rfl⟩ rfl hl.1 rfl (Nat.le_of_ble_eq_true rfl) ⟨Nat.zero_le _, Nat.zero_le _⟩ rfl rfl d_G_read_77 (fun r hr => ?_)
            subst hr
            refine x_fr (pc := 80) [.int (mixF x ((nI (beF K N g f)) * 8 + (nI i))), .int (gx 7 0 0 i), .int (nI i), .ref (ad 5 0 0)] rfl rfl ?_
            refine lv_ixor hx hb d_G_read_80 ?_
            refine x_iast hx hb hK hP hS 0 (ga_5 hG) rfl (vp_in_nI (by omega) (by omega)) d_G_read_81 (fun H_157 L_158 hP hS => ?_)
            rw [nI_clamp (by omega)] at hP
            obtain ⟨g_159, hg_159⟩ : ∃ z, z = upS gx 5 0 0 (upd (gx 5 0 0) i ((gx 7 0 0 i) ^^^ (mixF x ((nI (beF K N g f)) * 8 + (nI i))))) := ⟨_, rfl⟩
            obtain ⟨M_160, hP, hR⟩ : ∃ z, xW D classes A z H_157 ∧ gR T ad K N M g_159 z := ⟨_, hP, by rw [hg_159]; exact hR.set (Or.inl ⟨by omega, rfl, rfl⟩) rfl⟩
            have hG := hR.1
            have ra : ∀ k f s, k ≠ 5 → k ≠ 8 → k ≠ 11 → k ≠ 7 → k ≠ 9 → k ≠ 10 → g_159 k f s = g k f s := fun k f s q1 q2 q3 q4 q5 q6 => by rw [hg_159, upS_n (by omega)]; exact r1 k f s q1 q2 q3 q4 q5 q6
            have rb : ∀ j, j < i + 1 → g_159 5 0 0 j = dcV K N g f (nI (beF K N g f)) j ^^^ mixF x (nI (beF K N g f) * 8 + nI j) := by
              intro j hj
              rw [hg_159, upS_s]
              by_cases hji : j = i
              · subst hji; rw [upd_s, r3 j (by omega)]
              · rw [upd_n hji]; exact r2 j (by omega)
            have rc : ∀ j, j < K → g_159 7 0 0 j = dcV K N g f (nI (beF K N g f)) j := fun j hj => by rw [hg_159, upS_n (by omega)]; exact r3 j hj
            refine lv_iinc (v := nI (i + 1)) (lv' := [(4, .int (nI (i + 1))), (0, .ref (ad 0 0 0)), (1, .int x), (2, .int (nI f)), (3, .int (nI (beF K N g f)))]) hx hb d_G_read_82 hl (k := 4) rfl (nI_1 _) (by decide) rfl (fun ls hl => ?_)
            refine lv_goto (tgt := 48) hx hb d_G_read_85 (by decide) ?_
            exact ih (i + 1) g_159 (by omega) (by omega) ra rb rc _ _ _ hP hS hR ls (lv_sub hl [1, 2, 3, 4, 0] rfl)
      exact loop (K + 1) 0 g_152 (by omega) (by omega) (fun k f s _ q2 q3 q4 q5 q6 => hk2 k f s q4 q2 q5 q6 q3) (fun j hj => absurd hj (by omega)) edc _ _ _ hP hS hR ls (lv_sub hl [3, 4, 2, 1, 0] rfl)
    · have hbn : beF K N g f = 0 := nI_z (by omega) c27
      refine lv_bipush (v := (-3)) hx hb d_G_read_30 (by decide) ?_
      exact hret _ _ _ _ _ _ d_G_read_32 hP hS ⟨g_149, by rw [aRead, if_pos c7, ef, if_pos hbn], hR, fun z => absurd (by rw [ef]; exact hbn) z.2, fun _ => hk1⟩
  · have c7 : ¬ 0 ≤ fuF g q (mixF x 2) := c7
    refine lv_iconst (v := (-1)) hx hb d_G_read_13 (by decide) ?_
    exact hret _ _ _ _ _ _ d_G_read_14 hP hS ⟨g, by rw [aRead, if_neg c7], hR, fun z => absurd z.1 c7, fun _ => kpS.rf⟩
set_option maxHeartbeats 4000000 in
set_option maxRecDepth 100000 in
theorem c_G_repair (l : Launch) (D : va_G) (T : Nat → ClassId) (A : Nat → Prop) (M : xM) (ad : Nat → Nat → Nat → Nat) (K N : Nat) (g : gT) (hz : zB K N) (hG : gG T ad K N g M) (q : Nat) (w : Nat → Nat) (hI : iG N g q w) (x : Int32) : Met l y_G_repair (Cond.code y_G_repair b_G_repair 8 (some .int) :: gw) (rmH 6) (xPc D T A M [.ref (ad 0 0 0), .int x]) (xQ D A (fun r M1 => ∃ g', r = some (.int (aRepair K N g q x (cuF (rpV N g (fuF g q x).toNatClampNeg (nI (beF K N g (fuF g q x).toNatClampNeg))) N))) ∧ gR T ad K N M g' M1 ∧ stP K N g g' q x)) 0 0 A := by
  refine xMetQi (by decide) (Nat.le_of_ble_eq_true rfl) ?_
  intro p e s m below meth c Q ls hB hP hS hl hret
  obtain ⟨hx, hb, hml, hown, hg, hK0, hnm⟩ := hB
  have hown : s.vm.findClass "ShareGrid" = some m.cls := hown
  have hK := hK0.1
  have hN := hK0.2.1
  obtain ⟨hz1, hz4, hzn, hz7⟩ := id hz
  have hR := hG.rf
  obtain ⟨hq, hq6, hwr, hbo⟩ := id hI
  have hl : lv_has ls 8 [(0, .ref (ad 0 0 0)), (1, .int x)] := hl
  refine lv_aload_n hx hb d_G_repair_0 rfl (lv_at hl 0 rfl) ?_
  refine lv_iload_n hx hb d_G_repair_1 rfl (lv_at hl 1 rfl) ?_
  refine xv_R (n := 1) (As := [.int x]) (rest := []) hx hb hml hown hg hK0 hP (c_G_fileUnder l D T A _ ad K N g hz hG q hq hq6 x) w_169 w_1 w_166 w_168 s_0 (ga_0 hG) rfl rfl (by decide +kernel) ⟨Nat.le_of_ble_eq_true rfl, Nat.le_of_ble_eq_true rfl⟩ rfl hl.1 rfl (Nat.le_of_ble_eq_true rfl) ⟨Nat.zero_le _, Nat.zero_le _⟩ rfl rfl d_G_repair_2 (fun r hr => ?_)
  subst hr
  refine x_fr (pc := 5) [.int (fdF (fun f => g 12 f 0 0) x 0 q)] rfl rfl ?_
  refine lv_istore_n (lv' := [(2, .int (fdF (fun f => g 12 f 0 0) x 0 q)), (0, .ref (ad 0 0 0)), (1, .int x)]) hx hb d_G_repair_5 rfl hl (by decide) rfl (fun ls hl => ?_)
  refine lv_iload_n hx hb d_G_repair_6 rfl (lv_at hl 0 rfl) ?_
  refine lv_if_ge (tgt := 12) hx hb d_G_repair_7 (by decide) (fun c7 => ?_) (fun c7 => ?_)
  · have c7 : 0 ≤ fuF g q (x) := c7
    obtain ⟨f, hf, hfe⟩ := fuF_ge (g := g) (q := q) (x := x) c7
    have hfe2 : (fdF (fun f => g 12 f 0 0) x 0 q) = nI f := hfe
    rw [hfe2] at hl
    have ef : (fuF g q (x)).toNatClampNeg = f := by rw [hfe, nI_clamp (by omega)]
    obtain ⟨hw0, hw30⟩ := hwr f (by omega)
    have hbe := beF_le (K := K) (N := N) hw0 hw30
    refine lv_aload_n hx hb d_G_repair_12 rfl (lv_at hl 1 rfl) ?_
    refine x_get (v := .ref (ad 3 0 0)) (C := R_G) (T := F_G) (N := 12) hx hb hg i_G hown hK hP (ga_0 hG) rfl 4 (by decide) (hg _ w_114) (fun _ h9 => h9) rfl d_G_repair_13 ?_
    refine lv_iload_n hx hb d_G_repair_16 rfl (lv_at hl 0 rfl) ?_
    refine x_aldq (v := .ref (ad 12 f 0)) hx hb hK hP 3 (ga_3 hG) rfl (vp_in_nI (by omega) (by omega)) (by rw [nI_clamp (by omega)]; rfl) d_G_repair_17 ?_
    refine lv_astore_n (lv' := [(3, .ref (ad 12 f 0)), (2, .int (nI f)), (0, .ref (ad 0 0 0)), (1, .int x)]) hx hb d_G_repair_18 rfl hl (by decide) rfl (fun ls hl => ?_)
    refine lv_aload_n hx hb d_G_repair_19 rfl (lv_at hl 2 rfl) ?_
    refine lv_aload_n hx hb d_G_repair_20 rfl (lv_at hl 0 rfl) ?_
    refine xv_Q (n := 1) (As := [.ref (ad 12 f 0)]) (rest := []) hx hb hml hown hg hK0 hP (c_G_bestNumber l D T A _ ad K N g hz hG f (w f) (by omega) hw0 hw30) w_242 w_1 w_239 w_241 s_10 (ga_0 hG) rfl rfl (by decide +kernel) ⟨Nat.le_of_ble_eq_true rfl, Nat.le_of_ble_eq_true rfl⟩ rfl hl.1 rfl (Nat.le_of_ble_eq_true rfl) hS ⟨Nat.zero_le _, Nat.zero_le _⟩ rfl rfl d_G_repair_21 (fun r M1 H_161 L_162 hr hP hS => ?_)
    obtain ⟨h11, rfl, hR1⟩ := hr
    obtain ⟨g_163, hg_163⟩ : ∃ z, z = upS g 11 0 0 h11 := ⟨_, rfl⟩
    rw [← hg_163] at hR1
    have hR := hR.tr hR1
    have hG := hR.1
    refine x_fr (pc := 24) [.int (nI (beF K N g f))] rfl rfl ?_
    refine lv_istore (lv' := [(4, .int (nI (beF K N g f))), (3, .ref (ad 12 f 0)), (2, .int (nI f)), (0, .ref (ad 0 0 0)), (1, .int x)]) hx hb d_G_repair_24 hl (by decide) rfl (fun ls hl => ?_)
    refine lv_iload hx hb d_G_repair_26 (lv_at hl 0 rfl) ?_
    have hk1 : kpS g g_163 := by rw [hg_163]; exact kpS.up (by omega)
    refine lv_if_ne (tgt := 34) hx hb d_G_repair_28 (by decide) (fun c28 => ?_) (fun c28 => ?_)
    · have hbn : beF K N g f ≠ 0 := nI_nz c28
      have ehc : K ≤ cuF (svF N g_163 f (nI (beF K N g f))) N := by rw [svF_sc hk1]; exact beF_pos hbn
      refine lv_aload_n hx hb d_G_repair_34 rfl (lv_at hl 3 rfl) ?_
      refine lv_aload_n hx hb d_G_repair_35 rfl (lv_at hl 1 rfl) ?_
      refine lv_iload hx hb d_G_repair_36 (lv_at hl 0 rfl) ?_
      refine xv_Q (n := 2) (As := [.ref (ad 12 f 0), .int (nI (beF K N g f))]) (rest := []) hx hb hml hown hg hK0 hP (c_G_decodeVersion l D T A _ ad K N g_163 hz hG f (w f) (by omega) (by rw [hk1 12 f 0 (by omega) (by omega) (by omega) (by omega) (by omega)]; exact hw0) hw30 (nI (beF K N g f)) ehc) w_255 w_1 w_252 w_254 s_12 (ga_0 hG) rfl rfl (by decide +kernel) ⟨Nat.le_of_ble_eq_true rfl, Nat.le_of_ble_eq_true rfl⟩ rfl hl.1 rfl (Nat.le_of_ble_eq_true rfl) hS ⟨Nat.zero_le _, Nat.zero_le _⟩ rfl rfl d_G_repair_38 (fun r M1 H_164 L_165 hr hP hS => ?_)
      obtain ⟨g_166, rfl, hR1, hdv1, hdv2⟩ := hr
      have hR := hR.tr hR1
      have hG := hR.1
      refine x_fr (pc := 41) [.int (nI (plF N (svF N g_163 f (nI (beF K N g f))) 0))] rfl rfl ?_
      have esv := svF_sc (N := N) hk1 f (nI (beF K N g f))
      have hk2 : kpS g g_166 := hk1.tr (fun k f s a b _ _ _ => hdv1 k f s a b)
      have edc : ∀ j, j < K → g_166 7 0 0 j = dcV K N g f (nI (beF K N g f)) j := by
        intro j hj
        rw [hdv2 j hj, dcV, dcV, esv]
        exact dcS_congr hz1 (fun _ _ => rfl) (fun i _ => by rw [hk1 17 f _ (by omega) (by omega) (by omega) (by omega) (by omega)]) j hj
      have hpl := plF_ok (N := N) (n := N) (j := 0) (u := svF N g f (nI (beF K N g f))) (Nat.le_refl N) (by have := beF_pos hbn; omega)
      obtain ⟨p0, hp0⟩ : ∃ z, z = plF N (svF N g f (nI (beF K N g f))) 0 := ⟨_, rfl⟩
      rw [← hp0] at hpl
      refine x_top (y := nI p0) (by rw [esv, hp0]) ?_
      have hp0N := hpl.1
      refine lv_istore (lv' := [(5, .int (nI p0)), (4, .int (nI (beF K N g f))), (3, .ref (ad 12 f 0)), (2, .int (nI f)), (0, .ref (ad 0 0 0)), (1, .int x)]) hx hb d_G_repair_41 hl (by decide) rfl (fun ls hl => ?_)
      refine lv_aload_n hx hb d_G_repair_43 rfl (lv_at hl 4 rfl) ?_
      refine x_get (v := .ref (ad 9 0 0)) (C := R_G) (T := F_G) (N := 12) hx hb hg i_G hown hK hP (ga_0 hG) rfl 8 (by decide) (hg _ w_118) (fun _ h9 => h9) rfl d_G_repair_44 ?_
      refine lv_aload_n hx hb d_G_repair_47 rfl (lv_at hl 2 rfl) ?_
      refine x_getN (v := .ref (ad 13 f 0)) (C := R_F) (T := F_F) (N := 6) hx hb hg i_F hown hK hP (ga_12 hG (show f < 6 by omega)) rfl 0 (by decide) (va_Nw.use rfl (hN _ e_69)) (fun _ h9 => h9) rfl d_G_repair_48 ?_
      refine lv_iload hx hb d_G_repair_51 (lv_at hl 0 rfl) ?_
      refine x_aldq (v := .ref (ad 17 f p0)) hx hb hK hP 2 (ga_13 hG (show f < 6 by omega)) rfl (vp_in_nI (by omega) (by omega)) (by rw [nI_clamp (by omega)]; rfl) d_G_repair_53 ?_
      refine xvn_Q (n := 1) (As := [.ref (ad 17 f p0)]) (rest := []) hx hb hml hown hg hK0 hP hN (c_R_copyFrom l D T A _ (ad 9 0 0) (ad 17 f p0) (ad 10 0 0) (ad 18 f p0) N (g_166 18 f p0) (g_166 10 0 0) (g_166 17 f p0 0) (g_166 17 f p0 1) (g_166 17 f p0 2) (g_166 17 f p0 3) (g_166 9 0 0 0) (g_166 9 0 0 1) (g_166 9 0 0 2) (g_166 9 0 0 3) (by omega) (by rw [hk2 17 f p0 (by omega) (by omega) (by omega) (by omega) (by omega)]; exact (hbo f p0 (by omega) (by omega)).1) (ga_9 hG) (ga_17 hG (show f < 6 by omega) (show p0 < N by omega)) (ga_10 hG) (ga_18 hG (show f < 6 by omega) (show p0 < N by omega)) (hG.ne (Or.inr (Or.inr ⟨by omega, by omega, by omega, by omega⟩)) (Or.inl ⟨by omega, rfl, rfl⟩) (by omega))) w_231 w_4 e_228 w_230 s_9 (ga_9 hG) rfl rfl (by decide +kernel) ⟨Nat.le_of_ble_eq_true rfl, Nat.le_of_ble_eq_true rfl⟩ rfl hl.1 rfl (Nat.le_of_ble_eq_true rfl) hS ⟨Nat.zero_le _, Nat.zero_le _⟩ rfl rfl d_G_repair_54 (fun r M1 H_167 L_168 hr hP hS => ?_)
      obtain ⟨rfl, rfl⟩ := hr
      obtain ⟨g_169, hg_169⟩ : ∃ z, z = cpS g_166 17 f p0 9 0 0 := ⟨_, rfl⟩
      obtain ⟨M_170, hP, hR⟩ : ∃ z, xW D classes A z H_167 ∧ gR T ad K N M g_169 z := ⟨_, hP, by rw [hg_169]; exact (hR.set (Or.inl ⟨by omega, rfl, rfl⟩) rfl).set (Or.inl ⟨by omega, rfl, rfl⟩) rfl⟩
      have hG := hR.1
      refine x_fr (pc := 57) [] rfl rfl ?_
      refine lv_iconst (v := nI 0) hx hb d_G_repair_57 (by decide) ?_
      refine lv_istore (lv' := [(6, .int (nI 0)), (5, .int (nI p0)), (4, .int (nI (beF K N g f))), (3, .ref (ad 12 f 0)), (2, .int (nI f)), (0, .ref (ad 0 0 0)), (1, .int x)]) hx hb d_G_repair_58 hl (by decide) rfl (fun ls hl => ?_)
      refine lv_iconst (v := nI 0) hx hb d_G_repair_60 (by decide) ?_
      refine lv_istore (lv' := [(7, .int (nI 0)), (6, .int (nI 0)), (5, .int (nI p0)), (4, .int (nI (beF K N g f))), (3, .ref (ad 12 f 0)), (2, .int (nI f)), (0, .ref (ad 0 0 0)), (1, .int x)]) hx hb d_G_repair_61 hl (by decide) rfl (fun ls hl => ?_)
      have loop : ∀ (n : Nat) (i : Nat) (gy : gT), N + 1 ≤ i + n → i ≤ N → rpI K N g gy f (nI (beF K N g f)) i → ∀ (Mx : xM) (Hx : Heap) (Lx : List Loc), xW D classes A Mx Hx → va_S A s.heap Hx Lx → gR T ad K N M gy Mx → ∀ (ls : Array Slot), lv_has ls 8 [(0, .ref (ad 0 0 0)), (1, .int x), (2, .int (nI f)), (3, .ref (ad 12 f 0)), (4, .int (nI (beF K N g f))), (5, .int (nI p0)), (6, .int (nI (cuF (rpV N g f (nI (beF K N g f))) i))), (7, .int (nI i))] → W p l e (rmH 6) s m [.ref (ad 0 0 0), .int x].toArray below meth c Hx Lx 0 0 Q (F0 m 63 ls []) := by
        intro n
        induction n with
        | zero =>
          intro i gy h2 h1 r1
          exact absurd h2 (by omega)
        | succ n ih =>
          intro i gy h2 h1 r1 Mx Hx Lx hP hS hR ls hl
          have hG := hR.1
          obtain ⟨a1, a7, b0, b2, b3, b10, a6, a8⟩ := id r1
          have hcl2 := cuF_le (rpV N g f (nI (beF K N g f))) i
          refine lv_iload hx hb d_G_repair_63 (lv_at hl 7 rfl) ?_
          refine lv_aload_n hx hb d_G_repair_65 rfl (lv_at hl 0 rfl) ?_
          refine x_get (v := .int (nI N)) (C := R_G) (T := F_G) (N := 12) hx hb hg i_G hown hK hP (ga_0 hG) rfl 1 (by decide) (hg _ w_111) (fun _ h9 => h9) rfl d_G_repair_66 ?_
          refine x_nc_ge (tgt := 108) hx hb d_G_repair_69 (by decide) (by omega) (by omega) (fun c69 => ?_) (fun c69 => ?_)
          · have hiN : i = N := by omega
            refine lv_iload hx hb d_G_repair_108 (lv_at hl 6 rfl) ?_
            rw [hiN] at a6 a8
            exact hret _ _ _ _ _ _ d_G_repair_110 hP hS ⟨gy, by rw [aRepair, if_pos c7, ef, if_neg hbn, hiN], hR, fun _ => by rw [ef]; exact ⟨a1, fun f1 s1 hk => a6 f1 s1 (hk.elim Or.inl fun z => Or.inr (Or.inr z)), a8⟩, fun z => absurd ⟨c7, by rw [ef]; exact hbn⟩ z⟩
          · have etk : tkF (gy 1 0 0 i) (gy 2 0 0 i) = tkV g i := by rw [tkV, a1 1 0 0 (by omega) (by omega) (by omega) (by omega) (by omega) (by omega) (by omega), a1 2 0 0 (by omega) (by omega) (by omega) (by omega) (by omega) (by omega) (by omega)]
            have esw : swG N gy f i (nI (beF K N g f)) = swG N g f i (nI (beF K N g f)) := by
              have z := a6 f i (Or.inr (Or.inl (Nat.le_refl i)))
              rw [swG, swG]
              show (if gy 17 f i 2 = _ then sdF N (gy 17 f i) (gy 18 f i) (gy 15 f 0) (gy 16 f 0) (gy 12 f 0 1) i else 0) = _
              rw [z.1, z.2, a1 15 f 0 (by omega) (by omega) (by omega) (by omega) (by omega) (by omega) (by omega), a1 16 f 0 (by omega) (by omega) (by omega) (by omega) (by omega) (by omega) (by omega), a1 12 f 0 (by omega) (by omega) (by omega) (by omega) (by omega) (by omega) (by omega)]
            refine lv_aload_n hx hb d_G_repair_72 rfl (lv_at hl 0 rfl) ?_
            refine lv_iload hx hb d_G_repair_73 (lv_at hl 7 rfl) ?_
            refine xv_R (n := 1) (As := [.int (nI i)]) (rest := []) hx hb hml hown hg hK0 hP (c_G_takesRecords l D T A _ ad K N gy hz hG i (by omega)) w_223 w_1 w_220 w_222 s_7 (ga_0 hG) rfl rfl (by decide +kernel) ⟨Nat.le_of_ble_eq_true rfl, Nat.le_of_ble_eq_true rfl⟩ rfl hl.1 rfl (Nat.le_of_ble_eq_true rfl) ⟨Nat.zero_le _, Nat.zero_le _⟩ rfl rfl d_G_repair_75 (fun r hr => ?_)
            subst hr
            refine x_fr (pc := 78) [.int (tkF (gy 1 0 0 i) (gy 2 0 0 i))] rfl rfl ?_
            refine lv_if_eq (tgt := 102) hx hb d_G_repair_78 (by decide) (fun c78 => ?_) (fun c78 => ?_)
            · have hz0 : rpV N g f (nI (beF K N g f)) i = 0 := by rw [rpV, if_pos (by rw [← etk]; exact c78)]
              have ecu := cuF_z hz0
              refine lv_iinc (v := nI (i + 1)) (lv' := [(7, .int (nI (i + 1))), (0, .ref (ad 0 0 0)), (1, .int x), (2, .int (nI f)), (3, .ref (ad 12 f 0)), (4, .int (nI (beF K N g f))), (5, .int (nI p0)), (6, .int (nI (cuF (rpV N g f (nI (beF K N g f))) i)))]) hx hb d_G_repair_102 hl (k := 7) rfl (nI_1 _) (by decide) rfl (fun ls hl => ?_)
              refine lv_goto (tgt := 63) hx hb d_G_repair_105 (by decide) ?_
              exact ih (i + 1) gy (by omega) (by omega) ⟨a1, a7, b0, b2, b3, b10, fun f1 s1 hk => a6 f1 s1 (hk.elim Or.inl fun z => z.elim (fun z => Or.inr (Or.inl (by omega))) fun z => Or.inr (Or.inr z)), fun s1 hs1 ht => a8 s1 ((Nat.lt_succ_iff_lt_or_eq.mp hs1).elim id fun z => absurd (by rw [z]; exact hz0) ht) ht⟩ _ _ _ hP hS hR ls (by rw [ecu]; exact (lv_sub hl [1, 2, 3, 4, 5, 6, 7, 0] rfl))
            · refine lv_aload_n hx hb d_G_repair_81 rfl (lv_at hl 3 rfl) ?_
              refine lv_iload hx hb d_G_repair_82 (lv_at hl 7 rfl) ?_
              refine lv_iload hx hb d_G_repair_84 (lv_at hl 4 rfl) ?_
              refine xvn_R (n := 2) (As := [.int (nI i), .int (nI (beF K N g f))]) (rest := []) hx hb hml hown hg hK0 hP hN (c_F_isSoundWith l D T A _ ad K N gy hz hG f i (w f) (by omega) (by omega) (by rw [a1 12 f 0 (by omega) (by omega) (by omega) (by omega) (by omega) (by omega) (by omega)]; exact hw0) hw30 (nI (beF K N g f))) w_259 w_3 e_256 w_258 s_13 (ga_12 hG (show f < 6 by omega)) rfl rfl (by decide +kernel) ⟨Nat.le_of_ble_eq_true rfl, Nat.le_of_ble_eq_true rfl⟩ rfl hl.1 rfl (Nat.le_of_ble_eq_true rfl) ⟨Nat.zero_le _, Nat.zero_le _⟩ rfl rfl d_G_repair_86 (fun r hr => ?_)
              subst hr
              refine x_fr (pc := 89) [.int (swG N gy f i (nI (beF K N g f)))] rfl rfl ?_
              refine lv_if_ne (tgt := 102) hx hb d_G_repair_89 (by decide) (fun c89 => ?_) (fun c89 => ?_)
              · have hz0 : rpV N g f (nI (beF K N g f)) i = 0 := by rw [rpV, if_neg (by rw [← etk]; exact c78), if_neg (by rw [← esw]; exact c89)]
                have ecu := cuF_z hz0
                refine lv_iinc (v := nI (i + 1)) (lv' := [(7, .int (nI (i + 1))), (0, .ref (ad 0 0 0)), (1, .int x), (2, .int (nI f)), (3, .ref (ad 12 f 0)), (4, .int (nI (beF K N g f))), (5, .int (nI p0)), (6, .int (nI (cuF (rpV N g f (nI (beF K N g f))) i)))]) hx hb d_G_repair_102 hl (k := 7) rfl (nI_1 _) (by decide) rfl (fun ls hl => ?_)
                refine lv_goto (tgt := 63) hx hb d_G_repair_105 (by decide) ?_
                exact ih (i + 1) gy (by omega) (by omega) ⟨a1, a7, b0, b2, b3, b10, fun f1 s1 hk => a6 f1 s1 (hk.elim Or.inl fun z => z.elim (fun z => Or.inr (Or.inl (by omega))) fun z => Or.inr (Or.inr z)), fun s1 hs1 ht => a8 s1 ((Nat.lt_succ_iff_lt_or_eq.mp hs1).elim id fun z => absurd (by rw [z]; exact hz0) ht) ht⟩ _ _ _ hP hS hR ls (by rw [ecu]; exact (lv_sub hl [1, 2, 3, 4, 5, 6, 7, 0] rfl))
              · have hz0 : ¬ rpV N g f (nI (beF K N g f)) i = 0 := by rw [rpV, if_neg (by rw [← etk]; exact c78), if_pos (by rw [← esw]; exact c89)]; decide
                have ecu := cuF_s hz0
                refine lv_aload_n hx hb d_G_repair_92 rfl (lv_at hl 0 rfl) ?_
                refine lv_aload_n hx hb d_G_repair_93 rfl (lv_at hl 3 rfl) ?_
                refine lv_iload hx hb d_G_repair_94 (lv_at hl 7 rfl) ?_
                refine xv_Q (n := 2) (As := [.ref (ad 12 f 0), .int (nI i)]) (rest := []) hx hb hml hown hg hK0 hP (c_G_giveFreshRecord l D T A _ ad K N gy hz hG f i (by omega) (by omega) (by rw [b0, ← hp0]; exact (hbo f p0 (by omega) (by omega)).1)) w_227 w_1 w_224 w_226 s_8 (ga_0 hG) rfl rfl (by decide +kernel) ⟨Nat.le_of_ble_eq_true rfl, Nat.le_of_ble_eq_true rfl⟩ rfl hl.1 rfl (Nat.le_of_ble_eq_true rfl) hS ⟨Nat.zero_le _, Nat.zero_le _⟩ rfl rfl d_G_repair_96 (fun r M1 H_171 L_172 hr hP hS => ?_)
                obtain ⟨rfl, hR1⟩ := hr
                obtain ⟨g_173, hg_173⟩ : ∃ z, z = gvS K gy f i := ⟨_, rfl⟩
                rw [← hg_173] at hR1
                have hR := hR.tr hR1
                have hG := hR.1
                refine x_fr (pc := 99) [] rfl rfl ?_
                refine lv_iinc (v := nI ((cuF (rpV N g f (nI (beF K N g f))) i) + 1)) (lv' := [(6, .int (nI ((cuF (rpV N g f (nI (beF K N g f))) i) + 1))), (0, .ref (ad 0 0 0)), (1, .int x), (2, .int (nI f)), (3, .ref (ad 12 f 0)), (4, .int (nI (beF K N g f))), (5, .int (nI p0)), (7, .int (nI i))]) hx hb d_G_repair_99 hl (k := 6) rfl (nI_1 _) (by decide) rfl (fun ls hl => ?_)
                refine lv_iinc (v := nI (i + 1)) (lv' := [(7, .int (nI (i + 1))), (6, .int (nI ((cuF (rpV N g f (nI (beF K N g f))) i) + 1))), (0, .ref (ad 0 0 0)), (1, .int x), (2, .int (nI f)), (3, .ref (ad 12 f 0)), (4, .int (nI (beF K N g f))), (5, .int (nI p0))]) hx hb d_G_repair_102 hl (k := 7) rfl (nI_1 _) (by decide) rfl (fun ls hl => ?_)
                refine lv_goto (tgt := 63) hx hb d_G_repair_105 (by decide) ?_
                exact ih (i + 1) g_173 (by omega) (by omega) (by rw [hg_173]; exact rpI_step hz0 r1) _ _ _ hP hS hR ls (by rw [ecu]; exact (lv_sub hl [2, 3, 4, 5, 6, 7, 1, 0] rfl))
      refine loop (N + 1) 0 g_169 (by omega) (by omega) ⟨?_, ?_, ?_, ?_, ?_, ?_, ?_, fun s1 hs1 => absurd hs1 (by omega)⟩ _ _ _ hP hS hR ls (lv_sub hl [6, 7, 5, 4, 3, 2, 1, 0] rfl)
      · intro k f1 s1 q1 q2 q3 q4 q5 q6 q7; rw [hg_169, cpS, upS_n (by omega), upS_n (by omega)]; exact hk2 k f1 s1 q1 q2 q3 q4 q5
      · intro j hj; rw [hg_169, cpS, upS_n (by omega), upS_n (by omega)]; exact edc j hj
      · rw [hg_169, cpS, upS_n (by omega), upS_s, hk2 17 f p0 (by omega) (by omega) (by omega) (by omega) (by omega), hp0]
      · rw [hg_169, cpS, upS_n (by omega), upS_s, hk2 17 f p0 (by omega) (by omega) (by omega) (by omega) (by omega), hp0]
      · rw [hg_169, cpS, upS_n (by omega), upS_s, hk2 17 f p0 (by omega) (by omega) (by omega) (by omega) (by omega), hp0]
      · rw [hg_169, cpS, upS_s, hk2 18 f p0 (by omega) (by omega) (by omega) (by omega) (by omega), hp0]
      · intro f1 s1 _; rw [hg_169, cpS]; refine ⟨?_, ?_⟩
        · rw [upS_n (by omega), upS_n (by omega), hk2 17 f1 s1 (by omega) (by omega) (by omega) (by omega) (by omega)]
        · rw [upS_n (by omega), upS_n (by omega), hk2 18 f1 s1 (by omega) (by omega) (by omega) (by omega) (by omega)]
    · have hbn : beF K N g f = 0 := nI_z (by omega) c28
      refine lv_bipush (v := (-3)) hx hb d_G_repair_31 (by decide) ?_
      exact hret _ _ _ _ _ _ d_G_repair_33 hP hS ⟨g_163, by rw [aRepair, if_pos c7, ef, if_pos hbn], hR, fun z => absurd (by rw [ef]; exact hbn) z.2, fun _ => hk1⟩
  · have c7 : ¬ 0 ≤ fuF g q x := c7
    refine lv_iconst (v := (-1)) hx hb d_G_repair_10 (by decide) ?_
    exact hret _ _ _ _ _ _ d_G_repair_11 hP hS ⟨g, by rw [aRepair, if_neg c7], hR, fun z => absurd z.1 c7, fun _ => kpS.rf⟩
