/-! write -/
theorem shG_congr {cw cw' : Nat → Int32} {pt : Int32} : ∀ (n j : Nat), (∀ i, j ≤ i → i < j + n → cw i = cw' i) → shG cw pt j n = shG cw' pt j n := by
  intro n
  induction n with
  | zero => intro j _; rfl
  | succ n ih => intro j h; rw [shG, shG, ih (j + 1) (fun i h1 h2 => h i (by omega) (by omega)), h j (Nat.le_refl j) (by omega)]
theorem shG_congr0 {cw cw' : Nat → Int32} {pt : Int32} {K : Nat} (h : ∀ i, i < K → cw i = cw' i) : shG cw pt 0 K = shG cw' pt 0 K := shG_congr K 0 (fun i _ h2 => h i (by omega))
theorem fpV_congr {cw cw' : Nat → Int32} {K j : Nat} (h : ∀ i, i < K → cw i = cw' i) : fpV K cw j = fpV K cw' j := by rw [fpV, fpV, shG_congr0 h]
def wCw (g : gT) (x nu : Int32) (j : Nat) : Int32 := g 4 0 0 j ^^^ mixF (mixF x 1) (nu * 8 + nI j)
def wRt (K N : Nat) (g : gT) (x nu : Int32) : Int32 := rtF (fpV K (wCw g x nu)) N nu
def wSe (K N : Nat) (g : gT) (x nu : Int32) : Int32 := mixF (wRt K N g x nu) x ^^^ x
def tkV (g : gT) (s : Nat) : Int32 := tkF (g 1 0 0 s) (g 2 0 0 s)
/-- what a write leaves -/
def wrR (K N : Nat) (g g' : gT) (f w0 : Nat) (x : Int32) : Prop :=
  (∀ k f' s, (k = 0 ∨ k = 1 ∨ k = 2 ∨ k = 4 ∨ k = 5 ∨ k = 19 ∨ k = 20) → g' k f' s = g k f' s) ∧ (∀ k f', (k = 12 ∨ k = 15 ∨ k = 16) → f' ≠ f → g' k f' 0 = g k f' 0) ∧ g' 12 f 0 0 = g 12 f 0 0 ∧ g' 12 f 0 1 = nI (w0 + 1) ∧ g' 15 f 0 = upd (g 15 f 0) (w0 + 1) (wRt K N g x (nI (w0 + 1))) ∧ g' 16 f 0 = upd (g 16 f 0) (w0 + 1) (wSe K N g x (nI (w0 + 1))) ∧
  (∀ f' s, (f' ≠ f ∨ tkV g s = 0) → g' 17 f' s = g 17 f' s ∧ g' 18 f' s = g 18 f' s) ∧
  ∀ s, s < N → ¬ tkV g s = 0 → g' 17 f s 0 = 1 ∧ g' 17 f s 1 = shG (wCw g x (nI (w0 + 1))) (nI s + 1) 0 K ∧ g' 17 f s 2 = nI (w0 + 1) ∧ g' 17 f s 3 = wSe K N g x (nI (w0 + 1)) ∧ ∀ j, j < N → g' 18 f s j = fpV K (wCw g x (nI (w0 + 1))) j
abbrev vkF (x : Int32) : Int32 := mixF (mixF x 1) 2
def aWrite (K N : Nat) (g : gT) (q : Nat) (w : Nat → Nat) (x : Int32) : Int32 := if 0 ≤ fuF g q (vkF x) then (if K ≤ cuF (g 1 0 0) N then (if w (fuF g q (vkF x)).toNatClampNeg < 30 then nI (cuF (tkV g) N) else -2) else -3) else -1
def okW (K N : Nat) (g : gT) (q : Nat) (w : Nat → Nat) (x : Int32) : Prop := 0 ≤ fuF g q (vkF x) ∧ K ≤ cuF (g 1 0 0) N ∧ w (fuF g q (vkF x)).toNatClampNeg < 30
def stW (K N : Nat) (g g' : gT) (q : Nat) (w : Nat → Nat) (x : Int32) : Prop := (okW K N g q w x → wrR K N g g' (fuF g q (vkF x)).toNatClampNeg (w (fuF g q (vkF x)).toNatClampNeg) x) ∧ (¬ okW K N g q w x → g' = g)
/-- the records' part, while they are given -/
def gvR (K N : Nat) (g g3 gy : gT) (f w0 : Nat) (x : Int32) (i : Nat) : Prop :=
  (∀ k f' s, k ≠ 9 → k ≠ 10 → k ≠ 17 → k ≠ 18 → gy k f' s = g3 k f' s) ∧ (∀ j, j < N → gy 10 0 0 j = fpV K (wCw g x (nI (w0 + 1))) j) ∧ gy 9 0 0 0 = 1 ∧ gy 9 0 0 2 = nI (w0 + 1) ∧ gy 9 0 0 3 = wSe K N g x (nI (w0 + 1)) ∧
  (∀ f' s, (f' ≠ f ∨ i ≤ s ∨ tkV g s = 0) → gy 17 f' s = g 17 f' s ∧ gy 18 f' s = g 18 f' s) ∧
  ∀ s, s < i → ¬ tkV g s = 0 → gy 17 f s 0 = 1 ∧ gy 17 f s 1 = shG (wCw g x (nI (w0 + 1))) (nI s + 1) 0 K ∧ gy 17 f s 2 = nI (w0 + 1) ∧ gy 17 f s 3 = wSe K N g x (nI (w0 + 1)) ∧ ∀ j, j < N → gy 18 f s j = fpV K (wCw g x (nI (w0 + 1))) j
theorem gvR_step {K N : Nat} {g g3 gy : gT} {f w0 : Nat} {x : Int32} {i : Nat} (ht : ¬ tkV g i = 0) (hs : ∀ j, j < K → gy 7 0 0 j = wCw g x (nI (w0 + 1)) j) (h : gvR K N g g3 gy f w0 x i) : gvR K N g g3 (gvS K gy f i) f w0 x (i + 1) := by
  obtain ⟨a1, a2, a3, a4, a5, a6, a7⟩ := h
  have esh : shG (gy 7 0 0) (nI i + 1) 0 K = shG (wCw g x (nI (w0 + 1))) (nI i + 1) 0 K := shG_congr0 hs
  refine ⟨fun k f' s q1 q2 q3 q4 => ?_, fun j hj => ?_, ?_, ?_, ?_, fun f' s q => ?_, fun s q1 q2 => ?_⟩
  · rw [gvS, cpS, upS_n (by omega), upS_n (by omega), upS_n (by omega)]; exact a1 k f' s q1 q2 q3 q4
  · rw [gvS, cpS, upS_n (by omega), upS_n (by omega), upS_n (by omega)]; exact a2 j hj
  · rw [gvS, cpS, upS_n (by omega), upS_n (by omega), upS_s]; exact a3
  · rw [gvS, cpS, upS_n (by omega), upS_n (by omega), upS_s]; exact a4
  · rw [gvS, cpS, upS_n (by omega), upS_n (by omega), upS_s]; exact a5
  · by_cases hk : f' = f ∧ s = i
    · obtain ⟨rfl, rfl⟩ := hk
      rcases q with q | q | q
      · exact absurd rfl q
      · omega
      · exact absurd q ht
    · rw [gvS, cpS]
      refine ⟨?_, ?_⟩
      · rw [upS_n (by omega), upS_n (by omega), upS_n (by omega)]; exact (a6 f' s (q.elim Or.inl fun q => q.elim (fun q => Or.inr (Or.inl (by omega))) fun q => Or.inr (Or.inr q))).1
      · rw [upS_n (by omega), upS_n (by omega), upS_n (by omega)]; exact (a6 f' s (q.elim Or.inl fun q => q.elim (fun q => Or.inr (Or.inl (by omega))) fun q => Or.inr (Or.inr q))).2
  · by_cases hk : s = i
    · subst hk
      rw [gvS, cpS]
      refine ⟨?_, ?_, ?_, ?_, fun j hj => ?_⟩
      · rw [upS_n (by omega), upS_s, upS_s]; exact a3
      · rw [upS_n (by omega), upS_s, upS_s, upd_s]; exact esh
      · rw [upS_n (by omega), upS_s, upS_s]; exact a4
      · rw [upS_n (by omega), upS_s, upS_s]; exact a5
      · rw [upS_s, upS_n (by omega)]; exact a2 j hj
    · obtain ⟨b1, b2, b3, b4, b5⟩ := a7 s (by omega) q2
      rw [gvS, cpS]
      refine ⟨?_, ?_, ?_, ?_, fun j hj => ?_⟩
      · rw [upS_n (by omega), upS_n (by omega), upS_n (by omega)]; exact b1
      · rw [upS_n (by omega), upS_n (by omega), upS_n (by omega)]; exact b2
      · rw [upS_n (by omega), upS_n (by omega), upS_n (by omega)]; exact b3
      · rw [upS_n (by omega), upS_n (by omega), upS_n (by omega)]; exact b4
      · rw [upS_n (by omega), upS_n (by omega), upS_n (by omega)]; exact b5 j hj
set_option maxHeartbeats 4000000 in
set_option maxRecDepth 100000 in
theorem c_G_write (l : Launch) (D : va_G) (T : Nat → ClassId) (A : Nat → Prop) (M : xM) (ad : Nat → Nat → Nat → Nat) (K N : Nat) (g : gT) (hz : zB K N) (hG : gG T ad K N g M) (q : Nat) (w : Nat → Nat) (hI : iG N g q w) (x : Int32) : Met l y_G_write (Cond.code y_G_write b_G_write 9 (some .int) :: gw) (rmH 4) (xPc D T A M [.ref (ad 0 0 0), .int x]) (xQ D A (fun r M1 => ∃ g', r = some (.int (aWrite K N g q w x)) ∧ gR T ad K N M g' M1 ∧ stW K N g g' q w x)) 0 0 A := by
  refine xMetQi (by decide) (Nat.le_of_ble_eq_true rfl) ?_
  intro p e s m below meth c Q ls hB hP hS hl hret
  obtain ⟨hx, hb, hml, hown, hg, hK0, hnm⟩ := hB
  have hown : s.vm.findClass "ShareGrid" = some m.cls := hown
  have hK := hK0.1
  have hN := hK0.2.1
  obtain ⟨hz1, hz4, hzn, hz7⟩ := id hz
  have hR := hG.rf
  obtain ⟨hq, hq6, hwr, hbo⟩ := id hI
  have hl : lv_has ls 9 [(0, .ref (ad 0 0 0)), (1, .int x)] := hl
  refine lv_iload_n hx hb d_G_write_0 rfl (lv_at hl 1 rfl) ?_
  refine xs_R (n := 1) (As := [.int x]) (rest := []) hx hb hml hown hg hK0 hP (c_G_readKeyOf l D T A _ x) w_153 w_1 w_151 w_152 (by decide +kernel) ⟨Nat.le_of_ble_eq_true rfl, Nat.le_of_ble_eq_true rfl⟩ rfl hl.1 rfl (Nat.le_of_ble_eq_true rfl) ⟨Nat.zero_le _, Nat.zero_le _⟩ rfl rfl d_G_write_1 (fun r hr => ?_)
  subst hr
  refine x_fr (pc := 4) [.int (mixF x 1)] rfl rfl ?_
  refine lv_istore_n (lv' := [(2, .int (mixF x 1)), (0, .ref (ad 0 0 0)), (1, .int x)]) hx hb d_G_write_4 rfl hl (by decide) rfl (fun ls hl => ?_)
  refine lv_aload_n hx hb d_G_write_5 rfl (lv_at hl 1 rfl) ?_
  refine lv_iload_n hx hb d_G_write_6 rfl (lv_at hl 0 rfl) ?_
  refine xs_R (n := 1) (As := [.int (mixF x 1)]) (rest := [.ref (ad 0 0 0)]) hx hb hml hown hg hK0 hP (c_G_verifyKeyOf l D T A _ (mixF x 1)) w_161 w_1 w_159 w_160 (by decide +kernel) ⟨Nat.le_of_ble_eq_true rfl, Nat.le_of_ble_eq_true rfl⟩ rfl hl.1 rfl (Nat.le_of_ble_eq_true rfl) ⟨Nat.zero_le _, Nat.zero_le _⟩ rfl rfl d_G_write_7 (fun r hr => ?_)
  subst hr
  refine x_fr (pc := 10) [.int (mixF (mixF x 1) 2), .ref (ad 0 0 0)] rfl rfl ?_
  refine xv_R (n := 1) (As := [.int (mixF (mixF x 1) 2)]) (rest := []) hx hb hml hown hg hK0 hP (c_G_fileUnder l D T A _ ad K N g hz hG q hq hq6 (mixF (mixF x 1) 2)) w_169 w_1 w_166 w_168 s_0 (ga_0 hG) rfl rfl (by decide +kernel) ⟨Nat.le_of_ble_eq_true rfl, Nat.le_of_ble_eq_true rfl⟩ rfl hl.1 rfl (Nat.le_of_ble_eq_true rfl) ⟨Nat.zero_le _, Nat.zero_le _⟩ rfl rfl d_G_write_10 (fun r hr => ?_)
  subst hr
  refine x_fr (pc := 13) [.int (fdF (fun f => g 12 f 0 0) (mixF (mixF x 1) 2) 0 q)] rfl rfl ?_
  refine lv_istore_n (lv' := [(3, .int (fdF (fun f => g 12 f 0 0) (mixF (mixF x 1) 2) 0 q)), (2, .int (mixF x 1)), (0, .ref (ad 0 0 0)), (1, .int x)]) hx hb d_G_write_13 rfl hl (by decide) rfl (fun ls hl => ?_)
  refine lv_iload_n hx hb d_G_write_14 rfl (lv_at hl 0 rfl) ?_
  refine lv_if_ge (tgt := 20) hx hb d_G_write_15 (by decide) (fun c15 => ?_) (fun c15 => ?_)
  · have c15 : 0 ≤ fuF g q (vkF x) := c15
    obtain ⟨f, hf, hfe⟩ := fuF_ge (g := g) (q := q) (x := vkF x) c15
    have hfe2 : (fdF (fun f => g 12 f 0 0) (mixF (mixF x 1) 2) 0 q) = nI f := hfe
    rw [hfe2] at hl
    have ef : (fuF g q (vkF x)).toNatClampNeg = f := by rw [hfe, nI_clamp (by omega)]
    obtain ⟨hw0, hw30⟩ := hwr f (by omega)
    have hcl := cuF_le (g 1 0 0) N
    refine lv_aload_n hx hb d_G_write_20 rfl (lv_at hl 2 rfl) ?_
    refine xv_R (n := 0) (As := []) (rest := []) hx hb hml hown hg hK0 hP (c_G_serversUp l D T A _ ad K N g hz hG) w_185 w_1 w_182 w_184 s_2 (ga_0 hG) rfl rfl (by decide +kernel) ⟨Nat.le_of_ble_eq_true rfl, Nat.le_of_ble_eq_true rfl⟩ rfl hl.1 rfl (Nat.le_of_ble_eq_true rfl) ⟨Nat.zero_le _, Nat.zero_le _⟩ rfl rfl d_G_write_21 (fun r hr => ?_)
    subst hr
    refine x_fr (pc := 24) [.int (nI (cuF (g 1 0 0) N))] rfl rfl ?_
    refine lv_aload_n hx hb d_G_write_24 rfl (lv_at hl 2 rfl) ?_
    refine x_get (v := .int (nI K)) (C := R_G) (T := F_G) (N := 12) hx hb hg i_G hown hK hP (ga_0 hG) rfl 0 (by decide) (hg _ w_110) (fun _ h9 => h9) rfl d_G_write_25 ?_
    refine x_nc_ge (tgt := 34) hx hb d_G_write_28 (by decide) (by omega) (by omega) (fun c28 => ?_) (fun c28 => ?_)
    · refine lv_aload_n hx hb d_G_write_34 rfl (lv_at hl 2 rfl) ?_
      refine x_get (v := .ref (ad 3 0 0)) (C := R_G) (T := F_G) (N := 12) hx hb hg i_G hown hK hP (ga_0 hG) rfl 4 (by decide) (hg _ w_114) (fun _ h9 => h9) rfl d_G_write_35 ?_
      refine lv_iload_n hx hb d_G_write_38 rfl (lv_at hl 0 rfl) ?_
      refine x_aldq (v := .ref (ad 12 f 0)) hx hb hK hP 3 (ga_3 hG) rfl (vp_in_nI (by omega) (by omega)) (by rw [nI_clamp (by omega)]; rfl) d_G_write_39 ?_
      refine lv_astore (lv' := [(4, .ref (ad 12 f 0)), (3, .int (nI f)), (2, .int (mixF x 1)), (0, .ref (ad 0 0 0)), (1, .int x)]) hx hb d_G_write_40 hl (by decide) rfl (fun ls hl => ?_)
      refine lv_aload hx hb d_G_write_42 (lv_at hl 0 rfl) ?_
      refine x_getN (v := .int (g 12 f 0 1)) (C := R_F) (T := F_F) (N := 6) hx hb hg i_F hown hK hP (ga_12 hG (show f < 6 by omega)) rfl 5 (by decide) (va_Nw.use rfl (hN _ e_76)) (fun _ h9 => h9) rfl d_G_write_44 ?_
      refine x_top (y := nI (w f)) hw0 ?_
      refine lv_bipush (v := nI 30) hx hb d_G_write_47 (by decide) ?_
      refine x_nc_lt (tgt := 55) hx hb d_G_write_49 (by decide) (by omega) (by omega) (fun c49 => ?_) (fun c49 => ?_)
      · refine lv_aload hx hb d_G_write_55 (lv_at hl 0 rfl) ?_
        refine x_getN (v := .int (g 12 f 0 1)) (C := R_F) (T := F_F) (N := 6) hx hb hg i_F hown hK hP (ga_12 hG (show f < 6 by omega)) rfl 5 (by decide) (va_Nw.use rfl (hN _ e_76)) (fun _ h9 => h9) rfl d_G_write_57 ?_
        refine x_top (y := nI (w f)) hw0 ?_
        refine lv_iconst (v := nI 1) hx hb d_G_write_60 (by decide) ?_
        refine lv_iadd hx hb d_G_write_61 ?_
        refine x_top (y := nI ((w f) + 1)) (nI_add _ _) ?_
        refine lv_istore (lv' := [(5, .int (nI ((w f) + 1))), (4, .ref (ad 12 f 0)), (3, .int (nI f)), (2, .int (mixF x 1)), (0, .ref (ad 0 0 0)), (1, .int x)]) hx hb d_G_write_62 hl (by decide) rfl (fun ls hl => ?_)
        refine lv_iconst (v := nI 0) hx hb d_G_write_64 (by decide) ?_
        refine lv_istore (lv' := [(6, .int (nI 0)), (5, .int (nI ((w f) + 1))), (4, .ref (ad 12 f 0)), (3, .int (nI f)), (2, .int (mixF x 1)), (0, .ref (ad 0 0 0)), (1, .int x)]) hx hb d_G_write_65 hl (by decide) rfl (fun ls hl => ?_)
        have loopA : ∀ (n : Nat) (i : Nat) (gx : gT), K + 1 ≤ i + n → i ≤ K → (∀ k f s, k ≠ 7 → gx k f s = g k f s) → (∀ j, j < i → gx 7 0 0 j = wCw g x (nI (w f + 1)) j) → ∀ (Mx : xM) (Hx : Heap) (Lx : List Loc), xW D classes A Mx Hx → va_S A s.heap Hx Lx → gR T ad K N M gx Mx → ∀ (ls : Array Slot), lv_has ls 9 [(0, .ref (ad 0 0 0)), (1, .int x), (2, .int (mixF x 1)), (3, .int (nI f)), (4, .ref (ad 12 f 0)), (5, .int (nI (w f + 1))), (6, .int (nI i))] → W p l e (rmH 4) s m [.ref (ad 0 0 0), .int x].toArray below meth c Hx Lx 0 0 Q (F0 m 67 ls []) := by
          intro n
          induction n with
          | zero =>
            intro i gx h2 h1 r1 r2
            exact absurd h2 (by omega)
          | succ n ih =>
            intro i gx h2 h1 r1 r2 Mx Hx Lx hP hS hR ls hl
            have hG := hR.1
            refine lv_iload hx hb d_G_write_67 (lv_at hl 6 rfl) ?_
            refine lv_aload_n hx hb d_G_write_69 rfl (lv_at hl 0 rfl) ?_
            refine x_get (v := .int (nI K)) (C := R_G) (T := F_G) (N := 12) hx hb hg i_G hown hK hP (ga_0 hG) rfl 0 (by decide) (hg _ w_110) (fun _ h9 => h9) rfl d_G_write_70 ?_
            refine x_nc_ge (tgt := 108) hx hb d_G_write_73 (by decide) (by omega) (by omega) (fun c73 => ?_) (fun c73 => ?_)
            · have hiK : i = K := by omega
              rw [hiK] at r2
              refine lv_aload_n hx hb d_G_write_108 rfl (lv_at hl 0 rfl) ?_
              refine lv_iload hx hb d_G_write_109 (lv_at hl 5 rfl) ?_
              refine lv_iload_n hx hb d_G_write_111 rfl (lv_at hl 1 rfl) ?_
              refine xv_Q (n := 2) (As := [.int (nI (w f + 1)), .int x]) (rest := []) hx hb hml hown hg hK0 hP (c_G_makeFreshRecord l D T A _ ad K N gx hz hG (nI (w f + 1)) x) w_192 w_1 w_189 w_191 s_3 (ga_0 hG) rfl rfl (by decide +kernel) ⟨Nat.le_of_ble_eq_true rfl, Nat.le_of_ble_eq_true rfl⟩ rfl hl.1 rfl (Nat.le_of_ble_eq_true rfl) hS ⟨Nat.zero_le _, Nat.zero_le _⟩ rfl rfl d_G_write_112 (fun r M1 H_106 L_107 hr hP hS => ?_)
              obtain ⟨g_108, rfl, hR1, hmk⟩ := hr
              have hR := hR.tr hR1
              have hG := hR.1
              refine x_fr (pc := 115) [.int (rtF (fpV K (gx 7 0 0)) N (nI (w f + 1)))] rfl rfl ?_
              have efp : ∀ j, fpV K (gx 7 0 0) j = fpV K (wCw g x (nI (w f + 1))) j := fun j => fpV_congr r2
              have ero : rtF (fpV K (gx 7 0 0)) N (nI (w f + 1)) = wRt K N g x (nI (w f + 1)) := rtF_congr (fun j _ => efp j)
              obtain ⟨k1, k2, k3, k4, k5⟩ := hmk
              have hse : g_108 9 0 0 3 = wSe K N g x (nI (w f + 1)) := by rw [k5, ero]; rfl
              have hw2 : g_108 12 f 0 1 = nI (w f) := by rw [k1 12 f 0 (by omega) (by omega), r1 12 f 0 (by omega)]; exact hw0
              refine x_top (y := (wRt K N g x (nI (w f + 1)))) ero ?_
              refine lv_istore (lv' := [(6, .int (wRt K N g x (nI (w f + 1)))), (0, .ref (ad 0 0 0)), (1, .int x), (2, .int (mixF x 1)), (3, .int (nI f)), (4, .ref (ad 12 f 0)), (5, .int (nI (w f + 1)))]) hx hb d_G_write_115 hl (by decide) rfl (fun ls hl => ?_)
              refine lv_aload hx hb d_G_write_117 (lv_at hl 5 rfl) ?_
              refine lv_iload hx hb d_G_write_119 (lv_at hl 0 rfl) ?_
              refine lv_aload_n hx hb d_G_write_121 rfl (lv_at hl 1 rfl) ?_
              refine x_get (v := .ref (ad 9 0 0)) (C := R_G) (T := F_G) (N := 12) hx hb hg i_G hown hK hP (ga_0 hG) rfl 8 (by decide) (hg _ w_118) (fun _ h9 => h9) rfl d_G_write_122 ?_
              refine x_getN (v := .int (g_108 9 0 0 3)) (C := R_R) (T := F_R) (N := 5) hx hb hg i_R hown hK hP (ga_9 hG) rfl 4 (by decide) (va_Nw.use rfl (hN _ e_54)) (fun _ h9 => h9) rfl d_G_write_125 ?_
              refine x_top (y := (wSe K N g x (nI (w f + 1)))) hse ?_
              refine xvn_Q (n := 2) (As := [.int (wRt K N g x (nI (w f + 1))), .int (wSe K N g x (nI (w f + 1)))]) (rest := []) hx hb hml hown hg hK0 hP hN (c_F_noteNext l D T A _ ad K N g_108 hz hG f (w f) (by omega) hw2 (by omega) (wRt K N g x (nI (w f + 1))) (wSe K N g x (nI (w f + 1)))) w_219 w_3 e_216 w_218 s_6 (ga_12 hG (show f < 6 by omega)) rfl rfl (by decide +kernel) ⟨Nat.le_of_ble_eq_true rfl, Nat.le_of_ble_eq_true rfl⟩ rfl hl.1 rfl (Nat.le_of_ble_eq_true rfl) hS ⟨Nat.zero_le _, Nat.zero_le _⟩ rfl rfl d_G_write_128 (fun r M1 H_109 L_110 hr hP hS => ?_)
              obtain ⟨rfl, hR1⟩ := hr
              obtain ⟨g_111, hg_111⟩ : ∃ z, z = ntS g_108 f (w f) (wRt K N g x (nI (w f + 1))) (wSe K N g x (nI (w f + 1))) := ⟨_, rfl⟩
              rw [← hg_111] at hR1
              have hR := hR.tr hR1
              have hG := hR.1
              refine x_fr (pc := 131) [] rfl rfl ?_
              refine lv_iconst (v := nI 0) hx hb d_G_write_131 (by decide) ?_
              refine lv_istore (lv' := [(7, .int (nI 0)), (6, .int (wRt K N g x (nI (w f + 1)))), (0, .ref (ad 0 0 0)), (1, .int x), (2, .int (mixF x 1)), (3, .int (nI f)), (4, .ref (ad 12 f 0)), (5, .int (nI (w f + 1)))]) hx hb d_G_write_132 hl (by decide) rfl (fun ls hl => ?_)
              refine lv_iconst (v := nI 0) hx hb d_G_write_134 (by decide) ?_
              refine lv_istore (lv' := [(8, .int (nI 0)), (7, .int (nI 0)), (6, .int (wRt K N g x (nI (w f + 1)))), (0, .ref (ad 0 0 0)), (1, .int x), (2, .int (mixF x 1)), (3, .int (nI f)), (4, .ref (ad 12 f 0)), (5, .int (nI (w f + 1)))]) hx hb d_G_write_135 hl (by decide) rfl (fun ls hl => ?_)
              have e7 : ∀ j, j < K → g_111 7 0 0 j = wCw g x (nI (w f + 1)) j := fun j hj => by rw [hg_111, ntS, upS_n (by omega), upS_n (by omega), upS_n (by omega), k1 7 0 0 (by omega) (by omega)]; exact r2 j hj
              have e12 : ∀ k f s, k = 1 ∨ k = 2 → g_111 k f s = g k f s := fun k f s hk => by rw [hg_111, ntS, upS_n (by omega), upS_n (by omega), upS_n (by omega), k1 k f s (by omega) (by omega), r1 k f s (by omega)]
              have loopB : ∀ (n : Nat) (i : Nat) (gy : gT), N + 1 ≤ i + n → i ≤ N → gvR K N g g_111 gy f (w f) x i → ∀ (Mx : xM) (Hx : Heap) (Lx : List Loc), xW D classes A Mx Hx → va_S A s.heap Hx Lx → gR T ad K N M gy Mx → ∀ (ls : Array Slot), lv_has ls 9 [(0, .ref (ad 0 0 0)), (1, .int x), (2, .int (mixF x 1)), (3, .int (nI f)), (4, .ref (ad 12 f 0)), (5, .int (nI (w f + 1))), (6, .int (wRt K N g x (nI (w f + 1)))), (7, .int (nI (cuF (tkV g) i))), (8, .int (nI i))] → W p l e (rmH 4) s m [.ref (ad 0 0 0), .int x].toArray below meth c Hx Lx 0 0 Q (F0 m 137 ls []) := by
                intro n
                induction n with
                | zero =>
                  intro i gy h2 h1 r3
                  exact absurd h2 (by omega)
                | succ n ih =>
                  intro i gy h2 h1 r3 Mx Hx Lx hP hS hR ls hl
                  have hG := hR.1
                  have ey : ∀ k f s, k = 1 ∨ k = 2 → gy k f s = g k f s := fun k f s hk => by rw [r3.1 k f s (by omega) (by omega) (by omega) (by omega)]; exact e12 k f s hk
                  have hcl2 := cuF_le (tkV g) i
                  refine lv_iload hx hb d_G_write_137 (lv_at hl 8 rfl) ?_
                  refine lv_aload_n hx hb d_G_write_139 rfl (lv_at hl 0 rfl) ?_
                  refine x_get (v := .int (nI N)) (C := R_G) (T := F_G) (N := 12) hx hb hg i_G hown hK hP (ga_0 hG) rfl 1 (by decide) (hg _ w_111) (fun _ h9 => h9) rfl d_G_write_140 ?_
                  refine x_nc_ge (tgt := 172) hx hb d_G_write_143 (by decide) (by omega) (by omega) (fun c143 => ?_) (fun c143 => ?_)
                  · have hiN : i = N := by omega
                    rw [hiN] at r3
                    refine lv_iload hx hb d_G_write_172 (lv_at hl 7 rfl) ?_
                    refine hret _ _ _ _ _ _ d_G_write_174 hP hS ⟨gy, by rw [aWrite, if_pos c15, if_pos c28, ef, if_pos c49, hiN], hR, fun _ => ?_, fun z => absurd ⟨c15, c28, by rw [ef]; exact c49⟩ z⟩
                    rw [ef]
                    obtain ⟨a1, a2, a3, a4, a5, a6, a7⟩ := r3
                    have enn : ∀ k f1 s1, k ≠ 7 → k ≠ 9 → k ≠ 10 → k ≠ 12 → k ≠ 15 → k ≠ 16 → k ≠ 17 → k ≠ 18 → gy k f1 s1 = g k f1 s1 := fun k f1 s1 z1 z2 z3 z4 z5 z6 z7 z8 => by rw [a1 k f1 s1 (by omega) (by omega) (by omega) (by omega), hg_111, ntS, upS_n (by omega), upS_n (by omega), upS_n (by omega), k1 k f1 s1 (by omega) (by omega), r1 k f1 s1 (by omega)]
                    refine ⟨fun k f1 s1 hk => enn k f1 s1 (by omega) (by omega) (by omega) (by omega) (by omega) (by omega) (by omega) (by omega), fun k f1 hk hne => ?_, ?_, ?_, ?_, ?_, fun f1 s1 hk => a6 f1 s1 (hk.elim Or.inl fun z => Or.inr (Or.inr z)), a7⟩
                    · rw [a1 k f1 0 (by omega) (by omega) (by omega) (by omega), hg_111, ntS, upS_n (by omega), upS_n (by omega), upS_n (by omega), k1 k f1 0 (by omega) (by omega), r1 k f1 0 (by omega)]
                    · rw [a1 12 f 0 (by omega) (by omega) (by omega) (by omega), hg_111, ntS, upS_n (by omega), upS_n (by omega), upS_s, upd_n (by omega), k1 12 f 0 (by omega) (by omega), r1 12 f 0 (by omega)]
                    · rw [a1 12 f 0 (by omega) (by omega) (by omega) (by omega), hg_111, ntS, upS_n (by omega), upS_n (by omega), upS_s, upd_s]
                    · rw [a1 15 f 0 (by omega) (by omega) (by omega) (by omega), hg_111, ntS, upS_n (by omega), upS_s, k1 15 f 0 (by omega) (by omega), r1 15 f 0 (by omega)]
                    · rw [a1 16 f 0 (by omega) (by omega) (by omega) (by omega), hg_111, ntS, upS_s, k1 16 f 0 (by omega) (by omega), r1 16 f 0 (by omega)]
                  · refine lv_aload_n hx hb d_G_write_146 rfl (lv_at hl 0 rfl) ?_
                    refine lv_iload hx hb d_G_write_147 (lv_at hl 8 rfl) ?_
                    refine xv_R (n := 1) (As := [.int (nI i)]) (rest := []) hx hb hml hown hg hK0 hP (c_G_takesRecords l D T A _ ad K N gy hz hG i (by omega)) w_223 w_1 w_220 w_222 s_7 (ga_0 hG) rfl rfl (by decide +kernel) ⟨Nat.le_of_ble_eq_true rfl, Nat.le_of_ble_eq_true rfl⟩ rfl hl.1 rfl (Nat.le_of_ble_eq_true rfl) ⟨Nat.zero_le _, Nat.zero_le _⟩ rfl rfl d_G_write_149 (fun r hr => ?_)
                    subst hr
                    refine x_fr (pc := 152) [.int (tkF (gy 1 0 0 i) (gy 2 0 0 i))] rfl rfl ?_
                    refine lv_if_eq (tgt := 166) hx hb d_G_write_152 (by decide) (fun c152 => ?_) (fun c152 => ?_)
                    · have c152 : tkV g i = 0 := by rw [tkV, ← ey 1 0 0 (Or.inl rfl), ← ey 2 0 0 (Or.inr rfl)]; exact c152
                      have ecu : cuF (tkV g) (i + 1) = cuF (tkV g) i := by rw [cuF, if_pos c152]
                      refine lv_iinc (v := nI (i + 1)) (lv' := [(8, .int (nI (i + 1))), (0, .ref (ad 0 0 0)), (1, .int x), (2, .int (mixF x 1)), (3, .int (nI f)), (4, .ref (ad 12 f 0)), (5, .int (nI (w f + 1))), (6, .int (wRt K N g x (nI (w f + 1)))), (7, .int (nI (cuF (tkV g) i)))]) hx hb d_G_write_166 hl (k := 8) rfl (nI_1 _) (by decide) rfl (fun ls hl => ?_)
                      refine lv_goto (tgt := 137) hx hb d_G_write_169 (by decide) ?_
                      exact ih (i + 1) gy (by omega) (by omega) ⟨r3.1, r3.2.1, r3.2.2.1, r3.2.2.2.1, r3.2.2.2.2.1, fun f1 s1 hk => r3.2.2.2.2.2.1 f1 s1 (hk.elim Or.inl fun z => z.elim (fun z => Or.inr (Or.inl (by omega))) fun z => Or.inr (Or.inr z)), fun s1 hs1 ht => r3.2.2.2.2.2.2 s1 ((Nat.lt_succ_iff_lt_or_eq.mp hs1).elim id fun z => absurd (by rw [z]; exact c152) ht) ht⟩ _ _ _ hP hS hR ls (by rw [ecu]; exact (lv_sub hl [1, 2, 3, 4, 5, 6, 7, 8, 0] rfl))
                    · have c152 : ¬ tkV g i = 0 := by rw [tkV, ← ey 1 0 0 (Or.inl rfl), ← ey 2 0 0 (Or.inr rfl)]; exact c152
                      have ecu : cuF (tkV g) (i + 1) = cuF (tkV g) i + 1 := by rw [cuF, if_neg c152]
                      refine lv_aload_n hx hb d_G_write_155 rfl (lv_at hl 0 rfl) ?_
                      refine lv_aload hx hb d_G_write_156 (lv_at hl 4 rfl) ?_
                      refine lv_iload hx hb d_G_write_158 (lv_at hl 8 rfl) ?_
                      refine xv_Q (n := 2) (As := [.ref (ad 12 f 0), .int (nI i)]) (rest := []) hx hb hml hown hg hK0 hP (c_G_giveFreshRecord l D T A _ ad K N gy hz hG f i (by omega) (by omega) (Or.inr r3.2.2.1)) w_227 w_1 w_224 w_226 s_8 (ga_0 hG) rfl rfl (by decide +kernel) ⟨Nat.le_of_ble_eq_true rfl, Nat.le_of_ble_eq_true rfl⟩ rfl hl.1 rfl (Nat.le_of_ble_eq_true rfl) hS ⟨Nat.zero_le _, Nat.zero_le _⟩ rfl rfl d_G_write_160 (fun r M1 H_112 L_113 hr hP hS => ?_)
                      obtain ⟨rfl, hR1⟩ := hr
                      obtain ⟨g_114, hg_114⟩ : ∃ z, z = gvS K gy f i := ⟨_, rfl⟩
                      rw [← hg_114] at hR1
                      have hR := hR.tr hR1
                      have hG := hR.1
                      refine x_fr (pc := 163) [] rfl rfl ?_
                      refine lv_iinc (v := nI ((cuF (tkV g) i) + 1)) (lv' := [(7, .int (nI ((cuF (tkV g) i) + 1))), (0, .ref (ad 0 0 0)), (1, .int x), (2, .int (mixF x 1)), (3, .int (nI f)), (4, .ref (ad 12 f 0)), (5, .int (nI (w f + 1))), (6, .int (wRt K N g x (nI (w f + 1)))), (8, .int (nI i))]) hx hb d_G_write_163 hl (k := 7) rfl (nI_1 _) (by decide) rfl (fun ls hl => ?_)
                      refine lv_iinc (v := nI (i + 1)) (lv' := [(8, .int (nI (i + 1))), (7, .int (nI ((cuF (tkV g) i) + 1))), (0, .ref (ad 0 0 0)), (1, .int x), (2, .int (mixF x 1)), (3, .int (nI f)), (4, .ref (ad 12 f 0)), (5, .int (nI (w f + 1))), (6, .int (wRt K N g x (nI (w f + 1))))]) hx hb d_G_write_166 hl (k := 8) rfl (nI_1 _) (by decide) rfl (fun ls hl => ?_)
                      refine lv_goto (tgt := 137) hx hb d_G_write_169 (by decide) ?_
                      exact ih (i + 1) g_114 (by omega) (by omega) (by rw [hg_114]; exact gvR_step c152 (fun j hj => by rw [r3.1 7 0 0 (by omega) (by omega) (by omega) (by omega)]; exact e7 j hj) r3) _ _ _ hP hS hR ls (by rw [ecu]; exact (lv_sub hl [2, 3, 4, 5, 6, 7, 8, 1, 0] rfl))
              refine loopB (N + 1) 0 g_111 (by omega) (by omega) ⟨fun _ _ _ _ _ _ _ => rfl, ?_, ?_, ?_, ?_, ?_, fun s1 hs1 => absurd hs1 (by omega)⟩ _ _ _ hP hS hR ls (lv_sub hl [3, 4, 5, 6, 7, 8, 2, 1, 0] rfl)
              · intro j hj; rw [hg_111, ntS, upS_n (by omega), upS_n (by omega), upS_n (by omega), k2 j hj]; exact efp j
              · rw [hg_111, ntS, upS_n (by omega), upS_n (by omega), upS_n (by omega)]; exact k3
              · rw [hg_111, ntS, upS_n (by omega), upS_n (by omega), upS_n (by omega)]; exact k4
              · rw [hg_111, ntS, upS_n (by omega), upS_n (by omega), upS_n (by omega)]; exact hse
              · intro f1 s1 _; rw [hg_111, ntS]; refine ⟨?_, ?_⟩
                · rw [upS_n (by omega), upS_n (by omega), upS_n (by omega), k1 17 f1 s1 (by omega) (by omega), r1 17 f1 s1 (by omega)]
                · rw [upS_n (by omega), upS_n (by omega), upS_n (by omega), k1 18 f1 s1 (by omega) (by omega), r1 18 f1 s1 (by omega)]
            · refine lv_aload_n hx hb d_G_write_76 rfl (lv_at hl 0 rfl) ?_
              refine x_get (v := .ref (ad 6 0 0)) (C := R_G) (T := F_G) (N := 12) hx hb hg i_G hown hK hP (ga_0 hG) rfl 7 (by decide) (hg _ w_117) (fun _ h9 => h9) rfl d_G_write_77 ?_
              refine x_getN (v := .ref (ad 7 0 0)) (C := R_C) (T := F_C) (N := 3) hx hb hg i_C hown hK hP (ga_6 hG) rfl 1 (by decide) (va_Nw.use rfl (hN _ e_98)) (fun _ h9 => h9) rfl d_G_write_80 ?_
              refine lv_iload hx hb d_G_write_83 (lv_at hl 6 rfl) ?_
              refine lv_aload_n hx hb d_G_write_85 rfl (lv_at hl 0 rfl) ?_
              refine x_get (v := .ref (ad 4 0 0)) (C := R_G) (T := F_G) (N := 12) hx hb hg i_G hown hK hP (ga_0 hG) rfl 5 (by decide) (hg _ w_115) (fun _ h9 => h9) rfl d_G_write_86 ?_
              refine lv_iload hx hb d_G_write_89 (lv_at hl 6 rfl) ?_
              refine x_iald (v := gx 4 0 0 i) hx hb hK hP 0 (ga_4 hG) rfl (vp_in_nI (by omega) (by omega)) (by rw [nI_clamp (by omega)]) d_G_write_91 ?_
              refine lv_iload_n hx hb d_G_write_92 rfl (lv_at hl 2 rfl) ?_
              refine lv_iload hx hb d_G_write_93 (lv_at hl 5 rfl) ?_
              refine lv_iload hx hb d_G_write_95 (lv_at hl 6 rfl) ?_
              refine xs_R (n := 3) (As := [.int (mixF x 1), .int (nI (w f + 1)), .int (nI i)]) (rest := [.int (gx 4 0 0 i), .int (nI i), .ref (ad 7 0 0)]) hx hb hml hown hg hK0 hP (c_G_cipherMask l D T A _ (mixF x 1) (nI (w f + 1)) (nI i)) w_188 w_1 w_186 w_187 (by decide +kernel) ⟨Nat.le_of_ble_eq_true rfl, Nat.le_of_ble_eq_true rfl⟩ rfl hl.1 rfl (Nat.le_of_ble_eq_true rfl) ⟨Nat.zero_le _, Nat.zero_le _⟩ rfl rfl d_G_write_97 (fun r hr => ?_)
              subst hr
              refine x_fr (pc := 100) [.int (mixF (mixF x 1) ((nI (w f + 1)) * 8 + (nI i))), .int (gx 4 0 0 i), .int (nI i), .ref (ad 7 0 0)] rfl rfl ?_
              refine lv_ixor hx hb d_G_write_100 ?_
              refine x_iast hx hb hK hP hS 0 (ga_7 hG) rfl (vp_in_nI (by omega) (by omega)) d_G_write_101 (fun H_115 L_116 hP hS => ?_)
              rw [nI_clamp (by omega)] at hP
              obtain ⟨g_117, hg_117⟩ : ∃ z, z = upS gx 7 0 0 (upd (gx 7 0 0) i ((gx 4 0 0 i) ^^^ (mixF (mixF x 1) ((nI (w f + 1)) * 8 + (nI i))))) := ⟨_, rfl⟩
              obtain ⟨M_118, hP, hR⟩ : ∃ z, xW D classes A z H_115 ∧ gR T ad K N M g_117 z := ⟨_, hP, by rw [hg_117]; exact hR.set (Or.inl ⟨by omega, rfl, rfl⟩) rfl⟩
              have hG := hR.1
              have ra : ∀ k f s, k ≠ 7 → g_117 k f s = g k f s := fun k f s q1 => by rw [hg_117, upS_n (by omega)]; exact r1 k f s q1
              have rb : ∀ j, j < i + 1 → g_117 7 0 0 j = wCw g x (nI (w f + 1)) j := by
                intro j hj
                rw [hg_117, upS_s]
                by_cases hji : j = i
                · subst hji; rw [upd_s, r1 4 0 0 (by omega)]; rfl
                · rw [upd_n hji]; exact r2 j (by omega)
              refine lv_iinc (v := nI (i + 1)) (lv' := [(6, .int (nI (i + 1))), (0, .ref (ad 0 0 0)), (1, .int x), (2, .int (mixF x 1)), (3, .int (nI f)), (4, .ref (ad 12 f 0)), (5, .int (nI (w f + 1)))]) hx hb d_G_write_102 hl (k := 6) rfl (nI_1 _) (by decide) rfl (fun ls hl => ?_)
              refine lv_goto (tgt := 67) hx hb d_G_write_105 (by decide) ?_
              exact ih (i + 1) g_117 (by omega) (by omega) ra rb _ _ _ hP hS hR ls (lv_sub hl [1, 2, 3, 4, 5, 6, 0] rfl)
        exact loopA (K + 1) 0 g (by omega) (by omega) (fun _ _ _ _ => rfl) (fun j hj => absurd hj (by omega)) _ _ _ hP hS hR ls (lv_sub hl [5, 6, 4, 3, 2, 1, 0] rfl)
      · refine lv_bipush (v := (-2)) hx hb d_G_write_52 (by decide) ?_
        exact hret _ _ _ _ _ _ d_G_write_54 hP hS ⟨g, by rw [aWrite, if_pos c15, if_pos c28, ef, if_neg (Nat.not_lt.mpr c49)], hR, fun z => absurd z.2.2 (by rw [ef]; exact Nat.not_lt.mpr c49), fun _ => rfl⟩
    · refine lv_bipush (v := (-3)) hx hb d_G_write_31 (by decide) ?_
      exact hret _ _ _ _ _ _ d_G_write_33 hP hS ⟨g, by rw [aWrite, if_pos c15, if_neg (Nat.not_le.mpr c28)], hR, fun z => absurd z.2.1 (Nat.not_le.mpr c28), fun _ => rfl⟩
  · have c15 : ¬ 0 ≤ fuF g q (vkF x) := c15
    refine lv_iconst (v := (-1)) hx hb d_G_write_18 (by decide) ?_
    exact hret _ _ _ _ _ _ d_G_write_19 hP hS ⟨g, by rw [aWrite, if_neg c15], hR, fun z => absurd z.1 c15, fun _ => rfl⟩
