def vF (N f0 k f s : Nat) : Prop := f = f0 ∧ ((13 ≤ k ∧ k < 17 ∧ s = 0) ∨ (17 ≤ k ∧ k < 21 ∧ s < N))
def sF (f0 i j k f s : Nat) : Prop := f = f0 ∧ (((k = 13 ∨ k = 14) ∧ s = 0) ∨ ((k = 17 ∨ k = 18) ∧ s < i) ∨ ((k = 19 ∨ k = 20) ∧ s < j))
def cF (T : Nat → ClassId) (ad : Nat → Nat → Nat → Nat) (N i j k f s : Nat) : va_E := match k with
  | 13 => eQ (T 2) N (fun x => if x < i then some (ad 17 f x) else none)
  | 14 => eQ (T 2) N (fun x => if x < j then some (ad 19 f x) else none)
  | k => cG T ad 0 N (fun _ => 0) k f s
def iF (T : Nat → ClassId) (b N f0 i j : Nat) (ad : Nat → Nat → Nat → Nat) (M0 M : xM) : Prop := bS b (sF f0 i j) ad (cF T ad N i j) M0 M ∧ M b = some (.inr (2, [.ref (ad 13 f0 0), .ref (ad 14 f0 0), .null, .null, .int 0, .int 0]))
theorem h1_ne {T : Nat → ClassId} {b N f0 i j q : Nat} {ad : Nat → Nat → Nat → Nat} {M0 M : xM} (h : iF T b N f0 i j ad M0 M) (hq : M q = none) : b ≠ q := fun z => by
  have := h.2
  rw [z, hq] at this
  cases this
theorem h1_na {T : Nat → ClassId} {b N f0 i j q a : Nat} {d : va_E} {ad : Nat → Nat → Nat → Nat} {M0 M : xM} (h : iF T b N f0 i j ad M0 M) (hq : M q = none) (ha : xU M q d a = none) : b ≠ a := fun z => by
  rw [← z, xU_n (h1_ne h hq), h.2] at ha
  cases ha
set_option maxHeartbeats 1000000 in
theorem iF_r {T : Nat → ClassId} {b N f0 i q a : Nat} {ad : Nat → Nat → Nat → Nat} {M0 M : xM} (h : iF T b N f0 i i ad M0 M) (hq : M q = none) (ha : xU M q (.inr (1, [.null, .int 0, .int 0, .int 0, .int 0])) a = none) : (xU (xU (xU M q (.inr (1, [.null, .int 0, .int 0, .int 0, .int 0]))) a (eI (T 0) N (fun _ => 0))) q (.inr (1, [.ref a, .int 0, .int 0, .int 0, .int 0]))) (ad 13 f0 0) = some (eQ (T 2) N (fun x => if x < i then some (ad 17 f0 x) else none)) ∧ iF T b N f0 (i + 1) i (uA (uA ad 17 f0 i q) 18 f0 i a) M0 (xU (xU (xU (xU M q (.inr (1, [.null, .int 0, .int 0, .int 0, .int 0]))) a (eI (T 0) N (fun _ => 0))) q (.inr (1, [.ref a, .int 0, .int 0, .int 0, .int 0]))) (ad 13 f0 0) (eQ (T 2) N (va_up (fun x => if x < i then some (ad 17 f0 x) else none) i (some q)))) := by
  have hb : ∃ e, M b = some e := ⟨_, h.2⟩
  have h1 := h.1.rec (d := .inr (1, [.null, .int 0, .int 0, .int 0, .int 0])) (e := .inr (1, [.ref a, .int 0, .int 0, .int 0, .int 0])) (e2 := eI (T 0) N (fun _ => 0)) (k := 17) (f := f0) (s := i) (k2 := 18) (f2 := f0) (s2 := i) hb hq ha (by simp only [sF]; omega) (by simp only [sF]; omega) (by omega)
  have hm : sA (sA (sF f0 i i) 17 f0 i) 18 f0 i 13 f0 0 := by simp [sA, sF]
  have g := h1.1 13 f0 0 hm
  have e1 : (uA (uA ad 17 f0 i q) 18 f0 i a) 13 f0 0 = ad 13 f0 0 := by simp [uA]
  rw [e1] at g
  refine ⟨?_, ?_, ?_⟩
  · rw [g.1]
    simp [uA, cF]
  · have h2 := h1.set (c' := cF T (uA (uA ad 17 f0 i q) 18 f0 i a) N (i + 1) i) hm (e := eQ (T 2) N (va_up (fun x => if x < i then some (ad 17 f0 x) else none) i (some q))) ?_ ?_
    · rw [e1] at h2
      refine h2.congr (fun k f s => ?_) (fun _ _ _ _ => rfl)
      simp only [sA, sF]
      omega
    · simp only [cF]
      congr 5
      funext x
      simp only [va_up, uA]
      by_cases hx : x = i
      · simp [hx]
      · have hxx : x < i + 1 ↔ x < i := by omega
        simp [hx, hxx]
    · intro k f s z y
      simp only [sA, sF] at z
      have hf : f = f0 := by omega
      subst hf
      have hk : k = 13 ∨ k = 14 ∨ k = 17 ∨ k = 18 ∨ k = 19 ∨ k = 20 := by omega
      rcases hk with rfl | rfl | rfl | rfl | rfl | rfl
      all_goals (by_cases hs : s = i <;> simp [cF, cG, uA, hs] <;> omega)
  · rw [xU_n g.2.2.symm, xU_n (h1_ne h hq), xU_n (h1_na h hq ha), xU_n (h1_ne h hq), h.2]
    simp [uA]
set_option maxHeartbeats 1000000 in
theorem iF_p {T : Nat → ClassId} {b N f0 i q a : Nat} {ad : Nat → Nat → Nat → Nat} {M0 M : xM} (h : iF T b N f0 (i + 1) i ad M0 M) (hq : M q = none) (ha : xU M q (.inr (1, [.null, .int 0, .int 0, .int 0, .int 0])) a = none) : (xU (xU (xU M q (.inr (1, [.null, .int 0, .int 0, .int 0, .int 0]))) a (eI (T 0) N (fun _ => 0))) q (.inr (1, [.ref a, .int 0, .int 0, .int 0, .int 0]))) (ad 14 f0 0) = some (eQ (T 2) N (fun x => if x < i then some (ad 19 f0 x) else none)) ∧ iF T b N f0 (i + 1) (i + 1) (uA (uA ad 19 f0 i q) 20 f0 i a) M0 (xU (xU (xU (xU M q (.inr (1, [.null, .int 0, .int 0, .int 0, .int 0]))) a (eI (T 0) N (fun _ => 0))) q (.inr (1, [.ref a, .int 0, .int 0, .int 0, .int 0]))) (ad 14 f0 0) (eQ (T 2) N (va_up (fun x => if x < i then some (ad 19 f0 x) else none) i (some q)))) := by
  have hb : ∃ e, M b = some e := ⟨_, h.2⟩
  have h1 := h.1.rec (d := .inr (1, [.null, .int 0, .int 0, .int 0, .int 0])) (e := .inr (1, [.ref a, .int 0, .int 0, .int 0, .int 0])) (e2 := eI (T 0) N (fun _ => 0)) (k := 19) (f := f0) (s := i) (k2 := 20) (f2 := f0) (s2 := i) hb hq ha (by simp only [sF]; omega) (by simp only [sF]; omega) (by omega)
  have hm : sA (sA (sF f0 (i + 1) i) 19 f0 i) 20 f0 i 14 f0 0 := by simp [sA, sF]
  have g := h1.1 14 f0 0 hm
  have e1 : (uA (uA ad 19 f0 i q) 20 f0 i a) 14 f0 0 = ad 14 f0 0 := by simp [uA]
  rw [e1] at g
  refine ⟨?_, ?_, ?_⟩
  · rw [g.1]
    simp [uA, cF]
  · have h2 := h1.set (c' := cF T (uA (uA ad 19 f0 i q) 20 f0 i a) N (i + 1) (i + 1)) hm (e := eQ (T 2) N (va_up (fun x => if x < i then some (ad 19 f0 x) else none) i (some q))) ?_ ?_
    · rw [e1] at h2
      refine h2.congr (fun k f s => ?_) (fun _ _ _ _ => rfl)
      simp only [sA, sF]
      omega
    · simp only [cF]
      congr 5
      funext x
      simp only [va_up, uA]
      by_cases hx : x = i
      · simp [hx]
      · have hxx : x < i + 1 ↔ x < i := by omega
        simp [hx, hxx]
    · intro k f s z y
      simp only [sA, sF] at z
      have hf : f = f0 := by omega
      subst hf
      have hk : k = 13 ∨ k = 14 ∨ k = 17 ∨ k = 18 ∨ k = 19 ∨ k = 20 := by omega
      rcases hk with rfl | rfl | rfl | rfl | rfl | rfl
      all_goals (by_cases hs : s = i <;> simp [cF, cG, uA, hs] <;> omega)
  · rw [xU_n g.2.2.symm, xU_n (h1_ne h hq), xU_n (h1_na h hq ha), xU_n (h1_ne h hq), h.2]
    simp [uA]
set_option maxHeartbeats 4000000 in
set_option maxRecDepth 100000 in
theorem c_F_init (l : Launch) (D : va_G) (T : Nat → ClassId) (A : Nat → Prop) (M : xM) (sz : Nat) (hA0 : ∀ q, sz ≤ q → A q) (b N f0 : Nat) (h7 : N ≤ 7) (h0 : M b = some (.inr (2, [.null, .null, .null, .null, .int 0, .int 0]))) : Met l y_F_init (Cond.code y_F_init b_F_init 3 none :: gw) (rmC 2 32 244) (xPn D T A M sz [.ref b, .int (nI N)]) (xQ D A (fun r M1 => r = none ∧ ∃ ad, bS b (vF N f0) ad (fun k f s => cG T ad 0 N (fun _ => 0) k f s) M M1 ∧ M1 b = some (.inr (2, [.ref (ad 13 f0 0), .ref (ad 14 f0 0), .ref (ad 15 f0 0), .ref (ad 16 f0 0), .int 0, .int 0])))) 32 244 A := by
  refine xMetNv hA0 (by decide) (Nat.le_of_ble_eq_true rfl) ?_
  intro p e s m below meth c Q ls hB hP hS hA hl hret
  obtain ⟨hx, hb, hml, hown, hg, hK0, hnm⟩ := hB
  have hnm : meth.name = "<init>" := hnm
  have hown : s.vm.findClass "ShareGrid$StoredFile" = some m.cls := hown
  have hK := hK0.1
  have hN := hK0.2.1
  have hO := hK0.2.2
  have hl : lv_has ls 3 [(0, .ref b), (1, .int (nI N))] := hl
  have lp : ∀ (n i : Nat), N < i + n → i ≤ N → ∀ (ad : Nat → Nat → Nat → Nat) (Mx : xM) (Hx : Heap) (Lx : List Loc), xW D classes A Mx Hx → va_S A s.heap Hx Lx → iF T b N f0 i i ad M Mx → ∀ (ls : Array Slot), lv_has ls 3 [(0, .ref b), (1, .int (nI N)), (2, .int (nI i))] → W p l e (rmC 2 32 244) s m [.ref b, .int (nI N)].toArray below meth c Hx Lx (2 + 4 * i) (14 + 24 * i) Q (F0 m 22 ls []) := by
    intro n
    induction n with
    | zero =>
      intro i hi hi2
      exact absurd hi (by omega)
    | succ n ih =>
      intro i hi hi2 ad Mx Hx Lx hP hS hF ls hl
      refine lv_iload_n hx hb d_F_init_22 rfl (lv_at hl 2 rfl) ?_
      refine lv_iload_n hx hb d_F_init_23 rfl (lv_at hl 1 rfl) ?_
      refine x_nc_ge (tgt := 61) hx hb d_F_init_24 (by decide) (by omega) (by omega) (fun hc => ?_) (fun hc => ?_)
      · have hiN : i = N := by omega
        subst hiN
        obtain ⟨hB, h0⟩ := hF
        refine lv_aload_n hx hb d_F_init_61 rfl (lv_at hl 0 rfl) ?_
        refine lv_bipush (v := nI 31) hx hb d_F_init_62 (by decide) ?_
        refine x_newi (atype := .int) (n := nI 31) (N' := 31) hx hb (hg _ w_67) rfl hK hP hS hA 0 rfl (nI_pos (by omega)) (nI_clamp (by omega)) (by omega) (by simp only [rmC]; omega) (by simp only [rmC]; omega) d_F_init_64 (fun q1 H_321 hq1 hP hS => ?_)
        have hB := hB.add (k := 15) (f := f0) (s := 0) (e := eI (T 0) 31 (fun _ => 0)) ⟨_, h0⟩ hq1 (by simp only [sF]; omega)
        have h0 := xU_kn (e := eI (T 0) 31 (fun _ => 0)) hq1 h0
        refine x_putF (v := .ref q1) (ty := t_F 2) (C := R_F) (T := F_F) (N := 6) hx hb hg i_F t_F t_F_ok n_F hown hK hP hS h0 rfl 2 (by decide) (hg _ w_72) (fun _ h9 => h9) rfl hnm rfl (by decide +kernel) rfl rfl (Nat.le_of_ble_eq_true rfl) d_F_init_66 (fun H_322 L_323 hP hS => ?_)
        obtain ⟨M2, hP, hB, h0⟩ : ∃ z, xW D classes A z H_322 ∧ bS b (sA (sF f0 i i) 15 f0 0) (uA ad 15 f0 0 q1) (uA (cF T ad i i i) 15 f0 0 (eI (T 0) 31 (fun _ => 0))) M z ∧ z b = some (.inr (2, [.ref (ad 13 f0 0), .ref (ad 14 f0 0), .ref q1, .null, .int 0, .int 0])) := ⟨_, hP, hB.own _, xU_s⟩
        refine lv_aload_n hx hb d_F_init_69 rfl (lv_at hl 0 rfl) ?_
        refine lv_bipush (v := nI 31) hx hb d_F_init_70 (by decide) ?_
        refine x_newi (atype := .int) (n := nI 31) (N' := 31) hx hb (hg _ w_67) rfl hK hP hS hA 0 rfl (nI_pos (by omega)) (nI_clamp (by omega)) (by omega) (by simp only [rmC]; omega) (by simp only [rmC]; omega) d_F_init_72 (fun q2 H_324 hq2 hP hS => ?_)
        have hB := hB.add (k := 16) (f := f0) (s := 0) (e := eI (T 0) 31 (fun _ => 0)) ⟨_, h0⟩ hq2 (by simp only [sA, sF]; omega)
        have h0 := xU_kn (e := eI (T 0) 31 (fun _ => 0)) hq2 h0
        refine x_putF (v := .ref q2) (ty := t_F 3) (C := R_F) (T := F_F) (N := 6) hx hb hg i_F t_F t_F_ok n_F hown hK hP hS h0 rfl 3 (by decide) (hg _ w_73) (fun _ h9 => h9) rfl hnm rfl (by decide +kernel) rfl rfl (Nat.le_of_ble_eq_true rfl) d_F_init_74 (fun H_325 L_326 hP hS => ?_)
        obtain ⟨M2, hP, hB, h0⟩ : ∃ z, xW D classes A z H_325 ∧ bS b (sA (sA (sF f0 i i) 15 f0 0) 16 f0 0) (uA (uA ad 15 f0 0 q1) 16 f0 0 q2) (uA (uA (cF T ad i i i) 15 f0 0 (eI (T 0) 31 (fun _ => 0))) 16 f0 0 (eI (T 0) 31 (fun _ => 0))) M z ∧ z b = some (.inr (2, [.ref (ad 13 f0 0), .ref (ad 14 f0 0), .ref q1, .ref q2, .int 0, .int 0])) := ⟨_, hP, hB.own _, xU_s⟩
        obtain ⟨a1, ha1⟩ : ∃ z, z = uA (uA ad 15 f0 0 q1) 16 f0 0 q2 := ⟨_, rfl⟩
        rw [← ha1] at hB
        have m13 : sA (sA (sF f0 i i) 15 f0 0) 16 f0 0 13 f0 0 := by simp [sA, sF]
        have m14 : sA (sA (sF f0 i i) 15 f0 0) 16 f0 0 14 f0 0 := by simp [sA, sF]
        have g13 : M2 (a1 13 f0 0) = some (eQ (T 2) i (fun x => if x < i then some (ad 17 f0 x) else none)) := (hB.1 13 f0 0 m13).1
        have hP := hP.extq (f' := fun x => some (ad 17 f0 x)) g13 (fun j hj => if_pos hj)
        have g14 : xU M2 (a1 13 f0 0) (eQ (T 2) i (fun x => some (ad 17 f0 x))) (a1 14 f0 0) = some (eQ (T 2) i (fun x => if x < i then some (ad 19 f0 x) else none)) := xU_k (fun z => absurd (hB.2.1 _ _ _ _ _ _ m14 m13 z).1 (by decide)) (hB.1 14 f0 0 m14).1
        have hP := hP.extq (f' := fun x => some (ad 19 f0 x)) g14 (fun j hj => if_pos hj)
        have hB2 := (hB.set1 (e := eQ (T 2) i (fun x => some (ad 17 f0 x))) m13).set1 (e := eQ (T 2) i (fun x => some (ad 19 f0 x))) m14
        refine W.widen (k := 32) (n := 244) (by omega) (by omega) ?_
        refine hret _ _ _ _ _ d_F_init_77 hP hS ⟨rfl, a1, hB2.congr (fun k f s => ?_) (fun k f s z => ?_), ?_⟩
        · simp only [vF, sA, sF]
          omega
        · simp only [vF] at z
          have hf : f = f0 := z.1
          subst hf
          have hk : k = 13 ∨ k = 14 ∨ k = 15 ∨ k = 16 ∨ k = 17 ∨ k = 18 ∨ k = 19 ∨ k = 20 := by omega
          subst ha1
          rcases hk with rfl | rfl | rfl | rfl | rfl | rfl | rfl | rfl
          all_goals (first | (have hs : s = 0 := by omega); (subst hs); (simp [cF, cG, uA]) | (simp [cF, cG, uA]))
        · rw [xU_n (hB.1 14 f0 0 m14).2.2.symm, xU_n (hB.1 13 f0 0 m13).2.2.symm, h0, ha1]
          simp [uA]
      · refine lv_aload_n hx hb d_F_init_27 rfl (lv_at hl 0 rfl) ?_
        refine x_get (v := .ref (ad 13 f0 0)) (C := R_F) (T := F_F) (N := 6) hx hb hg i_F hown hK hP hF.2 rfl 0 (by decide) (hg _ w_68) (fun _ h9 => h9) rfl d_F_init_28 ?_
        refine lv_iload_n hx hb d_F_init_31 rfl (lv_at hl 2 rfl) ?_
        refine x_new (ci := 1) (fs := [.null, .int 0, .int 0, .int 0, .int 0]) (C := R_R) (T := F_R) (N := 5) hx hb hg i_R t_R t_R_ok hown (hg _ w_33) (hg _ w_35) (hg _ w_4) hK hP hS hA rfl (fun j hj => by rcases (show j = 0 ∨ j = 1 ∨ j = 2 ∨ j = 3 ∨ j = 4 by omega) with rfl | rfl | rfl | rfl | rfl <;> rfl) (by simp only [rmC]; omega) (by simp only [rmC]; omega) d_F_init_32 (fun q H_327 hq hP hS => ?_)
        refine lv_dup hx hb d_F_init_35 rfl ?_
        refine lv_iload_n hx hb d_F_init_36 rfl (lv_at hl 1 rfl) ?_
        refine xin_N (n := 1) (As := [.int (nI N)]) (rest := [.ref q, .int (nI i), .ref (ad 13 f0 0)]) hx hb hml hown hg hK0 hP hN (c_R_init l D T A _ _ (fun q hq => hA q (Nat.le_trans hS.1 hq)) q N (by omega) xU_s) w_38 w_4 e_36 w_37 rfl (by decide +kernel) ⟨Nat.le_of_ble_eq_true rfl, Nat.le_of_ble_eq_true rfl⟩ rfl hl.1 rfl (Nat.le_of_ble_eq_true rfl) hS ⟨by simp only [rmC]; omega, by simp only [rmC]; omega⟩ rfl rfl d_F_init_37 (fun r M1 H_328 L_329 hr hP hS => ?_)
        obtain ⟨rfl, a, ha, hM1⟩ := hr
        subst hM1
        refine x_fr (pc := 40) [.ref q, .int (nI i), .ref (ad 13 f0 0)] rfl rfl ?_
        obtain ⟨g1, g2⟩ := iF_r hF hq ha
        refine x_astq (r := (R_R, F_R, 5)) hx hb hK hP hS 2 1 g1 rfl xU_s rfl (vp_in_nI (by omega) (by omega)) d_F_init_40 (fun H_330 L_331 hP hS => ?_)
        rw [nI_clamp (by omega)] at hP
        obtain ⟨ad, Mx, hP, hF⟩ : ∃ z y, xW D classes A y H_330 ∧ iF T b N f0 (i + 1) i z M y := ⟨_, _, hP, g2⟩
        refine lv_aload_n hx hb d_F_init_41 rfl (lv_at hl 0 rfl) ?_
        refine x_get (v := .ref (ad 14 f0 0)) (C := R_F) (T := F_F) (N := 6) hx hb hg i_F hown hK hP hF.2 rfl 1 (by decide) (hg _ w_70) (fun _ h9 => h9) rfl d_F_init_42 ?_
        refine lv_iload_n hx hb d_F_init_45 rfl (lv_at hl 2 rfl) ?_
        refine x_new (ci := 1) (fs := [.null, .int 0, .int 0, .int 0, .int 0]) (C := R_R) (T := F_R) (N := 5) hx hb hg i_R t_R t_R_ok hown (hg _ w_33) (hg _ w_35) (hg _ w_4) hK hP hS hA rfl (fun j hj => by rcases (show j = 0 ∨ j = 1 ∨ j = 2 ∨ j = 3 ∨ j = 4 by omega) with rfl | rfl | rfl | rfl | rfl <;> rfl) (by simp only [rmC]; omega) (by simp only [rmC]; omega) d_F_init_46 (fun q H_332 hq hP hS => ?_)
        refine lv_dup hx hb d_F_init_49 rfl ?_
        refine lv_iload_n hx hb d_F_init_50 rfl (lv_at hl 1 rfl) ?_
        refine xin_N (n := 1) (As := [.int (nI N)]) (rest := [.ref q, .int (nI i), .ref (ad 14 f0 0)]) hx hb hml hown hg hK0 hP hN (c_R_init l D T A _ _ (fun q hq => hA q (Nat.le_trans hS.1 hq)) q N (by omega) xU_s) w_38 w_4 e_36 w_37 rfl (by decide +kernel) ⟨Nat.le_of_ble_eq_true rfl, Nat.le_of_ble_eq_true rfl⟩ rfl hl.1 rfl (Nat.le_of_ble_eq_true rfl) hS ⟨by simp only [rmC]; omega, by simp only [rmC]; omega⟩ rfl rfl d_F_init_51 (fun r M1 H_333 L_334 hr hP hS => ?_)
        obtain ⟨rfl, a, ha, hM1⟩ := hr
        subst hM1
        refine x_fr (pc := 54) [.ref q, .int (nI i), .ref (ad 14 f0 0)] rfl rfl ?_
        obtain ⟨g1, g2⟩ := iF_p hF hq ha
        refine x_astq (r := (R_R, F_R, 5)) hx hb hK hP hS 2 1 g1 rfl xU_s rfl (vp_in_nI (by omega) (by omega)) d_F_init_54 (fun H_335 L_336 hP hS => ?_)
        rw [nI_clamp (by omega)] at hP
        obtain ⟨ad, Mx, hP, hF⟩ : ∃ z y, xW D classes A y H_335 ∧ iF T b N f0 (i + 1) (i + 1) z M y := ⟨_, _, hP, g2⟩
        refine lv_iinc (v := nI (i + 1)) (lv' := [(2, .int (nI (i + 1))), (0, .ref b), (1, .int (nI N))]) hx hb d_F_init_55 hl (k := 2) rfl (nI_1 _) (by decide) rfl (fun ls hl => ?_)
        refine lv_goto (tgt := 22) hx hb d_F_init_58 (by decide) ?_
        refine W.widen (k := 2 + 4 * (i + 1)) (n := 14 + 24 * (i + 1)) (by omega) (by omega) ?_
        exact ih (i + 1) (by omega) (by omega) ad Mx _ _ hP hS hF ls (lv_sub hl [1, 2, 0] rfl)
  refine lv_aload_n hx hb d_F_init_0 rfl (lv_at hl 0 rfl) ?_
  refine W.objInit hx hb hown (hg _ w_32) (hg _ w_15) (hg _ w_16) rfl (by rw [hml]; exact hl.1) rfl d_F_init_1 (Nat.le_of_ble_eq_true rfl) (Nat.le_of_ble_eq_true rfl) ?_
  refine W.eq (g2 := F0 m 4 ls []) rfl ?_
  refine lv_aload_n hx hb d_F_init_4 rfl (lv_at hl 0 rfl) ?_
  refine lv_iload_n hx hb d_F_init_5 rfl (lv_at hl 1 rfl) ?_
  refine x_newq (C := "ShareGrid$ServerRecord") (n := nI N) (N' := N) hx hb hown (hg _ w_33) (hO _ (by decide +kernel)) hK hP hS hA 2 rfl (nI_pos (by omega)) (nI_clamp (by omega)) (by omega) (by simp only [rmC]; omega) (by simp only [rmC]; omega) d_F_init_6 (fun q1 H_337 hq1 hP hS => ?_)
  have hb1 : b ≠ q1 := fun z => by rw [← z, h0] at hq1; cases hq1
  have hB := (bS.nil b (fun _ _ _ => 0) (fun _ _ _ => .inr (0, [])) M).add (k := 13) (f := f0) (s := 0) (e := eQ (T 2) N (fun _ => none)) ⟨_, h0⟩ hq1 (fun z => z)
  have h0 := xU_kn (e := eQ (T 2) N (fun _ => none)) hq1 h0
  refine x_putF (v := .ref q1) (ty := t_F 0) (C := R_F) (T := F_F) (N := 6) hx hb hg i_F t_F t_F_ok n_F hown hK hP hS h0 rfl 0 (by decide) (hg _ w_68) (fun _ h9 => h9) rfl hnm rfl (by decide +kernel) rfl rfl (Nat.le_of_ble_eq_true rfl) d_F_init_9 (fun H_338 L_339 hP hS => ?_)
  have hB := hB.own (.inr (2, [.ref q1, .null, .null, .null, .int 0, .int 0]))
  have h0 : xU (xU M q1 (eQ (T 2) N (fun _ => none))) b (.inr (2, [.ref q1, .null, .null, .null, .int 0, .int 0])) b = some (.inr (2, [.ref q1, .null, .null, .null, .int 0, .int 0])) := xU_s
  refine lv_aload_n hx hb d_F_init_12 rfl (lv_at hl 0 rfl) ?_
  refine lv_iload_n hx hb d_F_init_13 rfl (lv_at hl 1 rfl) ?_
  refine x_newq (C := "ShareGrid$ServerRecord") (n := nI N) (N' := N) hx hb hown (hg _ w_33) (hO _ (by decide +kernel)) hK hP hS hA 2 rfl (nI_pos (by omega)) (nI_clamp (by omega)) (by omega) (by simp only [rmC]; omega) (by simp only [rmC]; omega) d_F_init_14 (fun q2 H_340 hq2 hP hS => ?_)
  have hB := hB.add (k := 14) (f := f0) (s := 0) (e := eQ (T 2) N (fun _ => none)) ⟨_, h0⟩ hq2 (by simp [sA])
  have h0 := xU_kn (e := eQ (T 2) N (fun _ => none)) hq2 h0
  refine x_putF (v := .ref q2) (ty := t_F 1) (C := R_F) (T := F_F) (N := 6) hx hb hg i_F t_F t_F_ok n_F hown hK hP hS h0 rfl 1 (by decide) (hg _ w_70) (fun _ h9 => h9) rfl hnm rfl (by decide +kernel) rfl rfl (Nat.le_of_ble_eq_true rfl) d_F_init_17 (fun H_341 L_342 hP hS => ?_)
  have hB := hB.own (.inr (2, [.ref q1, .ref q2, .null, .null, .int 0, .int 0]))
  refine lv_iconst (v := nI 0) hx hb d_F_init_20 (by decide) ?_
  refine lv_istore_n (lv' := [(2, .int (nI 0)), (0, .ref b), (1, .int (nI N))]) hx hb d_F_init_21 rfl hl (by decide) rfl (fun ls hl => ?_)
  refine W.widen (k := 2 + 4 * 0) (n := 14 + 24 * 0) (by omega) (by omega) ?_
  refine lp (N + 1) 0 (by omega) (by omega) _ _ _ _ hP hS ⟨hB.congr (fun k f s => ?_) (fun k f s z => ?_), ?_⟩ ls (lv_sub hl [1, 2, 0] rfl)
  · simp only [sA, sF, false_or]
    omega
  · simp only [sF] at z
    have hf : f = f0 := z.1
    have hs : s = 0 := by omega
    subst hf
    subst hs
    have hk : k = 13 ∨ k = 14 := by omega
    rcases hk with rfl | rfl <;> simp [cF, uA]
  · rw [xU_s]
    simp [uA]
