/-! more methods of the class -/
abbrev cNone : Int64 := -1000000000000
def fuF (g : gT) (q : Nat) (x : Int32) : Int32 := fdF (fun f => g 12 f 0 0) x 0 q
theorem fdF_ix (vk : Nat → Int32) (v : Int32) : ∀ (n i : Nat), fdF vk v i n = -1 ∨ ∃ f, i ≤ f ∧ f < i + n ∧ fdF vk v i n = nI f := by
  intro n
  induction n with
  | zero => intro i; exact Or.inl rfl
  | succ n ih =>
    intro i
    rw [fdF]
    by_cases h : vk i = v
    · rw [if_pos h]; exact Or.inr ⟨i, Nat.le_refl i, by omega, rfl⟩
    · rw [if_neg h]
      rcases ih (i + 1) with h1 | ⟨f, h1, h2, h3⟩
      · exact Or.inl h1
      · exact Or.inr ⟨f, by omega, by omega, h3⟩
theorem fuF_ge {g : gT} {q : Nat} {x : Int32} (h : 0 ≤ fuF g q x) : ∃ f, f < q ∧ fuF g q x = nI f := by
  rcases fdF_ix (fun f => g 12 f 0 0) x q 0 with h1 | ⟨f, -, h2, h3⟩
  · rw [fuF, h1] at h; exact absurd h (by decide)
  · exact ⟨f, by omega, h3⟩
def spF (N : Nat) (g : gT) (f s : Nat) : Int32 := if g 1 0 0 s = 0 then 0 else sdG N g f s
def svF (N : Nat) (g : gT) (f : Nat) (x : Int32) (s : Nat) : Int32 := if g 1 0 0 s = 0 then 0 else if sdG N g f s = 0 then 0 else if g 17 f s 2 = x then 1 else 0
def bdF (cn : Nat → Nat) (K : Nat) : Nat → Nat
  | 0 => 0
  | w + 1 => if K ≤ cn (w + 1) then w + 1 else bdF cn K w
def beF (K N : Nat) (g : gT) (f : Nat) : Nat := bdF (fun j => cuF (svF N g f (nI j)) N) K (g 12 f 0 1).toNatClampNeg
def cpS (g : gT) (k f s k' f' s' : Nat) : gT := upS (upS g k' f' s' (g k f s)) (k' + 1) f' s' (g (k + 1) f s)
def aKey (x y : Int32) : Int32 := if y = 1 then mixF x 1 else if y = 2 then mixF x 2 else if y = 3 then mixF (mixF x 1) 2 else 0
def aWord (K : Nat) (g : gT) (x : Int32) : Int64 := if g 0 0 0 1 = 0 then cNone else if inF x (nI K) = 0 then cNone else (g 5 0 0 x.toNatClampNeg).toInt64
def aShare (N : Nat) (g : gT) (x y z : Int32) : Int64 := if inF x (g 0 0 0 0) = 0 then cNone else if inF y (nI N) = 0 then cNone else if g 17 x.toNatClampNeg y.toNatClampNeg 0 = 0 then cNone else if z = 0 then (g 17 x.toNatClampNeg y.toNatClampNeg 1).toInt64 else if z = 1 then (g 17 x.toNatClampNeg y.toNatClampNeg 2).toInt64 else if z = 2 then (g 17 x.toNatClampNeg y.toNatClampNeg 3).toInt64 else cNone
def aTimes (x y : Int32) : Int32 := if byF x = 0 then -1 else if byF y = 0 then -1 else scF x y
def aCount (K N : Nat) (g : gT) (q : Nat) (x : Int32) : Int32 := if x = 0 then g 0 0 0 0 else if x = 1 then nI (cuF (g 1 0 0) N) else if x = 2 then nI K else if x = 3 then nI N else gnF g q (x - 10)
def aSound (N : Nat) (g : gT) (q : Nat) (x : Int32) : Int32 := if 0 ≤ fuF g q x then nI (cuF (spF N g (fuF g q x).toNatClampNeg) N) else -1
def aBest (K N : Nat) (g : gT) (q : Nat) (x : Int32) : Int32 := if 0 ≤ fuF g q x then nI (beF K N g (fuF g q x).toNatClampNeg) else -1
def aPicture (N : Nat) (g : gT) (x y : Int32) : Int32 × gT := if inF x (g 0 0 0 0) = 0 then (-1, g) else if inF y (nI N) = 0 then (-1, g) else if g 17 x.toNatClampNeg y.toNatClampNeg 0 = 0 then (-1, g) else (0, cpS g 17 x.toNatClampNeg y.toNatClampNeg 19 x.toNatClampNeg y.toNatClampNeg)
def aFall (N : Nat) (g : gT) (x y : Int32) : Int32 × gT := if inF x (g 0 0 0 0) = 0 then (-1, g) else if inF y (nI N) = 0 then (-1, g) else if g 19 x.toNatClampNeg y.toNatClampNeg 0 = 0 then (-1, g) else (0, cpS g 19 x.toNatClampNeg y.toNatClampNeg 17 x.toNatClampNeg y.toNatClampNeg)
def tmG (g : gT) (f i : Nat) (z x : Int32) : gT := if z = 0 then upS g 17 f i (upd (g 17 f i) 1 (g 17 f i 1 ^^^ x)) else if z = 1 then upS g 17 f i (upd (g 17 f i) 2 (g 17 f i 2 ^^^ x)) else if z = 2 then upS g 17 f i (upd (g 17 f i) 3 (g 17 f i 3 ^^^ x)) else upS g 18 f i (upd (g 18 f i) (z.toNatClampNeg - 3) (g 18 f i (z.toNatClampNeg - 3) ^^^ x))
def aTamper (N : Nat) (g : gT) (x y z u : Int32) : Int32 × gT := if inF x (g 0 0 0 0) = 0 then (-1, g) else if inF y (nI N) = 0 then (-1, g) else if z < 0 then (-1, g) else if z < nI (3 + N) then (if g 17 x.toNatClampNeg y.toNatClampNeg 0 = 0 then (-1, g) else (0, tmG g x.toNatClampNeg y.toNatClampNeg z u)) else (-1, g)
set_option maxHeartbeats 4000000 in
set_option maxRecDepth 100000 in
theorem c_G_key (l : Launch) (D : va_G) (T : Nat → ClassId) (A : Nat → Prop) (M : xM) (ad : Nat → Nat → Nat → Nat) (K N : Nat) (g : gT) (hz : zB K N) (hG : gG T ad K N g M) (x y : Int32) : Met l y_G_key (Cond.code y_G_key b_G_key 3 (some .int) :: gw) (rmH 2) (xPc D T A M [.ref (ad 0 0 0), .int x, .int y]) (xR (fun r => r = some (.int (aKey x y)))) 0 0 (fun _ => False) := by
  refine xMetRi (by decide) (Nat.le_of_ble_eq_true rfl) ?_
  intro p e s m below meth c Q ls hB hP hl hret
  obtain ⟨hx, hb, hml, hown, hg, hK0, hnm⟩ := hB
  have hown : s.vm.findClass "ShareGrid" = some m.cls := hown
  have hK := hK0.1
  have hN := hK0.2.1
  obtain ⟨hz1, hz4, hzn, hz7⟩ := id hz
  have hl : lv_has ls 3 [(0, .ref (ad 0 0 0)), (1, .int x), (2, .int y)] := hl
  refine lv_iload_n hx hb d_G_key_0 rfl (lv_at hl 2 rfl) ?_
  by_cases s1 : y = 1
  · refine lv_tableIn (off := 27) (tgt := 28) hx hb d_G_key_1 (by rw [s1]; decide) (by rw [s1]; decide) (by rw [s1]; rfl) (by decide) ?_
    refine lv_iload_n hx hb d_G_key_28 rfl (lv_at hl 1 rfl) ?_
    refine xs_R (n := 1) (As := [.int x]) (rest := []) hx hb hml hown hg hK0 hP (c_G_readKeyOf l D T A _ x) w_153 w_1 w_151 w_152 (by decide +kernel) ⟨Nat.le_of_ble_eq_true rfl, Nat.le_of_ble_eq_true rfl⟩ rfl hl.1 rfl (Nat.le_of_ble_eq_true rfl) ⟨Nat.zero_le _, Nat.zero_le _⟩ rfl rfl d_G_key_29 (fun r hr => ?_)
    subst hr
    refine x_fr (pc := 32) [.int (mixF x 1)] rfl rfl ?_
    exact hret _ _ _ d_G_key_32 (by simp [aKey, s1])
  · by_cases s2 : y = 2
    · refine lv_tableIn (off := 32) (tgt := 33) hx hb d_G_key_1 (by rw [s2]; decide) (by rw [s2]; decide) (by rw [s2]; rfl) (by decide) ?_
      refine lv_iload_n hx hb d_G_key_33 rfl (lv_at hl 1 rfl) ?_
      refine xs_R (n := 1) (As := [.int x]) (rest := []) hx hb hml hown hg hK0 hP (c_G_verifyKeyOf l D T A _ x) w_161 w_1 w_159 w_160 (by decide +kernel) ⟨Nat.le_of_ble_eq_true rfl, Nat.le_of_ble_eq_true rfl⟩ rfl hl.1 rfl (Nat.le_of_ble_eq_true rfl) ⟨Nat.zero_le _, Nat.zero_le _⟩ rfl rfl d_G_key_34 (fun r hr => ?_)
      subst hr
      refine x_fr (pc := 37) [.int (mixF x 2)] rfl rfl ?_
      exact hret _ _ _ d_G_key_37 (by simp [aKey, s1, s2])
    · by_cases s3 : y = 3
      · refine lv_tableIn (off := 37) (tgt := 38) hx hb d_G_key_1 (by rw [s3]; decide) (by rw [s3]; decide) (by rw [s3]; rfl) (by decide) ?_
        refine lv_iload_n hx hb d_G_key_38 rfl (lv_at hl 1 rfl) ?_
        refine xs_R (n := 1) (As := [.int x]) (rest := []) hx hb hml hown hg hK0 hP (c_G_readKeyOf l D T A _ x) w_153 w_1 w_151 w_152 (by decide +kernel) ⟨Nat.le_of_ble_eq_true rfl, Nat.le_of_ble_eq_true rfl⟩ rfl hl.1 rfl (Nat.le_of_ble_eq_true rfl) ⟨Nat.zero_le _, Nat.zero_le _⟩ rfl rfl d_G_key_39 (fun r hr => ?_)
        subst hr
        refine x_fr (pc := 42) [.int (mixF x 1)] rfl rfl ?_
        refine xs_R (n := 1) (As := [.int (mixF x 1)]) (rest := []) hx hb hml hown hg hK0 hP (c_G_verifyKeyOf l D T A _ (mixF x 1)) w_161 w_1 w_159 w_160 (by decide +kernel) ⟨Nat.le_of_ble_eq_true rfl, Nat.le_of_ble_eq_true rfl⟩ rfl hl.1 rfl (Nat.le_of_ble_eq_true rfl) ⟨Nat.zero_le _, Nat.zero_le _⟩ rfl rfl d_G_key_42 (fun r hr => ?_)
        subst hr
        refine x_fr (pc := 45) [.int (mixF (mixF x 1) 2)] rfl rfl ?_
        exact hret _ _ _ d_G_key_45 (by simp [aKey, s1, s2, s3])
      · have hout : (y).toInt < 1 ∨ 3 < (y).toInt := by
          have q1 := lv_neT s1 (a := 1) (by decide)
          have q2 := lv_neT s2 (a := 2) (by decide)
          have q3 := lv_neT s3 (a := 3) (by decide)
          omega
        refine lv_tableOut (tgt := 46) hx hb d_G_key_1 hout (by decide) ?_
        refine lv_iconst (v := 0) hx hb d_G_key_46 (by decide) ?_
        exact hret _ _ _ d_G_key_47 (by simp [aKey, s1, s2, s3])
set_option maxHeartbeats 4000000 in
set_option maxRecDepth 100000 in
theorem c_G_word (l : Launch) (D : va_G) (T : Nat → ClassId) (A : Nat → Prop) (M : xM) (ad : Nat → Nat → Nat → Nat) (K N : Nat) (g : gT) (hz : zB K N) (hG : gG T ad K N g M) (x : Int32) : Met l y_G_word (Cond.code y_G_word b_G_word 2 (some .long) :: gw) (rmH 1) (xPc D T A M [.ref (ad 0 0 0), .int x]) (xR (fun r => r = some (.long (aWord K g x)))) 0 0 (fun _ => False) := by
  refine xMetRl (by decide) (Nat.le_of_ble_eq_true rfl) ?_
  intro p e s m below meth c Q ls hB hP hl hret
  obtain ⟨hx, hb, hml, hown, hg, hK0, hnm⟩ := hB
  have hown : s.vm.findClass "ShareGrid" = some m.cls := hown
  have hK := hK0.1
  have hN := hK0.2.1
  obtain ⟨hz1, hz4, hzn, hz7⟩ := id hz
  have hl : lv_has ls 2 [(0, .ref (ad 0 0 0)), (1, .int x)] := hl
  refine lv_aload_n hx hb d_G_word_0 rfl (lv_at hl 0 rfl) ?_
  refine x_get (v := .int (g 0 0 0 1)) (C := R_G) (T := F_G) (N := 12) hx hb hg i_G hown hK hP (ga_0 hG) rfl 11 (by decide) (hg _ w_121) (fun _ h9 => h9) rfl d_G_word_1 ?_
  refine lv_if_eq (tgt := 15) hx hb d_G_word_4 (by decide) (fun c_4 => ?_) (fun c_4 => ?_)
  · refine lv_ldc2 (v := (-1000000000000)) hx hb hown (hg _ w_285) d_G_word_15 ?_
    exact hret _ _ _ d_G_word_18 (by simp [aWord, c_4])
  · refine lv_aload_n hx hb d_G_word_7 rfl (lv_at hl 0 rfl) ?_
    refine lv_iload_n hx hb d_G_word_8 rfl (lv_at hl 1 rfl) ?_
    refine xv_R (n := 1) (As := [.int x]) (rest := []) hx hb hml hown hg hK0 hP (c_G_isWordPlace l D T A _ ad K N g hz hG x) w_177 w_1 w_174 w_176 s_1 (ga_0 hG) rfl rfl (by decide +kernel) ⟨Nat.le_of_ble_eq_true rfl, Nat.le_of_ble_eq_true rfl⟩ rfl hl.1 rfl (Nat.le_of_ble_eq_true rfl) ⟨Nat.zero_le _, Nat.zero_le _⟩ rfl rfl d_G_word_9 (fun r hr => ?_)
    subst hr
    refine x_fr (pc := 12) [.int (inF x (nI K))] rfl rfl ?_
    refine lv_if_ne (tgt := 19) hx hb d_G_word_12 (by decide) (fun c_12 => ?_) (fun c_12 => ?_)
    · have c6 := c_12
      obtain ⟨j, hj, rfl⟩ := inF_j (by omega) c6
      refine lv_aload_n hx hb d_G_word_19 rfl (lv_at hl 0 rfl) ?_
      refine x_get (v := .ref (ad 5 0 0)) (C := R_G) (T := F_G) (N := 12) hx hb hg i_G hown hK hP (ga_0 hG) rfl 6 (by decide) (hg _ w_116) (fun _ h9 => h9) rfl d_G_word_20 ?_
      refine lv_iload_n hx hb d_G_word_23 rfl (lv_at hl 1 rfl) ?_
      refine x_iald (v := g 5 0 0 j) hx hb hK hP 0 (ga_5 hG) rfl (vp_in_nI (by omega) (by omega)) (by rw [nI_clamp (by omega)]) d_G_word_24 ?_
      refine lv_i2l (v := (g 5 0 0 j).toInt64) hx hb d_G_word_25 rfl ?_
      exact hret _ _ _ d_G_word_26 (by rw [aWord, if_neg c_4, if_neg c6, nI_clamp (by omega)])
    · refine lv_ldc2 (v := (-1000000000000)) hx hb hown (hg _ w_285) d_G_word_15 ?_
      exact hret _ _ _ d_G_word_18 (by simp [aWord, c_4, c_12])
set_option maxHeartbeats 4000000 in
set_option maxRecDepth 100000 in
theorem c_G_times (l : Launch) (D : va_G) (T : Nat → ClassId) (A : Nat → Prop) (M : xM) (ad : Nat → Nat → Nat → Nat) (K N : Nat) (g : gT) (hz : zB K N) (hG : gG T ad K N g M) (x y : Int32) : Met l y_G_times (Cond.code y_G_times b_G_times 3 (some .int) :: gw) (rmH 2) (xPc D T A M [.ref (ad 0 0 0), .int x, .int y]) (xR (fun r => r = some (.int (aTimes x y)))) 0 0 (fun _ => False) := by
  refine xMetRi (by decide) (Nat.le_of_ble_eq_true rfl) ?_
  intro p e s m below meth c Q ls hB hP hl hret
  obtain ⟨hx, hb, hml, hown, hg, hK0, hnm⟩ := hB
  have hown : s.vm.findClass "ShareGrid" = some m.cls := hown
  have hK := hK0.1
  have hN := hK0.2.1
  obtain ⟨hz1, hz4, hzn, hz7⟩ := id hz
  have hl : lv_has ls 3 [(0, .ref (ad 0 0 0)), (1, .int x), (2, .int y)] := hl
  refine lv_iload_n hx hb d_G_times_0 rfl (lv_at hl 1 rfl) ?_
  refine xs_R (n := 1) (As := [.int x]) (rest := []) hx hb hml hown hg hK0 hP (c_G_isByte l D T A _ x) w_336 w_1 w_334 w_335 (by decide +kernel) ⟨Nat.le_of_ble_eq_true rfl, Nat.le_of_ble_eq_true rfl⟩ rfl hl.1 rfl (Nat.le_of_ble_eq_true rfl) ⟨Nat.zero_le _, Nat.zero_le _⟩ rfl rfl d_G_times_1 (fun r hr => ?_)
  subst hr
  refine x_fr (pc := 4) [.int (byF x)] rfl rfl ?_
  refine lv_if_eq (tgt := 14) hx hb d_G_times_4 (by decide) (fun c_4 => ?_) (fun c_4 => ?_)
  · refine lv_iconst (v := (-1)) hx hb d_G_times_14 (by decide) ?_
    exact hret _ _ _ d_G_times_15 (by simp [aTimes, c_4])
  · refine lv_iload_n hx hb d_G_times_7 rfl (lv_at hl 2 rfl) ?_
    refine xs_R (n := 1) (As := [.int y]) (rest := []) hx hb hml hown hg hK0 hP (c_G_isByte l D T A _ y) w_336 w_1 w_334 w_335 (by decide +kernel) ⟨Nat.le_of_ble_eq_true rfl, Nat.le_of_ble_eq_true rfl⟩ rfl hl.1 rfl (Nat.le_of_ble_eq_true rfl) ⟨Nat.zero_le _, Nat.zero_le _⟩ rfl rfl d_G_times_8 (fun r hr => ?_)
    subst hr
    refine x_fr (pc := 11) [.int (byF y)] rfl rfl ?_
    refine lv_if_ne (tgt := 16) hx hb d_G_times_11 (by decide) (fun c_11 => ?_) (fun c_11 => ?_)
    · refine lv_iload_n hx hb d_G_times_16 rfl (lv_at hl 1 rfl) ?_
      refine lv_iload_n hx hb d_G_times_17 rfl (lv_at hl 2 rfl) ?_
      refine xs_R (n := 2) (As := [.int x, .int y]) (rest := []) hx hb hml hown hg hK0 hP (c_G_scaled l D T A _ x y) w_202 w_1 w_273 w_201 (by decide +kernel) ⟨Nat.le_of_ble_eq_true rfl, Nat.le_of_ble_eq_true rfl⟩ rfl hl.1 rfl (Nat.le_of_ble_eq_true rfl) ⟨Nat.zero_le _, Nat.zero_le _⟩ rfl rfl d_G_times_18 (fun r hr => ?_)
      subst hr
      refine x_fr (pc := 21) [.int (scF x y)] rfl rfl ?_
      exact hret _ _ _ d_G_times_21 (by simp [aTimes, c_4, c_11])
    · refine lv_iconst (v := (-1)) hx hb d_G_times_14 (by decide) ?_
      exact hret _ _ _ d_G_times_15 (by simp [aTimes, c_4, c_11])
set_option maxHeartbeats 4000000 in
set_option maxRecDepth 100000 in
theorem c_G_count (l : Launch) (D : va_G) (T : Nat → ClassId) (A : Nat → Prop) (M : xM) (ad : Nat → Nat → Nat → Nat) (K N : Nat) (g : gT) (hz : zB K N) (hG : gG T ad K N g M) (q : Nat) (w : Nat → Nat) (hI : iG N g q w) (x : Int32) : Met l y_G_count (Cond.code y_G_count b_G_count 2 (some .int) :: gw) (rmH 2) (xPc D T A M [.ref (ad 0 0 0), .int x]) (xR (fun r => r = some (.int (aCount K N g q x)))) 0 0 (fun _ => False) := by
  refine xMetRi (by decide) (Nat.le_of_ble_eq_true rfl) ?_
  intro p e s m below meth c Q ls hB hP hl hret
  obtain ⟨hx, hb, hml, hown, hg, hK0, hnm⟩ := hB
  have hown : s.vm.findClass "ShareGrid" = some m.cls := hown
  have hK := hK0.1
  have hN := hK0.2.1
  obtain ⟨hz1, hz4, hzn, hz7⟩ := id hz
  obtain ⟨hq, hq6, hwr, hbo⟩ := id hI
  have hl : lv_has ls 2 [(0, .ref (ad 0 0 0)), (1, .int x)] := hl
  refine lv_iload_n hx hb d_G_count_0 rfl (lv_at hl 1 rfl) ?_
  by_cases s0 : x = 0
  · refine lv_tableIn (off := 31) (tgt := 32) hx hb d_G_count_1 (by rw [s0]; decide) (by rw [s0]; decide) (by rw [s0]; rfl) (by decide) ?_
    refine lv_aload_n hx hb d_G_count_32 rfl (lv_at hl 0 rfl) ?_
    refine x_get (v := .int (g 0 0 0 0)) (C := R_G) (T := F_G) (N := 12) hx hb hg i_G hown hK hP (ga_0 hG) rfl 10 (by decide) (hg _ w_120) (fun _ h9 => h9) rfl d_G_count_33 ?_
    exact hret _ _ _ d_G_count_36 (by simp [aCount, s0])
  · by_cases s1 : x = 1
    · refine lv_tableIn (off := 36) (tgt := 37) hx hb d_G_count_1 (by rw [s1]; decide) (by rw [s1]; decide) (by rw [s1]; rfl) (by decide) ?_
      refine lv_aload_n hx hb d_G_count_37 rfl (lv_at hl 0 rfl) ?_
      refine xv_R (n := 0) (As := []) (rest := []) hx hb hml hown hg hK0 hP (c_G_serversUp l D T A _ ad K N g hz hG) w_185 w_1 w_182 w_184 s_2 (ga_0 hG) rfl rfl (by decide +kernel) ⟨Nat.le_of_ble_eq_true rfl, Nat.le_of_ble_eq_true rfl⟩ rfl hl.1 rfl (Nat.le_of_ble_eq_true rfl) ⟨Nat.zero_le _, Nat.zero_le _⟩ rfl rfl d_G_count_38 (fun r hr => ?_)
      subst hr
      refine x_fr (pc := 41) [.int (nI (cuF (g 1 0 0) N))] rfl rfl ?_
      exact hret _ _ _ d_G_count_41 (by simp [aCount, s0, s1])
    · by_cases s2 : x = 2
      · refine lv_tableIn (off := 41) (tgt := 42) hx hb d_G_count_1 (by rw [s2]; decide) (by rw [s2]; decide) (by rw [s2]; rfl) (by decide) ?_
        refine lv_aload_n hx hb d_G_count_42 rfl (lv_at hl 0 rfl) ?_
        refine x_get (v := .int (nI K)) (C := R_G) (T := F_G) (N := 12) hx hb hg i_G hown hK hP (ga_0 hG) rfl 0 (by decide) (hg _ w_110) (fun _ h9 => h9) rfl d_G_count_43 ?_
        exact hret _ _ _ d_G_count_46 (by simp [aCount, s0, s1, s2])
      · by_cases s3 : x = 3
        · refine lv_tableIn (off := 46) (tgt := 47) hx hb d_G_count_1 (by rw [s3]; decide) (by rw [s3]; decide) (by rw [s3]; rfl) (by decide) ?_
          refine lv_aload_n hx hb d_G_count_47 rfl (lv_at hl 0 rfl) ?_
          refine x_get (v := .int (nI N)) (C := R_G) (T := F_G) (N := 12) hx hb hg i_G hown hK hP (ga_0 hG) rfl 1 (by decide) (hg _ w_111) (fun _ h9 => h9) rfl d_G_count_48 ?_
          exact hret _ _ _ d_G_count_51 (by simp [aCount, s0, s1, s2, s3])
        · have hout : (x).toInt < 0 ∨ 3 < (x).toInt := by
            have q0 := lv_neT s0 (a := 0) (by decide)
            have q1 := lv_neT s1 (a := 1) (by decide)
            have q2 := lv_neT s2 (a := 2) (by decide)
            have q3 := lv_neT s3 (a := 3) (by decide)
            omega
          refine lv_tableOut (tgt := 52) hx hb d_G_count_1 hout (by decide) ?_
          refine lv_aload_n hx hb d_G_count_52 rfl (lv_at hl 0 rfl) ?_
          refine lv_iload_n hx hb d_G_count_53 rfl (lv_at hl 1 rfl) ?_
          refine lv_bipush (v := 10) hx hb d_G_count_54 (by decide) ?_
          refine lv_isub hx hb d_G_count_56 ?_
          refine xv_R (n := 1) (As := [.int (x - 10)]) (rest := []) hx hb hml hown hg hK0 hP (c_G_greatestNumber l D T A _ ad K N g hz hG q hq hq6 (x - 10)) w_344 w_1 w_341 w_343 s_19 (ga_0 hG) rfl rfl (by decide +kernel) ⟨Nat.le_of_ble_eq_true rfl, Nat.le_of_ble_eq_true rfl⟩ rfl hl.1 rfl (Nat.le_of_ble_eq_true rfl) ⟨Nat.zero_le _, Nat.zero_le _⟩ rfl rfl d_G_count_57 (fun r hr => ?_)
          subst hr
          refine x_fr (pc := 60) [.int (gnF g q (x - 10))] rfl rfl ?_
          exact hret _ _ _ d_G_count_60 (by simp [aCount, s0, s1, s2, s3])
set_option maxHeartbeats 4000000 in
set_option maxRecDepth 100000 in
theorem c_G_share (l : Launch) (D : va_G) (T : Nat → ClassId) (A : Nat → Prop) (M : xM) (ad : Nat → Nat → Nat → Nat) (K N : Nat) (g : gT) (hz : zB K N) (hG : gG T ad K N g M) (q : Nat) (w : Nat → Nat) (hI : iG N g q w) (x y z : Int32) : Met l y_G_share (Cond.code y_G_share b_G_share 5 (some .long) :: gw) (rmH 1) (xPc D T A M [.ref (ad 0 0 0), .int x, .int y, .int z]) (xR (fun r => r = some (.long (aShare N g x y z)))) 0 0 (fun _ => False) := by
  refine xMetRl (by decide) (Nat.le_of_ble_eq_true rfl) ?_
  intro p e s m below meth c Q ls hB hP hl hret
  obtain ⟨hx, hb, hml, hown, hg, hK0, hnm⟩ := hB
  have hown : s.vm.findClass "ShareGrid" = some m.cls := hown
  have hK := hK0.1
  have hN := hK0.2.1
  obtain ⟨hz1, hz4, hzn, hz7⟩ := id hz
  obtain ⟨hq, hq6, hwr, hbo⟩ := id hI
  have hl : lv_has ls 5 [(0, .ref (ad 0 0 0)), (1, .int x), (2, .int y), (3, .int z)] := hl
  refine lv_aload_n hx hb d_G_share_0 rfl (lv_at hl 0 rfl) ?_
  refine lv_iload_n hx hb d_G_share_1 rfl (lv_at hl 1 rfl) ?_
  refine xv_R (n := 1) (As := [.int x]) (rest := []) hx hb hml hown hg hK0 hP (c_G_isFile l D T A _ ad K N g hz hG x) w_313 w_1 w_310 w_312 s_18 (ga_0 hG) rfl rfl (by decide +kernel) ⟨Nat.le_of_ble_eq_true rfl, Nat.le_of_ble_eq_true rfl⟩ rfl hl.1 rfl (Nat.le_of_ble_eq_true rfl) ⟨Nat.zero_le _, Nat.zero_le _⟩ rfl rfl d_G_share_2 (fun r hr => ?_)
  subst hr
  refine x_fr (pc := 5) [.int (inF x (g 0 0 0 0))] rfl rfl ?_
  refine lv_if_eq (tgt := 33) hx hb d_G_share_5 (by decide) (fun c_5 => ?_) (fun c_5 => ?_)
  · refine lv_ldc2 (v := (-1000000000000)) hx hb hown (hg _ w_285) d_G_share_33 ?_
    exact hret _ _ _ d_G_share_36 (by simp [aShare, c_5])
  · refine lv_aload_n hx hb d_G_share_8 rfl (lv_at hl 0 rfl) ?_
    refine lv_iload_n hx hb d_G_share_9 rfl (lv_at hl 2 rfl) ?_
    refine xv_R (n := 1) (As := [.int y]) (rest := []) hx hb hml hown hg hK0 hP (c_G_isPlace l D T A _ ad K N g hz hG y) w_305 w_1 w_302 w_304 s_17 (ga_0 hG) rfl rfl (by decide +kernel) ⟨Nat.le_of_ble_eq_true rfl, Nat.le_of_ble_eq_true rfl⟩ rfl hl.1 rfl (Nat.le_of_ble_eq_true rfl) ⟨Nat.zero_le _, Nat.zero_le _⟩ rfl rfl d_G_share_10 (fun r hr => ?_)
    subst hr
    refine x_fr (pc := 13) [.int (inF y (nI N))] rfl rfl ?_
    refine lv_if_eq (tgt := 33) hx hb d_G_share_13 (by decide) (fun c_13 => ?_) (fun c_13 => ?_)
    · refine lv_ldc2 (v := (-1000000000000)) hx hb hown (hg _ w_285) d_G_share_33 ?_
      exact hret _ _ _ d_G_share_36 (by simp [aShare, c_5, c_13])
    · have c6 := c_5
      have c7 := c_13
      have c8 := c6
      rw [hq] at c8
      obtain ⟨f, hf, rfl⟩ := inF_j (by omega) c8
      obtain ⟨i, hi, rfl⟩ := inF_j (by omega) c7
      have ef : (nI f).toNatClampNeg = f := nI_clamp (by omega)
      have ei : (nI i).toNatClampNeg = i := nI_clamp (by omega)
      refine lv_aload_n hx hb d_G_share_16 rfl (lv_at hl 0 rfl) ?_
      refine x_get (v := .ref (ad 3 0 0)) (C := R_G) (T := F_G) (N := 12) hx hb hg i_G hown hK hP (ga_0 hG) rfl 4 (by decide) (hg _ w_114) (fun _ h9 => h9) rfl d_G_share_17 ?_
      refine lv_iload_n hx hb d_G_share_20 rfl (lv_at hl 1 rfl) ?_
      refine x_aldq (v := .ref (ad 12 f 0)) hx hb hK hP 3 (ga_3 hG) rfl (vp_in_nI (by omega) (by omega)) (by rw [nI_clamp (by omega)]; rfl) d_G_share_21 ?_
      refine x_getN (v := .ref (ad 13 f 0)) (C := R_F) (T := F_F) (N := 6) hx hb hg i_F hown hK hP (ga_12 hG (show f < 6 by omega)) rfl 0 (by decide) (va_Nw.use rfl (hN _ e_69)) (fun _ h9 => h9) rfl d_G_share_22 ?_
      refine lv_iload_n hx hb d_G_share_25 rfl (lv_at hl 2 rfl) ?_
      refine x_aldq (v := .ref (ad 17 f i)) hx hb hK hP 2 (ga_13 hG (show f < 6 by omega)) rfl (vp_in_nI (by omega) (by omega)) (by rw [nI_clamp (by omega)]; rfl) d_G_share_26 ?_
      refine x_getN (v := .int (g 17 f i 0)) (C := R_R) (T := F_R) (N := 5) hx hb hg i_R hown hK hP (ga_17 hG (show f < 6 by omega) (show i < N by omega)) rfl 1 (by decide) (va_Nw.use rfl (hN _ e_45)) (fun _ h9 => h9) rfl d_G_share_27 ?_
      refine lv_if_ne (tgt := 37) hx hb d_G_share_30 (by decide) (fun c_30 => ?_) (fun c_30 => ?_)
      · refine lv_aload_n hx hb d_G_share_37 rfl (lv_at hl 0 rfl) ?_
        refine x_get (v := .ref (ad 3 0 0)) (C := R_G) (T := F_G) (N := 12) hx hb hg i_G hown hK hP (ga_0 hG) rfl 4 (by decide) (hg _ w_114) (fun _ h9 => h9) rfl d_G_share_38 ?_
        refine lv_iload_n hx hb d_G_share_41 rfl (lv_at hl 1 rfl) ?_
        refine x_aldq (v := .ref (ad 12 f 0)) hx hb hK hP 3 (ga_3 hG) rfl (vp_in_nI (by omega) (by omega)) (by rw [nI_clamp (by omega)]; rfl) d_G_share_42 ?_
        refine x_getN (v := .ref (ad 13 f 0)) (C := R_F) (T := F_F) (N := 6) hx hb hg i_F hown hK hP (ga_12 hG (show f < 6 by omega)) rfl 0 (by decide) (va_Nw.use rfl (hN _ e_69)) (fun _ h9 => h9) rfl d_G_share_43 ?_
        refine lv_iload_n hx hb d_G_share_46 rfl (lv_at hl 2 rfl) ?_
        refine x_aldq (v := .ref (ad 17 f i)) hx hb hK hP 2 (ga_13 hG (show f < 6 by omega)) rfl (vp_in_nI (by omega) (by omega)) (by rw [nI_clamp (by omega)]; rfl) d_G_share_47 ?_
        refine lv_astore (lv' := [(4, .ref (ad 17 f i)), (0, .ref (ad 0 0 0)), (1, .int (nI f)), (2, .int (nI i)), (3, .int z)]) hx hb d_G_share_48 hl (by decide) rfl (fun ls hl => ?_)
        refine lv_iload_n hx hb d_G_share_50 rfl (lv_at hl 4 rfl) ?_
        by_cases s0 : z = 0
        · refine lv_tableIn (off := 25) (tgt := 76) hx hb d_G_share_51 (by rw [s0]; decide) (by rw [s0]; decide) (by rw [s0]; rfl) (by decide) ?_
          refine lv_aload hx hb d_G_share_76 (lv_at hl 0 rfl) ?_
          refine x_getN (v := .int (g 17 f i 1)) (C := R_R) (T := F_R) (N := 5) hx hb hg i_R hown hK hP (ga_17 hG (show f < 6 by omega) (show i < N by omega)) rfl 2 (by decide) (va_Nw.use rfl (hN _ e_48)) (fun _ h9 => h9) rfl d_G_share_78 ?_
          refine lv_i2l (v := (g 17 f i 1).toInt64) hx hb d_G_share_81 rfl ?_
          exact hret _ _ _ d_G_share_82 (by simp [aShare, c_5, c_13, c_30, s0, ef, ei])
        · by_cases s1 : z = 1
          · refine lv_tableIn (off := 32) (tgt := 83) hx hb d_G_share_51 (by rw [s1]; decide) (by rw [s1]; decide) (by rw [s1]; rfl) (by decide) ?_
            refine lv_aload hx hb d_G_share_83 (lv_at hl 0 rfl) ?_
            refine x_getN (v := .int (g 17 f i 2)) (C := R_R) (T := F_R) (N := 5) hx hb hg i_R hown hK hP (ga_17 hG (show f < 6 by omega) (show i < N by omega)) rfl 3 (by decide) (va_Nw.use rfl (hN _ e_51)) (fun _ h9 => h9) rfl d_G_share_85 ?_
            refine lv_i2l (v := (g 17 f i 2).toInt64) hx hb d_G_share_88 rfl ?_
            exact hret _ _ _ d_G_share_89 (by simp [aShare, c_5, c_13, c_30, s0, s1, ef, ei])
          · by_cases s2 : z = 2
            · refine lv_tableIn (off := 39) (tgt := 90) hx hb d_G_share_51 (by rw [s2]; decide) (by rw [s2]; decide) (by rw [s2]; rfl) (by decide) ?_
              refine lv_aload hx hb d_G_share_90 (lv_at hl 0 rfl) ?_
              refine x_getN (v := .int (g 17 f i 3)) (C := R_R) (T := F_R) (N := 5) hx hb hg i_R hown hK hP (ga_17 hG (show f < 6 by omega) (show i < N by omega)) rfl 4 (by decide) (va_Nw.use rfl (hN _ e_54)) (fun _ h9 => h9) rfl d_G_share_92 ?_
              refine lv_i2l (v := (g 17 f i 3).toInt64) hx hb d_G_share_95 rfl ?_
              exact hret _ _ _ d_G_share_96 (by simp [aShare, c_5, c_13, c_30, s0, s1, s2, ef, ei])
            · have hout : (z).toInt < 0 ∨ 2 < (z).toInt := by
                have q0 := lv_neT s0 (a := 0) (by decide)
                have q1 := lv_neT s1 (a := 1) (by decide)
                have q2 := lv_neT s2 (a := 2) (by decide)
                omega
              refine lv_tableOut (tgt := 97) hx hb d_G_share_51 hout (by decide) ?_
              refine lv_ldc2 (v := (-1000000000000)) hx hb hown (hg _ w_285) d_G_share_97 ?_
              exact hret _ _ _ d_G_share_100 (by simp [aShare, c_5, c_13, c_30, s0, s1, s2, ef, ei])
      · refine lv_ldc2 (v := (-1000000000000)) hx hb hown (hg _ w_285) d_G_share_33 ?_
        exact hret _ _ _ d_G_share_36 (by simp [aShare, c_5, c_13, c_30, ef, ei])
set_option maxHeartbeats 4000000 in
set_option maxRecDepth 100000 in
theorem c_G_sound (l : Launch) (D : va_G) (T : Nat → ClassId) (A : Nat → Prop) (M : xM) (ad : Nat → Nat → Nat → Nat) (K N : Nat) (g : gT) (hz : zB K N) (hG : gG T ad K N g M) (q : Nat) (w : Nat → Nat) (hI : iG N g q w) (x : Int32) : Met l y_G_sound (Cond.code y_G_sound b_G_sound 5 (some .int) :: gw) (rmH 3) (xPc D T A M [.ref (ad 0 0 0), .int x]) (xR (fun r => r = some (.int (aSound N g q x)))) 0 0 (fun _ => False) := by
  refine xMetRi (by decide) (Nat.le_of_ble_eq_true rfl) ?_
  intro p e s m below meth c Q ls hB hP hl hret
  obtain ⟨hx, hb, hml, hown, hg, hK0, hnm⟩ := hB
  have hown : s.vm.findClass "ShareGrid" = some m.cls := hown
  have hK := hK0.1
  have hN := hK0.2.1
  obtain ⟨hz1, hz4, hzn, hz7⟩ := id hz
  obtain ⟨hq, hq6, hwr, hbo⟩ := id hI
  have hl : lv_has ls 5 [(0, .ref (ad 0 0 0)), (1, .int x)] := hl
  refine lv_aload_n hx hb d_G_sound_0 rfl (lv_at hl 0 rfl) ?_
  refine lv_iload_n hx hb d_G_sound_1 rfl (lv_at hl 1 rfl) ?_
  refine xv_R (n := 1) (As := [.int x]) (rest := []) hx hb hml hown hg hK0 hP (c_G_fileUnder l D T A _ ad K N g hz hG q hq hq6 x) w_169 w_1 w_166 w_168 s_0 (ga_0 hG) rfl rfl (by decide +kernel) ⟨Nat.le_of_ble_eq_true rfl, Nat.le_of_ble_eq_true rfl⟩ rfl hl.1 rfl (Nat.le_of_ble_eq_true rfl) ⟨Nat.zero_le _, Nat.zero_le _⟩ rfl rfl d_G_sound_2 (fun r hr => ?_)
  subst hr
  refine x_fr (pc := 5) [.int (fdF (fun f => g 12 f 0 0) x 0 q)] rfl rfl ?_
  refine lv_istore_n (lv' := [(2, .int (fdF (fun f => g 12 f 0 0) x 0 q)), (0, .ref (ad 0 0 0)), (1, .int x)]) hx hb d_G_sound_5 rfl hl (by decide) rfl (fun ls hl => ?_)
  refine lv_iload_n hx hb d_G_sound_6 rfl (lv_at hl 0 rfl) ?_
  refine lv_if_ge (tgt := 12) hx hb d_G_sound_7 (by decide) (fun c7 => ?_) (fun c7 => ?_)
  · have c7 : 0 ≤ fuF g q x := c7
    obtain ⟨f, hf, hfe⟩ := fuF_ge (g := g) (q := q) (x := x) c7
    have hfe2 : (fdF (fun f => g 12 f 0 0) x 0 q) = nI f := hfe
    rw [hfe2] at hl
    have ef : (fuF g q x).toNatClampNeg = f := by rw [hfe, nI_clamp (by omega)]
    refine lv_iconst (v := nI 0) hx hb d_G_sound_12 (by decide) ?_
    refine lv_istore_n (lv' := [(3, .int (nI 0)), (2, .int (nI f)), (0, .ref (ad 0 0 0)), (1, .int x)]) hx hb d_G_sound_13 rfl hl (by decide) rfl (fun ls hl => ?_)
    refine lv_iconst (v := nI 0) hx hb d_G_sound_14 (by decide) ?_
    refine lv_istore (lv' := [(4, .int (nI 0)), (3, .int (nI 0)), (2, .int (nI f)), (0, .ref (ad 0 0 0)), (1, .int x)]) hx hb d_G_sound_15 hl (by decide) rfl (fun ls hl => ?_)
    have loop : ∀ (n : Nat) (i : Nat), N + 1 ≤ i + n → i ≤ N → ∀ (ls : Array Slot), lv_has ls 5 [(0, .ref (ad 0 0 0)), (1, .int x), (2, .int (nI f)), (3, .int (nI (cuF (spF N g f) i))), (4, .int (nI i))] → W p l e (rmH 3) s m [.ref (ad 0 0 0), .int x].toArray below meth c s.heap [] 0 0 Q (F0 m 17 ls []) := by
      intro n
      induction n with
      | zero =>
        intro i h2 h1
        exact absurd h2 (by omega)
      | succ n ih =>
        intro i h2 h1 ls hl
        refine lv_iload hx hb d_G_sound_17 (lv_at hl 4 rfl) ?_
        refine lv_aload_n hx hb d_G_sound_19 rfl (lv_at hl 0 rfl) ?_
        refine x_get (v := .int (nI N)) (C := R_G) (T := F_G) (N := 12) hx hb hg i_G hown hK hP (ga_0 hG) rfl 1 (by decide) (hg _ w_111) (fun _ h9 => h9) rfl d_G_sound_20 ?_
        refine x_nc_ge (tgt := 59) hx hb d_G_sound_23 (by decide) (by omega) (by omega) (fun c1 => ?_) (fun c1 => ?_)
        · have hiN : i = N := by omega
          subst hiN
          refine lv_iload_n hx hb d_G_sound_59 rfl (lv_at hl 3 rfl) ?_
          exact hret _ _ _ d_G_sound_60 (by rw [aSound, if_pos c7, ef])
        · refine lv_aload_n hx hb d_G_sound_26 rfl (lv_at hl 0 rfl) ?_
          refine x_get (v := .ref (ad 1 0 0)) (C := R_G) (T := F_G) (N := 12) hx hb hg i_G hown hK hP (ga_0 hG) rfl 2 (by decide) (hg _ w_112) (fun _ h9 => h9) rfl d_G_sound_27 ?_
          refine lv_iload hx hb d_G_sound_30 (lv_at hl 4 rfl) ?_
          refine x_zald (v := g 1 0 0 i) hx hb hK hP 1 (ga_1 hG) rfl (vp_in_nI (by omega) (by omega)) (by rw [nI_clamp (by omega)]) d_G_sound_32 ?_
          refine lv_if_eq (tgt := 53) hx hb d_G_sound_33 (by decide) (fun c2 => ?_) (fun c2 => ?_)
          · have ecu : cuF (spF N g f) (i + 1) = cuF (spF N g f) i := by rw [cuF, if_pos (by rw [spF, if_pos c2])]
            refine lv_iinc (v := nI (i + 1)) (lv' := [(4, .int (nI (i + 1))), (0, .ref (ad 0 0 0)), (1, .int x), (2, .int (nI f)), (3, .int (nI (cuF (spF N g f) i)))]) hx hb d_G_sound_53 hl (k := 4) rfl (nI_1 _) (by decide) rfl (fun ls hl => ?_)
            refine lv_goto (tgt := 17) hx hb d_G_sound_56 (by decide) ?_
            exact ih (i + 1) (by omega) (by omega) ls (by rw [ecu]; exact (lv_sub hl [1, 2, 3, 4, 0] rfl))
          · refine lv_aload_n hx hb d_G_sound_36 rfl (lv_at hl 0 rfl) ?_
            refine x_get (v := .ref (ad 3 0 0)) (C := R_G) (T := F_G) (N := 12) hx hb hg i_G hown hK hP (ga_0 hG) rfl 4 (by decide) (hg _ w_114) (fun _ h9 => h9) rfl d_G_sound_37 ?_
            refine lv_iload_n hx hb d_G_sound_40 rfl (lv_at hl 2 rfl) ?_
            refine x_aldq (v := .ref (ad 12 f 0)) hx hb hK hP 3 (ga_3 hG) rfl (vp_in_nI (by omega) (by omega)) (by rw [nI_clamp (by omega)]; rfl) d_G_sound_41 ?_
            refine lv_iload hx hb d_G_sound_42 (lv_at hl 4 rfl) ?_
            refine xvn_R (n := 1) (As := [.int (nI i)]) (rest := []) hx hb hml hown hg hK0 hP hN (c_F_isSoundAt l D T A _ ad K N g hz hG f i (w f) (by omega) (by omega) (hwr f (by omega)).1 (hwr f (by omega)).2) w_249 w_3 e_246 w_248 s_11 (ga_12 hG (show f < 6 by omega)) rfl rfl (by decide +kernel) ⟨Nat.le_of_ble_eq_true rfl, Nat.le_of_ble_eq_true rfl⟩ rfl hl.1 rfl (Nat.le_of_ble_eq_true rfl) ⟨Nat.zero_le _, Nat.zero_le _⟩ rfl rfl d_G_sound_44 (fun r hr => ?_)
            subst hr
            refine x_fr (pc := 47) [.int (sdG N g f i)] rfl rfl ?_
            refine lv_if_eq (tgt := 53) hx hb d_G_sound_47 (by decide) (fun c3 => ?_) (fun c3 => ?_)
            · have ecu : cuF (spF N g f) (i + 1) = cuF (spF N g f) i := by rw [cuF, if_pos (by rw [spF, if_neg c2]; exact c3)]
              refine lv_iinc (v := nI (i + 1)) (lv' := [(4, .int (nI (i + 1))), (0, .ref (ad 0 0 0)), (1, .int x), (2, .int (nI f)), (3, .int (nI (cuF (spF N g f) i)))]) hx hb d_G_sound_53 hl (k := 4) rfl (nI_1 _) (by decide) rfl (fun ls hl => ?_)
              refine lv_goto (tgt := 17) hx hb d_G_sound_56 (by decide) ?_
              exact ih (i + 1) (by omega) (by omega) ls (by rw [ecu]; exact (lv_sub hl [1, 2, 3, 4, 0] rfl))
            · have ecu : cuF (spF N g f) (i + 1) = cuF (spF N g f) i + 1 := by rw [cuF, if_neg (by rw [spF, if_neg c2]; exact c3)]
              refine lv_iinc (v := nI ((cuF (spF N g f) i) + 1)) (lv' := [(3, .int (nI ((cuF (spF N g f) i) + 1))), (0, .ref (ad 0 0 0)), (1, .int x), (2, .int (nI f)), (4, .int (nI i))]) hx hb d_G_sound_50 hl (k := 3) rfl (nI_1 _) (by decide) rfl (fun ls hl => ?_)
              refine lv_iinc (v := nI (i + 1)) (lv' := [(4, .int (nI (i + 1))), (3, .int (nI ((cuF (spF N g f) i) + 1))), (0, .ref (ad 0 0 0)), (1, .int x), (2, .int (nI f))]) hx hb d_G_sound_53 hl (k := 4) rfl (nI_1 _) (by decide) rfl (fun ls hl => ?_)
              refine lv_goto (tgt := 17) hx hb d_G_sound_56 (by decide) ?_
              exact ih (i + 1) (by omega) (by omega) ls (by rw [ecu]; exact (lv_sub hl [2, 3, 4, 1, 0] rfl))
    exact loop (N + 1) 0 (by omega) (by omega) ls (lv_sub hl [3, 4, 2, 1, 0] rfl)
  · have c7 : ¬ 0 ≤ fuF g q x := c7
    refine lv_iconst (v := (-1)) hx hb d_G_sound_10 (by decide) ?_
    exact hret _ _ _ d_G_sound_11 (by rw [aSound, if_neg c7])
set_option maxHeartbeats 4000000 in
set_option maxRecDepth 100000 in
theorem c_G_picture (l : Launch) (D : va_G) (T : Nat → ClassId) (A : Nat → Prop) (M : xM) (ad : Nat → Nat → Nat → Nat) (K N : Nat) (g : gT) (hz : zB K N) (hG : gG T ad K N g M) (q : Nat) (w : Nat → Nat) (hI : iG N g q w) (x y : Int32) : Met l y_G_picture (Cond.code y_G_picture b_G_picture 3 (some .int) :: gw) (rmH 2) (xPc D T A M [.ref (ad 0 0 0), .int x, .int y]) (xQ D A (fun r M1 => pA T ad K N M (aPicture N g x y) r M1)) 0 0 A := by
  refine xMetQi (by decide) (Nat.le_of_ble_eq_true rfl) ?_
  intro p e s m below meth c Q ls hB hP hS hl hret
  obtain ⟨hx, hb, hml, hown, hg, hK0, hnm⟩ := hB
  have hown : s.vm.findClass "ShareGrid" = some m.cls := hown
  have hK := hK0.1
  have hN := hK0.2.1
  obtain ⟨hz1, hz4, hzn, hz7⟩ := id hz
  have hR := hG.rf
  obtain ⟨hq, hq6, hwr, hbo⟩ := id hI
  have hl : lv_has ls 3 [(0, .ref (ad 0 0 0)), (1, .int x), (2, .int y)] := hl
  refine lv_aload_n hx hb d_G_picture_0 rfl (lv_at hl 0 rfl) ?_
  refine lv_iload_n hx hb d_G_picture_1 rfl (lv_at hl 1 rfl) ?_
  refine xv_R (n := 1) (As := [.int x]) (rest := []) hx hb hml hown hg hK0 hP (c_G_isFile l D T A _ ad K N g hz hG x) w_313 w_1 w_310 w_312 s_18 (ga_0 hG) rfl rfl (by decide +kernel) ⟨Nat.le_of_ble_eq_true rfl, Nat.le_of_ble_eq_true rfl⟩ rfl hl.1 rfl (Nat.le_of_ble_eq_true rfl) ⟨Nat.zero_le _, Nat.zero_le _⟩ rfl rfl d_G_picture_2 (fun r hr => ?_)
  subst hr
  refine x_fr (pc := 5) [.int (inF x (g 0 0 0 0))] rfl rfl ?_
  refine lv_if_eq (tgt := 33) hx hb d_G_picture_5 (by decide) (fun c_5 => ?_) (fun c_5 => ?_)
  · refine lv_iconst (v := (-1)) hx hb d_G_picture_33 (by decide) ?_
    exact hret _ _ _ _ _ _ d_G_picture_34 hP hS (by simp only [aPicture, c_5, if_true, if_false, ite_true, ite_false, not_true_eq_false, not_false_eq_true, reduceIte]; exact ⟨rfl, hR⟩)
  · refine lv_aload_n hx hb d_G_picture_8 rfl (lv_at hl 0 rfl) ?_
    refine lv_iload_n hx hb d_G_picture_9 rfl (lv_at hl 2 rfl) ?_
    refine xv_R (n := 1) (As := [.int y]) (rest := []) hx hb hml hown hg hK0 hP (c_G_isPlace l D T A _ ad K N g hz hG y) w_305 w_1 w_302 w_304 s_17 (ga_0 hG) rfl rfl (by decide +kernel) ⟨Nat.le_of_ble_eq_true rfl, Nat.le_of_ble_eq_true rfl⟩ rfl hl.1 rfl (Nat.le_of_ble_eq_true rfl) ⟨Nat.zero_le _, Nat.zero_le _⟩ rfl rfl d_G_picture_10 (fun r hr => ?_)
    subst hr
    refine x_fr (pc := 13) [.int (inF y (nI N))] rfl rfl ?_
    refine lv_if_eq (tgt := 33) hx hb d_G_picture_13 (by decide) (fun c_13 => ?_) (fun c_13 => ?_)
    · refine lv_iconst (v := (-1)) hx hb d_G_picture_33 (by decide) ?_
      exact hret _ _ _ _ _ _ d_G_picture_34 hP hS (by simp only [aPicture, c_5, c_13, if_true, if_false, ite_true, ite_false, not_true_eq_false, not_false_eq_true, reduceIte]; exact ⟨rfl, hR⟩)
    · have c6 := c_5
      have c7 := c_13
      have c8 := c6
      rw [hq] at c8
      obtain ⟨f, hf, rfl⟩ := inF_j (by omega) c8
      obtain ⟨i, hi, rfl⟩ := inF_j (by omega) c7
      have ef : (nI f).toNatClampNeg = f := nI_clamp (by omega)
      have ei : (nI i).toNatClampNeg = i := nI_clamp (by omega)
      refine lv_aload_n hx hb d_G_picture_16 rfl (lv_at hl 0 rfl) ?_
      refine x_get (v := .ref (ad 3 0 0)) (C := R_G) (T := F_G) (N := 12) hx hb hg i_G hown hK hP (ga_0 hG) rfl 4 (by decide) (hg _ w_114) (fun _ h9 => h9) rfl d_G_picture_17 ?_
      refine lv_iload_n hx hb d_G_picture_20 rfl (lv_at hl 1 rfl) ?_
      refine x_aldq (v := .ref (ad 12 f 0)) hx hb hK hP 3 (ga_3 hG) rfl (vp_in_nI (by omega) (by omega)) (by rw [nI_clamp (by omega)]; rfl) d_G_picture_21 ?_
      refine x_getN (v := .ref (ad 13 f 0)) (C := R_F) (T := F_F) (N := 6) hx hb hg i_F hown hK hP (ga_12 hG (show f < 6 by omega)) rfl 0 (by decide) (va_Nw.use rfl (hN _ e_69)) (fun _ h9 => h9) rfl d_G_picture_22 ?_
      refine lv_iload_n hx hb d_G_picture_25 rfl (lv_at hl 2 rfl) ?_
      refine x_aldq (v := .ref (ad 17 f i)) hx hb hK hP 2 (ga_13 hG (show f < 6 by omega)) rfl (vp_in_nI (by omega) (by omega)) (by rw [nI_clamp (by omega)]; rfl) d_G_picture_26 ?_
      refine x_getN (v := .int (g 17 f i 0)) (C := R_R) (T := F_R) (N := 5) hx hb hg i_R hown hK hP (ga_17 hG (show f < 6 by omega) (show i < N by omega)) rfl 1 (by decide) (va_Nw.use rfl (hN _ e_45)) (fun _ h9 => h9) rfl d_G_picture_27 ?_
      refine lv_if_ne (tgt := 35) hx hb d_G_picture_30 (by decide) (fun c_30 => ?_) (fun c_30 => ?_)
      · refine lv_aload_n hx hb d_G_picture_35 rfl (lv_at hl 0 rfl) ?_
        refine x_get (v := .ref (ad 3 0 0)) (C := R_G) (T := F_G) (N := 12) hx hb hg i_G hown hK hP (ga_0 hG) rfl 4 (by decide) (hg _ w_114) (fun _ h9 => h9) rfl d_G_picture_36 ?_
        refine lv_iload_n hx hb d_G_picture_39 rfl (lv_at hl 1 rfl) ?_
        refine x_aldq (v := .ref (ad 12 f 0)) hx hb hK hP 3 (ga_3 hG) rfl (vp_in_nI (by omega) (by omega)) (by rw [nI_clamp (by omega)]; rfl) d_G_picture_40 ?_
        refine x_getN (v := .ref (ad 14 f 0)) (C := R_F) (T := F_F) (N := 6) hx hb hg i_F hown hK hP (ga_12 hG (show f < 6 by omega)) rfl 1 (by decide) (va_Nw.use rfl (hN _ e_71)) (fun _ h9 => h9) rfl d_G_picture_41 ?_
        refine lv_iload_n hx hb d_G_picture_44 rfl (lv_at hl 2 rfl) ?_
        refine x_aldq (v := .ref (ad 19 f i)) hx hb hK hP 2 (ga_14 hG (show f < 6 by omega)) rfl (vp_in_nI (by omega) (by omega)) (by rw [nI_clamp (by omega)]; rfl) d_G_picture_45 ?_
        refine lv_aload_n hx hb d_G_picture_46 rfl (lv_at hl 0 rfl) ?_
        refine x_get (v := .ref (ad 3 0 0)) (C := R_G) (T := F_G) (N := 12) hx hb hg i_G hown hK hP (ga_0 hG) rfl 4 (by decide) (hg _ w_114) (fun _ h9 => h9) rfl d_G_picture_47 ?_
        refine lv_iload_n hx hb d_G_picture_50 rfl (lv_at hl 1 rfl) ?_
        refine x_aldq (v := .ref (ad 12 f 0)) hx hb hK hP 3 (ga_3 hG) rfl (vp_in_nI (by omega) (by omega)) (by rw [nI_clamp (by omega)]; rfl) d_G_picture_51 ?_
        refine x_getN (v := .ref (ad 13 f 0)) (C := R_F) (T := F_F) (N := 6) hx hb hg i_F hown hK hP (ga_12 hG (show f < 6 by omega)) rfl 0 (by decide) (va_Nw.use rfl (hN _ e_69)) (fun _ h9 => h9) rfl d_G_picture_52 ?_
        refine lv_iload_n hx hb d_G_picture_55 rfl (lv_at hl 2 rfl) ?_
        refine x_aldq (v := .ref (ad 17 f i)) hx hb hK hP 2 (ga_13 hG (show f < 6 by omega)) rfl (vp_in_nI (by omega) (by omega)) (by rw [nI_clamp (by omega)]; rfl) d_G_picture_56 ?_
        refine xvn_Q (n := 1) (As := [.ref (ad 17 f i)]) (rest := []) hx hb hml hown hg hK0 hP hN (c_R_copyFrom l D T A _ (ad 19 f i) (ad 17 f i) (ad 20 f i) (ad 18 f i) N (g 18 f i) (g 20 f i) (g 17 f i 0) (g 17 f i 1) (g 17 f i 2) (g 17 f i 3) (g 19 f i 0) (g 19 f i 1) (g 19 f i 2) (g 19 f i 3) (by omega) (hbo f i (by omega) (by omega)).1 (ga_19 hG (show f < 6 by omega) (show i < N by omega)) (ga_17 hG (show f < 6 by omega) (show i < N by omega)) (ga_20 hG (show f < 6 by omega) (show i < N by omega)) (ga_18 hG (show f < 6 by omega) (show i < N by omega)) (hG.ne (Or.inr (Or.inr ⟨by omega, by omega, by omega, by omega⟩)) (Or.inr (Or.inr ⟨by omega, by omega, by omega, by omega⟩)) (by omega))) w_231 w_4 e_228 w_230 s_9 (ga_19 hG (show f < 6 by omega) (show i < N by omega)) rfl rfl (by decide +kernel) ⟨Nat.le_of_ble_eq_true rfl, Nat.le_of_ble_eq_true rfl⟩ rfl hl.1 rfl (Nat.le_of_ble_eq_true rfl) hS ⟨Nat.zero_le _, Nat.zero_le _⟩ rfl rfl d_G_picture_57 (fun r M1 H_33 L_34 hr hP hS => ?_)
        obtain ⟨rfl, rfl⟩ := hr
        obtain ⟨g_35, hg_35⟩ : ∃ z, z = cpS g 17 f i 19 f i := ⟨_, rfl⟩
        obtain ⟨M_36, hP, hR⟩ : ∃ z, xW D classes A z H_33 ∧ gR T ad K N M g_35 z := ⟨_, hP, by rw [hg_35]; exact (hR.set (Or.inr (Or.inr ⟨by omega, by omega, by omega, by omega⟩)) rfl).set (Or.inr (Or.inr ⟨by omega, by omega, by omega, by omega⟩)) rfl⟩
        have hG := hR.1
        refine x_fr (pc := 60) [] rfl rfl ?_
        refine lv_iconst (v := nI 0) hx hb d_G_picture_60 (by decide) ?_
        exact hret _ _ _ _ _ _ d_G_picture_61 hP hS (by simp only [aPicture, c_5, c_13, c_30, ef, ei, reduceIte]; refine ⟨rfl, ?_⟩; rw [hg_35] at hR; exact hR)
      · refine lv_iconst (v := (-1)) hx hb d_G_picture_33 (by decide) ?_
        exact hret _ _ _ _ _ _ d_G_picture_34 hP hS (by simp only [aPicture, c_5, c_13, c_30, ef, ei, if_true, if_false, ite_true, ite_false, not_true_eq_false, not_false_eq_true, reduceIte]; exact ⟨rfl, hR⟩)
set_option maxHeartbeats 4000000 in
set_option maxRecDepth 100000 in
theorem c_G_fallBack (l : Launch) (D : va_G) (T : Nat → ClassId) (A : Nat → Prop) (M : xM) (ad : Nat → Nat → Nat → Nat) (K N : Nat) (g : gT) (hz : zB K N) (hG : gG T ad K N g M) (q : Nat) (w : Nat → Nat) (hI : iG N g q w) (x y : Int32) : Met l y_G_fallBack (Cond.code y_G_fallBack b_G_fallBack 3 (some .int) :: gw) (rmH 2) (xPc D T A M [.ref (ad 0 0 0), .int x, .int y]) (xQ D A (fun r M1 => pA T ad K N M (aFall N g x y) r M1)) 0 0 A := by
  refine xMetQi (by decide) (Nat.le_of_ble_eq_true rfl) ?_
  intro p e s m below meth c Q ls hB hP hS hl hret
  obtain ⟨hx, hb, hml, hown, hg, hK0, hnm⟩ := hB
  have hown : s.vm.findClass "ShareGrid" = some m.cls := hown
  have hK := hK0.1
  have hN := hK0.2.1
  obtain ⟨hz1, hz4, hzn, hz7⟩ := id hz
  have hR := hG.rf
  obtain ⟨hq, hq6, hwr, hbo⟩ := id hI
  have hl : lv_has ls 3 [(0, .ref (ad 0 0 0)), (1, .int x), (2, .int y)] := hl
  refine lv_aload_n hx hb d_G_fallBack_0 rfl (lv_at hl 0 rfl) ?_
  refine lv_iload_n hx hb d_G_fallBack_1 rfl (lv_at hl 1 rfl) ?_
  refine xv_R (n := 1) (As := [.int x]) (rest := []) hx hb hml hown hg hK0 hP (c_G_isFile l D T A _ ad K N g hz hG x) w_313 w_1 w_310 w_312 s_18 (ga_0 hG) rfl rfl (by decide +kernel) ⟨Nat.le_of_ble_eq_true rfl, Nat.le_of_ble_eq_true rfl⟩ rfl hl.1 rfl (Nat.le_of_ble_eq_true rfl) ⟨Nat.zero_le _, Nat.zero_le _⟩ rfl rfl d_G_fallBack_2 (fun r hr => ?_)
  subst hr
  refine x_fr (pc := 5) [.int (inF x (g 0 0 0 0))] rfl rfl ?_
  refine lv_if_eq (tgt := 33) hx hb d_G_fallBack_5 (by decide) (fun c_5 => ?_) (fun c_5 => ?_)
  · refine lv_iconst (v := (-1)) hx hb d_G_fallBack_33 (by decide) ?_
    exact hret _ _ _ _ _ _ d_G_fallBack_34 hP hS (by simp only [aFall, c_5, if_true, if_false, ite_true, ite_false, not_true_eq_false, not_false_eq_true, reduceIte]; exact ⟨rfl, hR⟩)
  · refine lv_aload_n hx hb d_G_fallBack_8 rfl (lv_at hl 0 rfl) ?_
    refine lv_iload_n hx hb d_G_fallBack_9 rfl (lv_at hl 2 rfl) ?_
    refine xv_R (n := 1) (As := [.int y]) (rest := []) hx hb hml hown hg hK0 hP (c_G_isPlace l D T A _ ad K N g hz hG y) w_305 w_1 w_302 w_304 s_17 (ga_0 hG) rfl rfl (by decide +kernel) ⟨Nat.le_of_ble_eq_true rfl, Nat.le_of_ble_eq_true rfl⟩ rfl hl.1 rfl (Nat.le_of_ble_eq_true rfl) ⟨Nat.zero_le _, Nat.zero_le _⟩ rfl rfl d_G_fallBack_10 (fun r hr => ?_)
    subst hr
    refine x_fr (pc := 13) [.int (inF y (nI N))] rfl rfl ?_
    refine lv_if_eq (tgt := 33) hx hb d_G_fallBack_13 (by decide) (fun c_13 => ?_) (fun c_13 => ?_)
    · refine lv_iconst (v := (-1)) hx hb d_G_fallBack_33 (by decide) ?_
      exact hret _ _ _ _ _ _ d_G_fallBack_34 hP hS (by simp only [aFall, c_5, c_13, if_true, if_false, ite_true, ite_false, not_true_eq_false, not_false_eq_true, reduceIte]; exact ⟨rfl, hR⟩)
    · have c6 := c_5
      have c7 := c_13
      have c8 := c6
      rw [hq] at c8
      obtain ⟨f, hf, rfl⟩ := inF_j (by omega) c8
      obtain ⟨i, hi, rfl⟩ := inF_j (by omega) c7
      have ef : (nI f).toNatClampNeg = f := nI_clamp (by omega)
      have ei : (nI i).toNatClampNeg = i := nI_clamp (by omega)
      refine lv_aload_n hx hb d_G_fallBack_16 rfl (lv_at hl 0 rfl) ?_
      refine x_get (v := .ref (ad 3 0 0)) (C := R_G) (T := F_G) (N := 12) hx hb hg i_G hown hK hP (ga_0 hG) rfl 4 (by decide) (hg _ w_114) (fun _ h9 => h9) rfl d_G_fallBack_17 ?_
      refine lv_iload_n hx hb d_G_fallBack_20 rfl (lv_at hl 1 rfl) ?_
      refine x_aldq (v := .ref (ad 12 f 0)) hx hb hK hP 3 (ga_3 hG) rfl (vp_in_nI (by omega) (by omega)) (by rw [nI_clamp (by omega)]; rfl) d_G_fallBack_21 ?_
      refine x_getN (v := .ref (ad 14 f 0)) (C := R_F) (T := F_F) (N := 6) hx hb hg i_F hown hK hP (ga_12 hG (show f < 6 by omega)) rfl 1 (by decide) (va_Nw.use rfl (hN _ e_71)) (fun _ h9 => h9) rfl d_G_fallBack_22 ?_
      refine lv_iload_n hx hb d_G_fallBack_25 rfl (lv_at hl 2 rfl) ?_
      refine x_aldq (v := .ref (ad 19 f i)) hx hb hK hP 2 (ga_14 hG (show f < 6 by omega)) rfl (vp_in_nI (by omega) (by omega)) (by rw [nI_clamp (by omega)]; rfl) d_G_fallBack_26 ?_
      refine x_getN (v := .int (g 19 f i 0)) (C := R_R) (T := F_R) (N := 5) hx hb hg i_R hown hK hP (ga_19 hG (show f < 6 by omega) (show i < N by omega)) rfl 1 (by decide) (va_Nw.use rfl (hN _ e_45)) (fun _ h9 => h9) rfl d_G_fallBack_27 ?_
      refine lv_if_ne (tgt := 35) hx hb d_G_fallBack_30 (by decide) (fun c_30 => ?_) (fun c_30 => ?_)
      · refine lv_aload_n hx hb d_G_fallBack_35 rfl (lv_at hl 0 rfl) ?_
        refine x_get (v := .ref (ad 3 0 0)) (C := R_G) (T := F_G) (N := 12) hx hb hg i_G hown hK hP (ga_0 hG) rfl 4 (by decide) (hg _ w_114) (fun _ h9 => h9) rfl d_G_fallBack_36 ?_
        refine lv_iload_n hx hb d_G_fallBack_39 rfl (lv_at hl 1 rfl) ?_
        refine x_aldq (v := .ref (ad 12 f 0)) hx hb hK hP 3 (ga_3 hG) rfl (vp_in_nI (by omega) (by omega)) (by rw [nI_clamp (by omega)]; rfl) d_G_fallBack_40 ?_
        refine x_getN (v := .ref (ad 13 f 0)) (C := R_F) (T := F_F) (N := 6) hx hb hg i_F hown hK hP (ga_12 hG (show f < 6 by omega)) rfl 0 (by decide) (va_Nw.use rfl (hN _ e_69)) (fun _ h9 => h9) rfl d_G_fallBack_41 ?_
        refine lv_iload_n hx hb d_G_fallBack_44 rfl (lv_at hl 2 rfl) ?_
        refine x_aldq (v := .ref (ad 17 f i)) hx hb hK hP 2 (ga_13 hG (show f < 6 by omega)) rfl (vp_in_nI (by omega) (by omega)) (by rw [nI_clamp (by omega)]; rfl) d_G_fallBack_45 ?_
        refine lv_aload_n hx hb d_G_fallBack_46 rfl (lv_at hl 0 rfl) ?_
        refine x_get (v := .ref (ad 3 0 0)) (C := R_G) (T := F_G) (N := 12) hx hb hg i_G hown hK hP (ga_0 hG) rfl 4 (by decide) (hg _ w_114) (fun _ h9 => h9) rfl d_G_fallBack_47 ?_
        refine lv_iload_n hx hb d_G_fallBack_50 rfl (lv_at hl 1 rfl) ?_
        refine x_aldq (v := .ref (ad 12 f 0)) hx hb hK hP 3 (ga_3 hG) rfl (vp_in_nI (by omega) (by omega)) (by rw [nI_clamp (by omega)]; rfl) d_G_fallBack_51 ?_
        refine x_getN (v := .ref (ad 14 f 0)) (C := R_F) (T := F_F) (N := 6) hx hb hg i_F hown hK hP (ga_12 hG (show f < 6 by omega)) rfl 1 (by decide) (va_Nw.use rfl (hN _ e_71)) (fun _ h9 => h9) rfl d_G_fallBack_52 ?_
        refine lv_iload_n hx hb d_G_fallBack_55 rfl (lv_at hl 2 rfl) ?_
        refine x_aldq (v := .ref (ad 19 f i)) hx hb hK hP 2 (ga_14 hG (show f < 6 by omega)) rfl (vp_in_nI (by omega) (by omega)) (by rw [nI_clamp (by omega)]; rfl) d_G_fallBack_56 ?_
        refine xvn_Q (n := 1) (As := [.ref (ad 19 f i)]) (rest := []) hx hb hml hown hg hK0 hP hN (c_R_copyFrom l D T A _ (ad 17 f i) (ad 19 f i) (ad 18 f i) (ad 20 f i) N (g 20 f i) (g 18 f i) (g 19 f i 0) (g 19 f i 1) (g 19 f i 2) (g 19 f i 3) (g 17 f i 0) (g 17 f i 1) (g 17 f i 2) (g 17 f i 3) (by omega) (hbo f i (by omega) (by omega)).2 (ga_17 hG (show f < 6 by omega) (show i < N by omega)) (ga_19 hG (show f < 6 by omega) (show i < N by omega)) (ga_18 hG (show f < 6 by omega) (show i < N by omega)) (ga_20 hG (show f < 6 by omega) (show i < N by omega)) (hG.ne (Or.inr (Or.inr ⟨by omega, by omega, by omega, by omega⟩)) (Or.inr (Or.inr ⟨by omega, by omega, by omega, by omega⟩)) (by omega))) w_231 w_4 e_228 w_230 s_9 (ga_17 hG (show f < 6 by omega) (show i < N by omega)) rfl rfl (by decide +kernel) ⟨Nat.le_of_ble_eq_true rfl, Nat.le_of_ble_eq_true rfl⟩ rfl hl.1 rfl (Nat.le_of_ble_eq_true rfl) hS ⟨Nat.zero_le _, Nat.zero_le _⟩ rfl rfl d_G_fallBack_57 (fun r M1 H_37 L_38 hr hP hS => ?_)
        obtain ⟨rfl, rfl⟩ := hr
        obtain ⟨g_39, hg_39⟩ : ∃ z, z = cpS g 19 f i 17 f i := ⟨_, rfl⟩
        obtain ⟨M_40, hP, hR⟩ : ∃ z, xW D classes A z H_37 ∧ gR T ad K N M g_39 z := ⟨_, hP, by rw [hg_39]; exact (hR.set (Or.inr (Or.inr ⟨by omega, by omega, by omega, by omega⟩)) rfl).set (Or.inr (Or.inr ⟨by omega, by omega, by omega, by omega⟩)) rfl⟩
        have hG := hR.1
        refine x_fr (pc := 60) [] rfl rfl ?_
        refine lv_iconst (v := nI 0) hx hb d_G_fallBack_60 (by decide) ?_
        exact hret _ _ _ _ _ _ d_G_fallBack_61 hP hS (by simp only [aFall, c_5, c_13, c_30, ef, ei, reduceIte]; refine ⟨rfl, ?_⟩; rw [hg_39] at hR; exact hR)
      · refine lv_iconst (v := (-1)) hx hb d_G_fallBack_33 (by decide) ?_
        exact hret _ _ _ _ _ _ d_G_fallBack_34 hP hS (by simp only [aFall, c_5, c_13, c_30, ef, ei, if_true, if_false, ite_true, ite_false, not_true_eq_false, not_false_eq_true, reduceIte]; exact ⟨rfl, hR⟩)
set_option maxHeartbeats 4000000 in
set_option maxRecDepth 100000 in
theorem c_G_tamper (l : Launch) (D : va_G) (T : Nat → ClassId) (A : Nat → Prop) (M : xM) (ad : Nat → Nat → Nat → Nat) (K N : Nat) (g : gT) (hz : zB K N) (hG : gG T ad K N g M) (q : Nat) (w : Nat → Nat) (hI : iG N g q w) (x y z u : Int32) : Met l y_G_tamper (Cond.code y_G_tamper b_G_tamper 6 (some .int) :: gw) (rmH 1) (xPc D T A M [.ref (ad 0 0 0), .int x, .int y, .int z, .int u]) (xQ D A (fun r M1 => pA T ad K N M (aTamper N g x y z u) r M1)) 0 0 A := by
  refine xMetQi (by decide) (Nat.le_of_ble_eq_true rfl) ?_
  intro p e s m below meth c Q ls hB hP hS hl hret
  obtain ⟨hx, hb, hml, hown, hg, hK0, hnm⟩ := hB
  have hown : s.vm.findClass "ShareGrid" = some m.cls := hown
  have hK := hK0.1
  have hN := hK0.2.1
  obtain ⟨hz1, hz4, hzn, hz7⟩ := id hz
  have hR := hG.rf
  obtain ⟨hq, hq6, hwr, hbo⟩ := id hI
  have hl : lv_has ls 6 [(0, .ref (ad 0 0 0)), (1, .int x), (2, .int y), (3, .int z), (4, .int u)] := hl
  refine lv_aload_n hx hb d_G_tamper_0 rfl (lv_at hl 0 rfl) ?_
  refine lv_iload_n hx hb d_G_tamper_1 rfl (lv_at hl 1 rfl) ?_
  refine xv_R (n := 1) (As := [.int x]) (rest := []) hx hb hml hown hg hK0 hP (c_G_isFile l D T A _ ad K N g hz hG x) w_313 w_1 w_310 w_312 s_18 (ga_0 hG) rfl rfl (by decide +kernel) ⟨Nat.le_of_ble_eq_true rfl, Nat.le_of_ble_eq_true rfl⟩ rfl hl.1 rfl (Nat.le_of_ble_eq_true rfl) ⟨Nat.zero_le _, Nat.zero_le _⟩ rfl rfl d_G_tamper_2 (fun r hr => ?_)
  subst hr
  refine x_fr (pc := 5) [.int (inF x (g 0 0 0 0))] rfl rfl ?_
  refine lv_if_eq (tgt := 30) hx hb d_G_tamper_5 (by decide) (fun c_5 => ?_) (fun c_5 => ?_)
  · refine lv_iconst (v := (-1)) hx hb d_G_tamper_30 (by decide) ?_
    exact hret _ _ _ _ _ _ d_G_tamper_31 hP hS (by simp only [aTamper, c_5, reduceIte]; exact ⟨rfl, hR⟩)
  · refine lv_aload_n hx hb d_G_tamper_8 rfl (lv_at hl 0 rfl) ?_
    refine lv_iload_n hx hb d_G_tamper_9 rfl (lv_at hl 2 rfl) ?_
    refine xv_R (n := 1) (As := [.int y]) (rest := []) hx hb hml hown hg hK0 hP (c_G_isPlace l D T A _ ad K N g hz hG y) w_305 w_1 w_302 w_304 s_17 (ga_0 hG) rfl rfl (by decide +kernel) ⟨Nat.le_of_ble_eq_true rfl, Nat.le_of_ble_eq_true rfl⟩ rfl hl.1 rfl (Nat.le_of_ble_eq_true rfl) ⟨Nat.zero_le _, Nat.zero_le _⟩ rfl rfl d_G_tamper_10 (fun r hr => ?_)
    subst hr
    refine x_fr (pc := 13) [.int (inF y (nI N))] rfl rfl ?_
    refine lv_if_eq (tgt := 30) hx hb d_G_tamper_13 (by decide) (fun c_13 => ?_) (fun c_13 => ?_)
    · refine lv_iconst (v := (-1)) hx hb d_G_tamper_30 (by decide) ?_
      exact hret _ _ _ _ _ _ d_G_tamper_31 hP hS (by simp only [aTamper, c_5, c_13, reduceIte]; exact ⟨rfl, hR⟩)
    · refine lv_iload_n hx hb d_G_tamper_16 rfl (lv_at hl 3 rfl) ?_
      refine lv_if_lt (tgt := 30) hx hb d_G_tamper_17 (by decide) (fun c_17 => ?_) (fun c_17 => ?_)
      · refine lv_iconst (v := (-1)) hx hb d_G_tamper_30 (by decide) ?_
        exact hret _ _ _ _ _ _ d_G_tamper_31 hP hS (by simp only [aTamper, c_5, c_13, c_17, reduceIte]; exact ⟨rfl, hR⟩)
      · refine lv_iload_n hx hb d_G_tamper_20 rfl (lv_at hl 3 rfl) ?_
        refine lv_iconst (v := nI 3) hx hb d_G_tamper_21 (by decide) ?_
        refine lv_aload_n hx hb d_G_tamper_22 rfl (lv_at hl 0 rfl) ?_
        refine x_get (v := .int (nI N)) (C := R_G) (T := F_G) (N := 12) hx hb hg i_G hown hK hP (ga_0 hG) rfl 1 (by decide) (hg _ w_111) (fun _ h9 => h9) rfl d_G_tamper_23 ?_
        refine lv_iadd hx hb d_G_tamper_26 ?_
        refine x_top (y := nI (3 + N)) (nI_add _ _) ?_
        refine lv_icmp_lt (tgt := 32) hx hb d_G_tamper_27 (by decide) (fun c_27 => ?_) (fun c_27 => ?_)
        · have c6 := c_5
          have c7 := c_13
          have c8 := c6
          rw [hq] at c8
          obtain ⟨f, hf, rfl⟩ := inF_j (by omega) c8
          obtain ⟨i, hi, rfl⟩ := inF_j (by omega) c7
          have ef : (nI f).toNatClampNeg = f := nI_clamp (by omega)
          have ei : (nI i).toNatClampNeg = i := nI_clamp (by omega)
          refine lv_aload_n hx hb d_G_tamper_32 rfl (lv_at hl 0 rfl) ?_
          refine x_get (v := .ref (ad 3 0 0)) (C := R_G) (T := F_G) (N := 12) hx hb hg i_G hown hK hP (ga_0 hG) rfl 4 (by decide) (hg _ w_114) (fun _ h9 => h9) rfl d_G_tamper_33 ?_
          refine lv_iload_n hx hb d_G_tamper_36 rfl (lv_at hl 1 rfl) ?_
          refine x_aldq (v := .ref (ad 12 f 0)) hx hb hK hP 3 (ga_3 hG) rfl (vp_in_nI (by omega) (by omega)) (by rw [nI_clamp (by omega)]; rfl) d_G_tamper_37 ?_
          refine x_getN (v := .ref (ad 13 f 0)) (C := R_F) (T := F_F) (N := 6) hx hb hg i_F hown hK hP (ga_12 hG (show f < 6 by omega)) rfl 0 (by decide) (va_Nw.use rfl (hN _ e_69)) (fun _ h9 => h9) rfl d_G_tamper_38 ?_
          refine lv_iload_n hx hb d_G_tamper_41 rfl (lv_at hl 2 rfl) ?_
          refine x_aldq (v := .ref (ad 17 f i)) hx hb hK hP 2 (ga_13 hG (show f < 6 by omega)) rfl (vp_in_nI (by omega) (by omega)) (by rw [nI_clamp (by omega)]; rfl) d_G_tamper_42 ?_
          refine lv_astore (lv' := [(5, .ref (ad 17 f i)), (0, .ref (ad 0 0 0)), (1, .int (nI f)), (2, .int (nI i)), (3, .int z), (4, .int u)]) hx hb d_G_tamper_43 hl (by decide) rfl (fun ls hl => ?_)
          refine lv_aload hx hb d_G_tamper_45 (lv_at hl 0 rfl) ?_
          refine x_getN (v := .int (g 17 f i 0)) (C := R_R) (T := F_R) (N := 5) hx hb hg i_R hown hK hP (ga_17 hG (show f < 6 by omega) (show i < N by omega)) rfl 1 (by decide) (va_Nw.use rfl (hN _ e_45)) (fun _ h9 => h9) rfl d_G_tamper_47 ?_
          refine lv_if_ne (tgt := 55) hx hb d_G_tamper_50 (by decide) (fun c_50 => ?_) (fun c_50 => ?_)
          · refine lv_iload_n hx hb d_G_tamper_55 rfl (lv_at hl 4 rfl) ?_
            by_cases s0 : z = 0
            · refine lv_tableIn (off := 28) (tgt := 84) hx hb d_G_tamper_56 (by rw [s0]; decide) (by rw [s0]; decide) (by rw [s0]; rfl) (by decide) ?_
              refine lv_aload hx hb d_G_tamper_84 (lv_at hl 0 rfl) ?_
              refine lv_dup hx hb d_G_tamper_86 rfl ?_
              refine x_getN (v := .int (g 17 f i 1)) (C := R_R) (T := F_R) (N := 5) hx hb hg i_R hown hK hP (ga_17 hG (show f < 6 by omega) (show i < N by omega)) rfl 2 (by decide) (va_Nw.use rfl (hN _ e_48)) (fun _ h9 => h9) rfl d_G_tamper_87 ?_
              refine lv_iload hx hb d_G_tamper_90 (lv_at hl 5 rfl) ?_
              refine lv_ixor hx hb d_G_tamper_92 ?_
              refine x_putN (v := .int ((g 17 f i 1) ^^^ u)) (ty := .int) (C := R_R) (T := F_R) (N := 5) hx hb hg i_R t_R t_R_ok n_R hown hK hP hS (ga_17 hG (show f < 6 by omega) (show i < N by omega)) rfl 2 (by decide) (va_Nw.use rfl (hN _ e_48)) (fun _ h9 => h9) rfl (by decide +kernel) rfl rfl (Nat.le_of_ble_eq_true rfl) d_G_tamper_93 (fun H_41 L_42 hP hS => ?_)
              obtain ⟨g_43, hg_43⟩ : ∃ z, z = upS g 17 f i (upd (g 17 f i) 1 ((g 17 f i 1) ^^^ u)) := ⟨_, rfl⟩
              obtain ⟨M_44, hP, hR⟩ : ∃ z, xW D classes A z H_41 ∧ gR T ad K N M g_43 z := ⟨_, hP, by rw [hg_43]; exact hR.set (Or.inr (Or.inr ⟨by omega, by omega, by omega, by omega⟩)) rfl⟩
              have hG := hR.1
              refine lv_goto (tgt := 143) hx hb d_G_tamper_96 (by decide) ?_
              refine lv_iconst (v := nI 0) hx hb d_G_tamper_143 (by decide) ?_
              exact hret _ _ _ _ _ _ d_G_tamper_144 hP hS (by
                have e1 : aTamper N g (nI f) (nI i) z u = (0, tmG g f i z u) := by rw [aTamper, if_neg c6, if_neg c7, if_neg c_17, if_pos c_27, ef, ei, if_neg c_50]
                have e2 : tmG g f i z u = g_43 := by rw [tmG, if_pos s0, hg_43]
                rw [e1, e2]
                exact ⟨rfl, hR⟩)
            · by_cases s1 : z = 1
              · refine lv_tableIn (off := 43) (tgt := 99) hx hb d_G_tamper_56 (by rw [s1]; decide) (by rw [s1]; decide) (by rw [s1]; rfl) (by decide) ?_
                refine lv_aload hx hb d_G_tamper_99 (lv_at hl 0 rfl) ?_
                refine lv_dup hx hb d_G_tamper_101 rfl ?_
                refine x_getN (v := .int (g 17 f i 2)) (C := R_R) (T := F_R) (N := 5) hx hb hg i_R hown hK hP (ga_17 hG (show f < 6 by omega) (show i < N by omega)) rfl 3 (by decide) (va_Nw.use rfl (hN _ e_51)) (fun _ h9 => h9) rfl d_G_tamper_102 ?_
                refine lv_iload hx hb d_G_tamper_105 (lv_at hl 5 rfl) ?_
                refine lv_ixor hx hb d_G_tamper_107 ?_
                refine x_putN (v := .int ((g 17 f i 2) ^^^ u)) (ty := .int) (C := R_R) (T := F_R) (N := 5) hx hb hg i_R t_R t_R_ok n_R hown hK hP hS (ga_17 hG (show f < 6 by omega) (show i < N by omega)) rfl 3 (by decide) (va_Nw.use rfl (hN _ e_51)) (fun _ h9 => h9) rfl (by decide +kernel) rfl rfl (Nat.le_of_ble_eq_true rfl) d_G_tamper_108 (fun H_45 L_46 hP hS => ?_)
                obtain ⟨g_47, hg_47⟩ : ∃ z, z = upS g 17 f i (upd (g 17 f i) 2 ((g 17 f i 2) ^^^ u)) := ⟨_, rfl⟩
                obtain ⟨M_48, hP, hR⟩ : ∃ z, xW D classes A z H_45 ∧ gR T ad K N M g_47 z := ⟨_, hP, by rw [hg_47]; exact hR.set (Or.inr (Or.inr ⟨by omega, by omega, by omega, by omega⟩)) rfl⟩
                have hG := hR.1
                refine lv_goto (tgt := 143) hx hb d_G_tamper_111 (by decide) ?_
                refine lv_iconst (v := nI 0) hx hb d_G_tamper_143 (by decide) ?_
                exact hret _ _ _ _ _ _ d_G_tamper_144 hP hS (by
                  have e1 : aTamper N g (nI f) (nI i) z u = (0, tmG g f i z u) := by rw [aTamper, if_neg c6, if_neg c7, if_neg c_17, if_pos c_27, ef, ei, if_neg c_50]
                  have e2 : tmG g f i z u = g_47 := by rw [tmG, if_neg s0, if_pos s1, hg_47]
                  rw [e1, e2]
                  exact ⟨rfl, hR⟩)
              · by_cases s2 : z = 2
                · refine lv_tableIn (off := 58) (tgt := 114) hx hb d_G_tamper_56 (by rw [s2]; decide) (by rw [s2]; decide) (by rw [s2]; rfl) (by decide) ?_
                  refine lv_aload hx hb d_G_tamper_114 (lv_at hl 0 rfl) ?_
                  refine lv_dup hx hb d_G_tamper_116 rfl ?_
                  refine x_getN (v := .int (g 17 f i 3)) (C := R_R) (T := F_R) (N := 5) hx hb hg i_R hown hK hP (ga_17 hG (show f < 6 by omega) (show i < N by omega)) rfl 4 (by decide) (va_Nw.use rfl (hN _ e_54)) (fun _ h9 => h9) rfl d_G_tamper_117 ?_
                  refine lv_iload hx hb d_G_tamper_120 (lv_at hl 5 rfl) ?_
                  refine lv_ixor hx hb d_G_tamper_122 ?_
                  refine x_putN (v := .int ((g 17 f i 3) ^^^ u)) (ty := .int) (C := R_R) (T := F_R) (N := 5) hx hb hg i_R t_R t_R_ok n_R hown hK hP hS (ga_17 hG (show f < 6 by omega) (show i < N by omega)) rfl 4 (by decide) (va_Nw.use rfl (hN _ e_54)) (fun _ h9 => h9) rfl (by decide +kernel) rfl rfl (Nat.le_of_ble_eq_true rfl) d_G_tamper_123 (fun H_49 L_50 hP hS => ?_)
                  obtain ⟨g_51, hg_51⟩ : ∃ z, z = upS g 17 f i (upd (g 17 f i) 3 ((g 17 f i 3) ^^^ u)) := ⟨_, rfl⟩
                  obtain ⟨M_52, hP, hR⟩ : ∃ z, xW D classes A z H_49 ∧ gR T ad K N M g_51 z := ⟨_, hP, by rw [hg_51]; exact hR.set (Or.inr (Or.inr ⟨by omega, by omega, by omega, by omega⟩)) rfl⟩
                  have hG := hR.1
                  refine lv_goto (tgt := 143) hx hb d_G_tamper_126 (by decide) ?_
                  refine lv_iconst (v := nI 0) hx hb d_G_tamper_143 (by decide) ?_
                  exact hret _ _ _ _ _ _ d_G_tamper_144 hP hS (by
                    have e1 : aTamper N g (nI f) (nI i) z u = (0, tmG g f i z u) := by rw [aTamper, if_neg c6, if_neg c7, if_neg c_17, if_pos c_27, ef, ei, if_neg c_50]
                    have e2 : tmG g f i z u = g_51 := by rw [tmG, if_neg s0, if_neg s1, if_pos s2, hg_51]
                    rw [e1, e2]
                    exact ⟨rfl, hR⟩)
                · have hout : (z).toInt < 0 ∨ 2 < (z).toInt := by
                    have q0 := lv_neT s0 (a := 0) (by decide)
                    have q1 := lv_neT s1 (a := 1) (by decide)
                    have q2 := lv_neT s2 (a := 2) (by decide)
                    omega
                  refine lv_tableOut (tgt := 129) hx hb d_G_tamper_56 hout (by decide) ?_
                  obtain ⟨j, hj3, hjN, hj⟩ : ∃ j : Nat, 3 ≤ j ∧ j < 3 + N ∧ z = nI j := by
                    obtain ⟨j, hj, rfl⟩ := nI_of c_17
                    have q9 := (nI_ltI hj (by omega)).mp c_27
                    have q0 : j ≠ 0 := fun h => s0 (by rw [h]; rfl)
                    have q1 : j ≠ 1 := fun h => s1 (by rw [h]; rfl)
                    have q2 : j ≠ 2 := fun h => s2 (by rw [h]; rfl)
                    exact ⟨j, by omega, q9, rfl⟩
                  rw [hj] at hl
                  have ej : z.toNatClampNeg = j := by rw [hj, nI_clamp (by omega)]
                  refine lv_aload hx hb d_G_tamper_129 (lv_at hl 0 rfl) ?_
                  refine x_getN (v := .ref (ad 18 f i)) (C := R_R) (T := F_R) (N := 5) hx hb hg i_R hown hK hP (ga_17 hG (show f < 6 by omega) (show i < N by omega)) rfl 0 (by decide) (va_Nw.use rfl (hN _ e_42)) (fun _ h9 => h9) rfl d_G_tamper_131 ?_
                  refine lv_iload_n hx hb d_G_tamper_134 rfl (lv_at hl 4 rfl) ?_
                  refine lv_iconst (v := nI 3) hx hb d_G_tamper_135 (by decide) ?_
                  refine lv_isub hx hb d_G_tamper_136 ?_
                  refine x_top (y := nI (j - 3)) (pk_sub (by omega)) ?_
                  refine lv_dup2_11 hx hb d_G_tamper_137 rfl rfl ?_
                  refine x_iald (v := g 18 f i (j - 3)) hx hb hK hP 0 (ga_18 hG (show f < 6 by omega) (show i < N by omega)) rfl (vp_in_nI (by omega) (by omega)) (by rw [nI_clamp (by omega)]) d_G_tamper_138 ?_
                  refine lv_iload hx hb d_G_tamper_139 (lv_at hl 5 rfl) ?_
                  refine lv_ixor hx hb d_G_tamper_141 ?_
                  refine x_iast hx hb hK hP hS 0 (ga_18 hG (show f < 6 by omega) (show i < N by omega)) rfl (vp_in_nI (by omega) (by omega)) d_G_tamper_142 (fun H_53 L_54 hP hS => ?_)
                  rw [nI_clamp (by omega)] at hP
                  obtain ⟨g_55, hg_55⟩ : ∃ z, z = upS g 18 f i (upd (g 18 f i) (j - 3) ((g 18 f i (j - 3)) ^^^ u)) := ⟨_, rfl⟩
                  obtain ⟨M_56, hP, hR⟩ : ∃ z, xW D classes A z H_53 ∧ gR T ad K N M g_55 z := ⟨_, hP, by rw [hg_55]; exact hR.set (Or.inr (Or.inr ⟨by omega, by omega, by omega, by omega⟩)) rfl⟩
                  have hG := hR.1
                  refine lv_iconst (v := nI 0) hx hb d_G_tamper_143 (by decide) ?_
                  exact hret _ _ _ _ _ _ d_G_tamper_144 hP hS (by
                    have e1 : aTamper N g (nI f) (nI i) z u = (0, tmG g f i z u) := by rw [aTamper, if_neg c6, if_neg c7, if_neg c_17, if_pos c_27, ef, ei, if_neg c_50]
                    have e2 : tmG g f i z u = g_55 := by rw [tmG, if_neg s0, if_neg s1, if_neg s2, ej, hg_55]
                    rw [e1, e2]
                    exact ⟨rfl, hR⟩)
          · refine lv_iconst (v := (-1)) hx hb d_G_tamper_53 (by decide) ?_
            exact hret _ _ _ _ _ _ d_G_tamper_54 hP hS (by simp only [aTamper, c_5, c_13, c_17, c_27, c_50, ef, ei, reduceIte]; exact ⟨rfl, hR⟩)
        · refine lv_iconst (v := (-1)) hx hb d_G_tamper_30 (by decide) ?_
          exact hret _ _ _ _ _ _ d_G_tamper_31 hP hS (by simp only [aTamper, c_5, c_13, c_17, c_27, reduceIte]; exact ⟨rfl, hR⟩)
