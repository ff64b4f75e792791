/-! the reference: its memory, and what ties it to the class's -/
abbrev qT : Type := Nat → Nat → Int32
def cM (T : Nat → ClassId) (bd : Nat → Nat) (K N : Nat) (h : Nat → Int32) (k : Nat) : va_E := match k with
  | 0 => .inr (4, [.int (nI K), .int (nI N), .ref (bd 1), .ref (bd 2), .ref (bd 3), .ref (bd 4), .int (h 0), .ref (bd 5), .ref (bd 6), .ref (bd 7), .ref (bd 8), .ref (bd 9), .ref (bd 10), .int (h 1), .ref (bd 11), .ref (bd 12), .ref (bd 13)])
  | 1 => eI (T 1) 7 h
  | 2 => eI (T 1) 7 h
  | 3 => eI (T 0) 6 h
  | 4 => eI (T 0) 6 h
  | 5 => eI (T 0) 186 h
  | 6 => eI (T 0) 186 h
  | 7 => eI (T 0) 840 h
  | 8 => eI (T 1) 84 h
  | 9 => eI (T 0) 4 h
  | 10 => eI (T 0) 4 h
  | 11 => eI (T 0) 4 h
  | 12 => eI (T 0) 16 h
  | _ => eI (T 0) 4 h
def mG (T : Nat → ClassId) (bd : Nat → Nat) (K N : Nat) (q : qT) (M : xM) : Prop := (∀ k, k < 14 → M (bd k) = some (cM T bd K N (q k) k)) ∧ ∀ k k', k < 14 → k' < 14 → bd k = bd k' → k = k'
def mR (T : Nat → ClassId) (bd : Nat → Nat) (K N : Nat) (M : xM) (q : qT) (M1 : xM) : Prop := mG T bd K N q M1 ∧ ∀ a, (∀ k, k < 14 → bd k ≠ a) → M1 a = M a
def upQ (q : qT) (k : Nat) (h : Nat → Int32) : qT := fun k1 => if k1 = k then h else q k1
theorem upQ_s {q : qT} {k : Nat} {h : Nat → Int32} : upQ q k h k = h := by simp [upQ]
theorem upQ_n {q : qT} {k k1 : Nat} {h : Nat → Int32} (e : k1 ≠ k) : upQ q k h k1 = q k1 := by simp [upQ, e]
section MM
variable {T : Nat → ClassId} {bd : Nat → Nat} {K N : Nat} {q : qT} {M M0 M1 : xM}
theorem mG.rf (h : mG T bd K N q M) : mR T bd K N M q M := ⟨h, fun _ _ => rfl⟩
theorem mR.tr {q1 : qT} (h : mR T bd K N M0 q M) (h1 : mR T bd K N M q1 M1) : mR T bd K N M0 q1 M1 := ⟨h1.1, fun a z => (h1.2 a z).trans (h.2 a z)⟩
theorem mR.set {k : Nat} {h' : Nat → Int32} {e : va_E} (h : mR T bd K N M0 q M) (v : k < 14) (he : e = cM T bd K N h' k) : mR T bd K N M0 (upQ q k h') (xU M (bd k) e) := by
  subst he
  refine ⟨⟨fun k1 v1 => ?_, h.1.2⟩, fun a z => ?_⟩
  · by_cases hq : k1 = k
    · subst hq; rw [xU_s, upQ_s]
    · rw [xU_n (fun z => hq (h.1.2 k1 k v1 v z)), upQ_n hq]; exact h.1.1 k1 v1
  · rw [xU_n (fun y => z k v y.symm)]; exact h.2 a z
theorem ma_0 (h : mG T bd K N q M) : M (bd 0) = some (cM T bd K N (q 0) 0) := h.1 0 (by omega)
theorem ma_1 (h : mG T bd K N q M) : M (bd 1) = some (cM T bd K N (q 1) 1) := h.1 1 (by omega)
theorem ma_2 (h : mG T bd K N q M) : M (bd 2) = some (cM T bd K N (q 2) 2) := h.1 2 (by omega)
theorem ma_3 (h : mG T bd K N q M) : M (bd 3) = some (cM T bd K N (q 3) 3) := h.1 3 (by omega)
theorem ma_4 (h : mG T bd K N q M) : M (bd 4) = some (cM T bd K N (q 4) 4) := h.1 4 (by omega)
theorem ma_5 (h : mG T bd K N q M) : M (bd 5) = some (cM T bd K N (q 5) 5) := h.1 5 (by omega)
theorem ma_6 (h : mG T bd K N q M) : M (bd 6) = some (cM T bd K N (q 6) 6) := h.1 6 (by omega)
theorem ma_7 (h : mG T bd K N q M) : M (bd 7) = some (cM T bd K N (q 7) 7) := h.1 7 (by omega)
theorem ma_8 (h : mG T bd K N q M) : M (bd 8) = some (cM T bd K N (q 8) 8) := h.1 8 (by omega)
theorem ma_9 (h : mG T bd K N q M) : M (bd 9) = some (cM T bd K N (q 9) 9) := h.1 9 (by omega)
theorem ma_10 (h : mG T bd K N q M) : M (bd 10) = some (cM T bd K N (q 10) 10) := h.1 10 (by omega)
theorem ma_11 (h : mG T bd K N q M) : M (bd 11) = some (cM T bd K N (q 11) 11) := h.1 11 (by omega)
theorem ma_12 (h : mG T bd K N q M) : M (bd 12) = some (cM T bd K N (q 12) 12) := h.1 12 (by omega)
theorem ma_13 (h : mG T bd K N q M) : M (bd 13) = some (cM T bd K N (q 13) 13) := h.1 13 (by omega)
end MM
def rwS (N : Nat) (q : qT) (at0 : Nat) (h h2 : Nat → Int32) : Prop := q 8 at0 = h 0 ∧ q 7 (at0 * 10) = h 1 ∧ q 7 (at0 * 10 + 1) = h 2 ∧ q 7 (at0 * 10 + 2) = h 3 ∧ ∀ j, j < N → q 7 (at0 * 10 + 3 + j) = h2 j
def sM (K N : Nat) (g : gT) (q : qT) : Prop := q 0 0 = g 0 0 0 0 ∧ q 0 1 = g 0 0 0 1 ∧ (∀ s, s < N → q 1 s = g 1 0 0 s ∧ q 2 s = g 2 0 0 s) ∧ (∀ f, f < 6 → q 3 f = g 12 f 0 0 ∧ q 4 f = g 12 f 0 1) ∧ (∀ f j, f < 6 → j < 31 → q 5 (f * 31 + j) = g 15 f 0 j ∧ q 6 (f * 31 + j) = g 16 f 0 j) ∧ (∀ f s, f < 6 → s < N → rwS N q (f * 7 + s) (g 17 f s) (g 18 f s) ∧ rwS N q (42 + f * 7 + s) (g 19 f s) (g 20 f s)) ∧ ∀ i, i < K → q 9 i = g 4 0 0 i ∧ q 10 i = g 5 0 0 i
section SS
variable {K N : Nat} {g : gT} {q : qT}
theorem sM.n (h : sM K N g q) : q 0 0 = g 0 0 0 0 := h.1
theorem sM.hr (h : sM K N g q) : q 0 1 = g 0 0 0 1 := h.2.1
theorem sM.up (h : sM K N g q) {s : Nat} (hs : s < N) : q 1 s = g 1 0 0 s := (h.2.2.1 s hs).1
theorem sM.st (h : sM K N g q) {s : Nat} (hs : s < N) : q 2 s = g 2 0 0 s := (h.2.2.1 s hs).2
theorem sM.vk (h : sM K N g q) {f : Nat} (hf : f < 6) : q 3 f = g 12 f 0 0 := (h.2.2.2.1 f hf).1
theorem sM.wr (h : sM K N g q) {f : Nat} (hf : f < 6) : q 4 f = g 12 f 0 1 := (h.2.2.2.1 f hf).2
theorem sM.ro (h : sM K N g q) {f j : Nat} (hf : f < 6) (hj : j < 31) : q 5 (f * 31 + j) = g 15 f 0 j := (h.2.2.2.2.1 f j hf hj).1
theorem sM.se (h : sM K N g q) {f j : Nat} (hf : f < 6) (hj : j < 31) : q 6 (f * 31 + j) = g 16 f 0 j := (h.2.2.2.2.1 f j hf hj).2
theorem sM.rc (h : sM K N g q) {f s : Nat} (hf : f < 6) (hs : s < N) : rwS N q (f * 7 + s) (g 17 f s) (g 18 f s) := (h.2.2.2.2.2.1 f s hf hs).1
theorem sM.pi (h : sM K N g q) {f s : Nat} (hf : f < 6) (hs : s < N) : rwS N q (42 + f * 7 + s) (g 19 f s) (g 20 f s) := (h.2.2.2.2.2.1 f s hf hs).2
theorem sM.dr (h : sM K N g q) {i : Nat} (hi : i < K) : q 9 i = g 4 0 0 i := (h.2.2.2.2.2.2 i hi).1
theorem sM.wo (h : sM K N g q) {i : Nat} (hi : i < K) : q 10 i = g 5 0 0 i := (h.2.2.2.2.2.2 i hi).2
end SS
def stp (a b : Int32) (r : Nat) (acc : Int32) : Int32 := if (b >>> (nI r &&& 31)) &&& 1 = 0 then (if acc <<< ((1 : Int32) &&& 31) ≤ 255 then acc <<< ((1 : Int32) &&& 31) else (acc <<< ((1 : Int32) &&& 31)) ^^^ 285) else (if acc <<< ((1 : Int32) &&& 31) ≤ 255 then acc <<< ((1 : Int32) &&& 31) else (acc <<< ((1 : Int32) &&& 31)) ^^^ 285) ^^^ a
def prG (a b : Int32) : Nat → Int32 → Int32
  | 0, acc => acc
  | r + 1, acc => prG a b r (stp a b r acc)
def prF (a b : Int32) : Int32 := prG a b 8 0
def smS (x k : Int32) : Nat → Int32
  | 0 => 0
  | b + 1 => smS x k b ||| (prF (ushF x (nI (8 * b)) &&& 255) k <<< (nI (8 * b) &&& 31))
def smF (x k : Int32) : Int32 := smS x k 4
def pwF (x : Int32) : Nat → Int32
  | 0 => 1
  | n + 1 => prF (pwF x n) x
def shM (cw : Nat → Int32) (pt : Int32) : Nat → Int32
  | 0 => 0
  | i + 1 => shM cw pt i ^^^ smF (cw i) (pwF pt i)
set_option maxHeartbeats 4000000 in
set_option maxRecDepth 100000 in
theorem c_M_mix (l : Launch) (D : va_G) (T : Nat → ClassId) (A : Nat → Prop) (M : xM) (bd : Nat → Nat) (K N : Nat) (q : Nat → Nat → Int32) (hz : zB K N) (hM : mG T bd K N q M) (x y : Int32) : Met l y_M_mix (Cond.code y_M_mix b_M_mix 4 (some .int) :: gw) (rmH 0) (xPc D T A M [.ref (bd 0), .int x, .int y]) (xR (fun r => r = some (.int (mixF x y)))) 0 0 (fun _ => False) := by
  refine xMetRi (by decide) (Nat.le_of_ble_eq_true rfl) ?_
  intro p e s m below meth c Q ls hB hP hl hret
  obtain ⟨hx, hb, hml, hown, hg, hK0, hnm⟩ := hB
  have hown : s.vm.findClass "ShareGridModel" = some m.cls := hown
  have hK := hK0.1
  have hN := hK0.2.1
  obtain ⟨hz1, hz4, hzn, hz7⟩ := id hz
  have hl : lv_has ls 4 [(0, .ref (bd 0)), (1, .int x), (2, .int y)] := hl
  refine lv_iload_n hx hb d_M_mix_0 rfl (lv_at hl 1 rfl) ?_
  refine lv_iload_n hx hb d_M_mix_1 rfl (lv_at hl 2 rfl) ?_
  refine lv_ldc (v := 40503) hx hb hown (hg _ w_414) d_M_mix_2 ?_
  refine lv_imul hx hb d_M_mix_4 ?_
  refine lv_sipush (v := 12345) hx hb d_M_mix_5 (by decide) ?_
  refine lv_iadd hx hb d_M_mix_8 ?_
  refine lv_ixor hx hb d_M_mix_9 ?_
  refine lv_ldc (v := 1640531527) hx hb hown (hg _ w_415) d_M_mix_10 ?_
  refine lv_imul hx hb d_M_mix_12 ?_
  refine lv_istore_n (lv' := [(3, .int ((x ^^^ ((y * 40503) + 12345)) * 1640531527)), (0, .ref (bd 0)), (1, .int x), (2, .int y)]) hx hb d_M_mix_13 rfl hl (by decide) rfl (fun ls hl => ?_)
  refine lv_iload_n hx hb d_M_mix_14 rfl (lv_at hl 0 rfl) ?_
  refine lv_iload_n hx hb d_M_mix_15 rfl (lv_at hl 0 rfl) ?_
  refine lv_bipush (v := 15) hx hb d_M_mix_16 (by decide) ?_
  refine lv_iushr (v := ushF ((x ^^^ ((y * 40503) + 12345)) * 1640531527) 15) hx hb d_M_mix_18 rfl ?_
  refine lv_ixor hx hb d_M_mix_19 ?_
  exact hret _ _ _ d_M_mix_20 rfl
set_option maxHeartbeats 4000000 in
set_option maxRecDepth 100000 in
theorem c_M_key (l : Launch) (D : va_G) (T : Nat → ClassId) (A : Nat → Prop) (M : xM) (bd : Nat → Nat) (K N : Nat) (q : Nat → Nat → Int32) (hz : zB K N) (hM : mG T bd K N q M) (x y : Int32) : Met l y_M_key (Cond.code y_M_key b_M_key 3 (some .int) :: gw) (rmH 1) (xPc D T A M [.ref (bd 0), .int x, .int y]) (xR (fun r => r = some (.int (aKey x y)))) 0 0 (fun _ => False) := by
  refine xMetRi (by decide) (Nat.le_of_ble_eq_true rfl) ?_
  intro p e s m below meth c Q ls hB hP hl hret
  obtain ⟨hx, hb, hml, hown, hg, hK0, hnm⟩ := hB
  have hown : s.vm.findClass "ShareGridModel" = some m.cls := hown
  have hK := hK0.1
  have hN := hK0.2.1
  obtain ⟨hz1, hz4, hzn, hz7⟩ := id hz
  have hl : lv_has ls 3 [(0, .ref (bd 0)), (1, .int x), (2, .int y)] := hl
  refine lv_iload_n hx hb d_M_key_0 rfl (lv_at hl 2 rfl) ?_
  refine lv_iconst (v := 1) hx hb d_M_key_1 (by decide) ?_
  refine lv_icmp_ne (tgt := 12) hx hb d_M_key_2 (by decide) (fun c_2 => ?_) (fun c_2 => ?_)
  · refine lv_iload_n hx hb d_M_key_12 rfl (lv_at hl 2 rfl) ?_
    refine lv_iconst (v := 2) hx hb d_M_key_13 (by decide) ?_
    refine lv_icmp_ne (tgt := 24) hx hb d_M_key_14 (by decide) (fun c_14 => ?_) (fun c_14 => ?_)
    · refine lv_iload_n hx hb d_M_key_24 rfl (lv_at hl 2 rfl) ?_
      refine lv_iconst (v := 3) hx hb d_M_key_25 (by decide) ?_
      refine lv_icmp_ne (tgt := 43) hx hb d_M_key_26 (by decide) (fun c_26 => ?_) (fun c_26 => ?_)
      · refine lv_iconst (v := 0) hx hb d_M_key_43 (by decide) ?_
        exact hret _ _ _ d_M_key_44 (by simp [aKey, c_2, c_14, c_26])
      · refine lv_aload_n hx hb d_M_key_29 rfl (lv_at hl 0 rfl) ?_
        refine lv_aload_n hx hb d_M_key_30 rfl (lv_at hl 0 rfl) ?_
        refine lv_iload_n hx hb d_M_key_31 rfl (lv_at hl 1 rfl) ?_
        refine lv_iconst (v := 1) hx hb d_M_key_32 (by decide) ?_
        refine xv_R (n := 2) (As := [.int x, .int 1]) (rest := [.ref (bd 0)]) hx hb hml hown hg hK0 hP (c_M_mix l D T A _ bd K N q hz hM x 1) w_413 w_6 w_410 w_412 s_20 (ma_0 hM) rfl rfl (by decide +kernel) ⟨Nat.le_of_ble_eq_true rfl, Nat.le_of_ble_eq_true rfl⟩ rfl hl.1 rfl (Nat.le_of_ble_eq_true rfl) ⟨Nat.zero_le _, Nat.zero_le _⟩ rfl rfl d_M_key_33 (fun r hr => ?_)
        subst hr
        refine x_fr (pc := 36) [.int (mixF x 1), .ref (bd 0)] rfl rfl ?_
        refine lv_iconst (v := 2) hx hb d_M_key_36 (by decide) ?_
        refine xv_R (n := 2) (As := [.int (mixF x 1), .int 2]) (rest := []) hx hb hml hown hg hK0 hP (c_M_mix l D T A _ bd K N q hz hM (mixF x 1) 2) w_413 w_6 w_410 w_412 s_20 (ma_0 hM) rfl rfl (by decide +kernel) ⟨Nat.le_of_ble_eq_true rfl, Nat.le_of_ble_eq_true rfl⟩ rfl hl.1 rfl (Nat.le_of_ble_eq_true rfl) ⟨Nat.zero_le _, Nat.zero_le _⟩ rfl rfl d_M_key_37 (fun r hr => ?_)
        subst hr
        refine x_fr (pc := 40) [.int (mixF (mixF x 1) 2)] rfl rfl ?_
        refine lv_goto (tgt := 44) hx hb d_M_key_40 (by decide) ?_
        exact hret _ _ _ d_M_key_44 (by simp [aKey, c_2, c_14, c_26])
    · refine lv_aload_n hx hb d_M_key_17 rfl (lv_at hl 0 rfl) ?_
      refine lv_iload_n hx hb d_M_key_18 rfl (lv_at hl 1 rfl) ?_
      refine lv_iconst (v := 2) hx hb d_M_key_19 (by decide) ?_
      refine xv_R (n := 2) (As := [.int x, .int 2]) (rest := []) hx hb hml hown hg hK0 hP (c_M_mix l D T A _ bd K N q hz hM x 2) w_413 w_6 w_410 w_412 s_20 (ma_0 hM) rfl rfl (by decide +kernel) ⟨Nat.le_of_ble_eq_true rfl, Nat.le_of_ble_eq_true rfl⟩ rfl hl.1 rfl (Nat.le_of_ble_eq_true rfl) ⟨Nat.zero_le _, Nat.zero_le _⟩ rfl rfl d_M_key_20 (fun r hr => ?_)
      subst hr
      refine x_fr (pc := 23) [.int (mixF x 2)] rfl rfl ?_
      exact hret _ _ _ d_M_key_23 (by simp [aKey, c_2, c_14])
  · refine lv_aload_n hx hb d_M_key_5 rfl (lv_at hl 0 rfl) ?_
    refine lv_iload_n hx hb d_M_key_6 rfl (lv_at hl 1 rfl) ?_
    refine lv_iconst (v := 1) hx hb d_M_key_7 (by decide) ?_
    refine xv_R (n := 2) (As := [.int x, .int 1]) (rest := []) hx hb hml hown hg hK0 hP (c_M_mix l D T A _ bd K N q hz hM x 1) w_413 w_6 w_410 w_412 s_20 (ma_0 hM) rfl rfl (by decide +kernel) ⟨Nat.le_of_ble_eq_true rfl, Nat.le_of_ble_eq_true rfl⟩ rfl hl.1 rfl (Nat.le_of_ble_eq_true rfl) ⟨Nat.zero_le _, Nat.zero_le _⟩ rfl rfl d_M_key_8 (fun r hr => ?_)
    subst hr
    refine x_fr (pc := 11) [.int (mixF x 1)] rfl rfl ?_
    exact hret _ _ _ d_M_key_11 (by simp [aKey, c_2])
set_option maxHeartbeats 4000000 in
set_option maxRecDepth 100000 in
theorem c_M_product (l : Launch) (D : va_G) (T : Nat → ClassId) (A : Nat → Prop) (M : xM) (bd : Nat → Nat) (K N : Nat) (q : Nat → Nat → Int32) (hz : zB K N) (hM : mG T bd K N q M) (x y : Int32) : Met l y_M_product (Cond.code y_M_product b_M_product 5 (some .int) :: gw) (rmH 0) (xPc D T A M [.ref (bd 0), .int x, .int y]) (xR (fun r => r = some (.int (prF x y)))) 0 0 (fun _ => False) := by
  refine xMetRi (by decide) (Nat.le_of_ble_eq_true rfl) ?_
  intro p e s m below meth c Q ls hB hP hl hret
  obtain ⟨hx, hb, hml, hown, hg, hK0, hnm⟩ := hB
  have hown : s.vm.findClass "ShareGridModel" = some m.cls := hown
  have hK := hK0.1
  have hN := hK0.2.1
  obtain ⟨hz1, hz4, hzn, hz7⟩ := id hz
  have hl : lv_has ls 5 [(0, .ref (bd 0)), (1, .int x), (2, .int y)] := hl
  refine lv_iconst (v := 0) hx hb d_M_product_0 (by decide) ?_
  refine lv_istore_n (lv' := [(3, .int 0), (0, .ref (bd 0)), (1, .int x), (2, .int y)]) hx hb d_M_product_1 rfl hl (by decide) rfl (fun ls hl => ?_)
  refine lv_bipush (v := nI 7) hx hb d_M_product_2 (by decide) ?_
  refine lv_istore (lv' := [(4, .int (nI 7)), (3, .int 0), (0, .ref (bd 0)), (1, .int x), (2, .int y)]) hx hb d_M_product_4 hl (by decide) rfl (fun ls hl => ?_)
  have loop : ∀ (r : Nat) (x3 : Int32), r ≤ 8 → prF x y = prG x y r x3 → ∀ (ls : Array Slot), lv_has ls 5 [(0, .ref (bd 0)), (1, .int x), (2, .int y), (3, .int x3), (4, .int (dnI r))] → W p l e (rmH 0) s m [.ref (bd 0), .int x, .int y].toArray below meth c s.heap [] 0 0 Q (F0 m 6 ls []) := by
    intro r
    induction r with
    | zero =>
      intro x3 hr he ls hl
      have hl : lv_has ls 5 [(0, .ref (bd 0)), (1, .int x), (2, .int y), (3, .int x3), (4, .int (-1))] := hl
      refine lv_iload hx hb d_M_product_6 (lv_at hl 4 rfl) ?_
      refine lv_if_lt (tgt := 47) hx hb d_M_product_8 (by decide) (fun c1 => ?_) (fun c1 => ?_)
      · refine lv_iload_n hx hb d_M_product_47 rfl (lv_at hl 3 rfl) ?_
        exact hret _ _ _ d_M_product_48 (by rw [he]; rfl)
      · exact absurd (by decide) c1
    | succ r ih =>
      intro x3 hr he ls hl
      have hl : lv_has ls 5 [(0, .ref (bd 0)), (1, .int x), (2, .int y), (3, .int x3), (4, .int (nI r))] := hl
      refine lv_iload hx hb d_M_product_6 (lv_at hl 4 rfl) ?_
      refine lv_if_lt (tgt := 47) hx hb d_M_product_8 (by decide) (fun c1 => ?_) (fun c1 => ?_)
      · exact absurd c1 (nI_pos (by omega))
      · refine lv_iload_n hx hb d_M_product_11 rfl (lv_at hl 3 rfl) ?_
        refine lv_iconst (v := 1) hx hb d_M_product_12 (by decide) ?_
        refine lv_ishl hx hb d_M_product_13 ?_
        refine lv_istore_n (lv' := [(3, .int (x3 <<< (1 &&& 31))), (0, .ref (bd 0)), (1, .int x), (2, .int y), (4, .int (nI r))]) hx hb d_M_product_14 rfl hl (by decide) rfl (fun ls hl => ?_)
        refine lv_iload_n hx hb d_M_product_15 rfl (lv_at hl 0 rfl) ?_
        refine lv_sipush (v := 255) hx hb d_M_product_16 (by decide) ?_
        refine lv_icmp_le (tgt := 28) hx hb d_M_product_19 (by decide) (fun c2 => ?_) (fun c2 => ?_)
        · refine lv_iload_n hx hb d_M_product_28 rfl (lv_at hl 3 rfl) ?_
          refine lv_iload hx hb d_M_product_29 (lv_at hl 4 rfl) ?_
          refine lv_ishr hx hb d_M_product_31 ?_
          refine lv_iconst (v := 1) hx hb d_M_product_32 (by decide) ?_
          refine lv_iand hx hb d_M_product_33 ?_
          refine lv_if_eq (tgt := 41) hx hb d_M_product_34 (by decide) (fun c3 => ?_) (fun c3 => ?_)
          · refine lv_iinc (v := dnI r) (lv' := [(4, .int (dnI r)), (3, .int (x3 <<< (1 &&& 31))), (0, .ref (bd 0)), (1, .int x), (2, .int y)]) hx hb d_M_product_41 hl (k := 4) rfl (dnI_dec r) (by decide) rfl (fun ls hl => ?_)
            refine lv_goto (tgt := 6) hx hb d_M_product_44 (by decide) ?_
            exact ih _ (by omega) (by rw [he, prG, stp, if_pos c3, if_pos c2]) ls (lv_sub hl [2, 3, 4, 1, 0] rfl)
          · refine lv_iload_n hx hb d_M_product_37 rfl (lv_at hl 0 rfl) ?_
            refine lv_iload_n hx hb d_M_product_38 rfl (lv_at hl 2 rfl) ?_
            refine lv_ixor hx hb d_M_product_39 ?_
            refine lv_istore_n (lv' := [(3, .int ((x3 <<< (1 &&& 31)) ^^^ x)), (0, .ref (bd 0)), (1, .int x), (2, .int y), (4, .int (nI r))]) hx hb d_M_product_40 rfl hl (by decide) rfl (fun ls hl => ?_)
            refine lv_iinc (v := dnI r) (lv' := [(4, .int (dnI r)), (3, .int ((x3 <<< (1 &&& 31)) ^^^ x)), (0, .ref (bd 0)), (1, .int x), (2, .int y)]) hx hb d_M_product_41 hl (k := 4) rfl (dnI_dec r) (by decide) rfl (fun ls hl => ?_)
            refine lv_goto (tgt := 6) hx hb d_M_product_44 (by decide) ?_
            exact ih _ (by omega) (by rw [he, prG, stp, if_neg c3, if_pos c2]) ls (lv_sub hl [2, 3, 4, 1, 0] rfl)
        · refine lv_iload_n hx hb d_M_product_22 rfl (lv_at hl 0 rfl) ?_
          refine lv_sipush (v := 285) hx hb d_M_product_23 (by decide) ?_
          refine lv_ixor hx hb d_M_product_26 ?_
          refine lv_istore_n (lv' := [(3, .int ((x3 <<< (1 &&& 31)) ^^^ 285)), (0, .ref (bd 0)), (1, .int x), (2, .int y), (4, .int (nI r))]) hx hb d_M_product_27 rfl hl (by decide) rfl (fun ls hl => ?_)
          refine lv_iload_n hx hb d_M_product_28 rfl (lv_at hl 3 rfl) ?_
          refine lv_iload hx hb d_M_product_29 (lv_at hl 4 rfl) ?_
          refine lv_ishr hx hb d_M_product_31 ?_
          refine lv_iconst (v := 1) hx hb d_M_product_32 (by decide) ?_
          refine lv_iand hx hb d_M_product_33 ?_
          refine lv_if_eq (tgt := 41) hx hb d_M_product_34 (by decide) (fun c3 => ?_) (fun c3 => ?_)
          · refine lv_iinc (v := dnI r) (lv' := [(4, .int (dnI r)), (3, .int ((x3 <<< (1 &&& 31)) ^^^ 285)), (0, .ref (bd 0)), (1, .int x), (2, .int y)]) hx hb d_M_product_41 hl (k := 4) rfl (dnI_dec r) (by decide) rfl (fun ls hl => ?_)
            refine lv_goto (tgt := 6) hx hb d_M_product_44 (by decide) ?_
            exact ih _ (by omega) (by rw [he, prG, stp, if_pos c3, if_neg c2]) ls (lv_sub hl [2, 3, 4, 1, 0] rfl)
          · refine lv_iload_n hx hb d_M_product_37 rfl (lv_at hl 0 rfl) ?_
            refine lv_iload_n hx hb d_M_product_38 rfl (lv_at hl 2 rfl) ?_
            refine lv_ixor hx hb d_M_product_39 ?_
            refine lv_istore_n (lv' := [(3, .int (((x3 <<< (1 &&& 31)) ^^^ 285) ^^^ x)), (0, .ref (bd 0)), (1, .int x), (2, .int y), (4, .int (nI r))]) hx hb d_M_product_40 rfl hl (by decide) rfl (fun ls hl => ?_)
            refine lv_iinc (v := dnI r) (lv' := [(4, .int (dnI r)), (3, .int (((x3 <<< (1 &&& 31)) ^^^ 285) ^^^ x)), (0, .ref (bd 0)), (1, .int x), (2, .int y)]) hx hb d_M_product_41 hl (k := 4) rfl (dnI_dec r) (by decide) rfl (fun ls hl => ?_)
            refine lv_goto (tgt := 6) hx hb d_M_product_44 (by decide) ?_
            exact ih _ (by omega) (by rw [he, prG, stp, if_neg c3, if_neg c2]) ls (lv_sub hl [2, 3, 4, 1, 0] rfl)
  exact loop 8 _ (by omega) rfl ls (lv_sub hl [2, 3, 4, 1, 0] rfl)
set_option maxHeartbeats 4000000 in
set_option maxRecDepth 100000 in
theorem c_M_scaled (l : Launch) (D : va_G) (T : Nat → ClassId) (A : Nat → Prop) (M : xM) (bd : Nat → Nat) (K N : Nat) (q : Nat → Nat → Int32) (hz : zB K N) (hM : mG T bd K N q M) (x y : Int32) : Met l y_M_scaled (Cond.code y_M_scaled b_M_scaled 5 (some .int) :: gw) (rmH 1) (xPc D T A M [.ref (bd 0), .int x, .int y]) (xR (fun r => r = some (.int (smF x y)))) 0 0 (fun _ => False) := by
  refine xMetRi (by decide) (Nat.le_of_ble_eq_true rfl) ?_
  intro p e s m below meth c Q ls hB hP hl hret
  obtain ⟨hx, hb, hml, hown, hg, hK0, hnm⟩ := hB
  have hown : s.vm.findClass "ShareGridModel" = some m.cls := hown
  have hK := hK0.1
  have hN := hK0.2.1
  obtain ⟨hz1, hz4, hzn, hz7⟩ := id hz
  have hl : lv_has ls 5 [(0, .ref (bd 0)), (1, .int x), (2, .int y)] := hl
  refine lv_iconst (v := 0) hx hb d_M_scaled_0 (by decide) ?_
  refine lv_istore_n (lv' := [(3, .int 0), (0, .ref (bd 0)), (1, .int x), (2, .int y)]) hx hb d_M_scaled_1 rfl hl (by decide) rfl (fun ls hl => ?_)
  refine lv_iconst (v := nI 0) hx hb d_M_scaled_2 (by decide) ?_
  refine lv_istore (lv' := [(4, .int (nI 0)), (3, .int 0), (0, .ref (bd 0)), (1, .int x), (2, .int y)]) hx hb d_M_scaled_3 hl (by decide) rfl (fun ls hl => ?_)
  have loop : ∀ (n : Nat) (i : Nat), 5 ≤ i + n → i ≤ 4 → ∀ (ls : Array Slot), lv_has ls 5 [(0, .ref (bd 0)), (1, .int x), (2, .int y), (3, .int (smS x y i)), (4, .int (nI i))] → W p l e (rmH 1) s m [.ref (bd 0), .int x, .int y].toArray below meth c s.heap [] 0 0 Q (F0 m 5 ls []) := by
    intro n
    induction n with
    | zero =>
      intro i h2 h1
      exact absurd h2 (by omega)
    | succ n ih =>
      intro i h2 h1 ls hl
      refine lv_iload hx hb d_M_scaled_5 (lv_at hl 4 rfl) ?_
      refine lv_iconst (v := nI 4) hx hb d_M_scaled_7 (by decide) ?_
      refine x_nc_ge (tgt := 42) hx hb d_M_scaled_8 (by decide) (by omega) (by omega) (fun c1 => ?_) (fun c1 => ?_)
      · have hi4 : i = 4 := by omega
        subst hi4
        refine lv_iload_n hx hb d_M_scaled_42 rfl (lv_at hl 3 rfl) ?_
        exact hret _ _ _ d_M_scaled_43 rfl
      · refine lv_iload_n hx hb d_M_scaled_11 rfl (lv_at hl 3 rfl) ?_
        refine lv_aload_n hx hb d_M_scaled_12 rfl (lv_at hl 0 rfl) ?_
        refine lv_iload_n hx hb d_M_scaled_13 rfl (lv_at hl 1 rfl) ?_
        refine lv_bipush (v := nI 8) hx hb d_M_scaled_14 (by decide) ?_
        refine lv_iload hx hb d_M_scaled_16 (lv_at hl 4 rfl) ?_
        refine lv_imul hx hb d_M_scaled_18 ?_
        refine x_top (y := nI (8 * i)) (pk_mul _ _) ?_
        refine lv_iushr (v := ushF x (nI (8 * i))) hx hb d_M_scaled_19 rfl ?_
        refine lv_sipush (v := 255) hx hb d_M_scaled_20 (by decide) ?_
        refine lv_iand hx hb d_M_scaled_23 ?_
        refine lv_iload_n hx hb d_M_scaled_24 rfl (lv_at hl 2 rfl) ?_
        refine xv_R (n := 2) (As := [.int ((ushF x (nI (8 * i))) &&& 255), .int y]) (rest := [.int (smS x y i)]) hx hb hml hown hg hK0 hP (c_M_product l D T A _ bd K N q hz hM ((ushF x (nI (8 * i))) &&& 255) y) w_448 w_6 w_445 w_447 s_25 (ma_0 hM) rfl rfl (by decide +kernel) ⟨Nat.le_of_ble_eq_true rfl, Nat.le_of_ble_eq_true rfl⟩ rfl hl.1 rfl (Nat.le_of_ble_eq_true rfl) ⟨Nat.zero_le _, Nat.zero_le _⟩ rfl rfl d_M_scaled_25 (fun r hr => ?_)
        subst hr
        refine x_fr (pc := 28) [.int (prF ((ushF x (nI (8 * i))) &&& 255) y), .int (smS x y i)] rfl rfl ?_
        refine lv_bipush (v := nI 8) hx hb d_M_scaled_28 (by decide) ?_
        refine lv_iload hx hb d_M_scaled_30 (lv_at hl 4 rfl) ?_
        refine lv_imul hx hb d_M_scaled_32 ?_
        refine x_top (y := nI (8 * i)) (pk_mul _ _) ?_
        refine lv_ishl hx hb d_M_scaled_33 ?_
        refine lv_ior hx hb d_M_scaled_34 ?_
        refine lv_istore_n (lv' := [(3, .int ((smS x y i) ||| ((prF ((ushF x (nI (8 * i))) &&& 255) y) <<< ((nI (8 * i)) &&& 31)))), (0, .ref (bd 0)), (1, .int x), (2, .int y), (4, .int (nI i))]) hx hb d_M_scaled_35 rfl hl (by decide) rfl (fun ls hl => ?_)
        refine lv_iinc (v := nI (i + 1)) (lv' := [(4, .int (nI (i + 1))), (3, .int ((smS x y i) ||| ((prF ((ushF x (nI (8 * i))) &&& 255) y) <<< ((nI (8 * i)) &&& 31)))), (0, .ref (bd 0)), (1, .int x), (2, .int y)]) hx hb d_M_scaled_36 hl (k := 4) rfl (nI_1 _) (by decide) rfl (fun ls hl => ?_)
        refine lv_goto (tgt := 5) hx hb d_M_scaled_39 (by decide) ?_
        exact ih (i + 1) (by omega) (by omega) ls (lv_sub hl [2, 3, 4, 1, 0] rfl)
  exact loop 5 0 (by omega) (by omega) ls (lv_sub hl [2, 3, 4, 1, 0] rfl)
set_option maxHeartbeats 4000000 in
set_option maxRecDepth 100000 in
theorem c_M_power (l : Launch) (D : va_G) (T : Nat → ClassId) (A : Nat → Prop) (M : xM) (bd : Nat → Nat) (K N : Nat) (q : Nat → Nat → Int32) (hz : zB K N) (hM : mG T bd K N q M) (x : Int32) (k : Nat) (hk : k ≤ 254) : Met l y_M_power (Cond.code y_M_power b_M_power 5 (some .int) :: gw) (rmH 1) (xPc D T A M [.ref (bd 0), .int x, .int (nI k)]) (xR (fun r => r = some (.int (pwF x k)))) 0 0 (fun _ => False) := by
  refine xMetRi (by decide) (Nat.le_of_ble_eq_true rfl) ?_
  intro p e s m below meth c Q ls hB hP hl hret
  obtain ⟨hx, hb, hml, hown, hg, hK0, hnm⟩ := hB
  have hown : s.vm.findClass "ShareGridModel" = some m.cls := hown
  have hK := hK0.1
  have hN := hK0.2.1
  obtain ⟨hz1, hz4, hzn, hz7⟩ := id hz
  have hl : lv_has ls 5 [(0, .ref (bd 0)), (1, .int x), (2, .int (nI k))] := hl
  refine lv_iconst (v := 1) hx hb d_M_power_0 (by decide) ?_
  refine lv_istore_n (lv' := [(3, .int 1), (0, .ref (bd 0)), (1, .int x), (2, .int (nI k))]) hx hb d_M_power_1 rfl hl (by decide) rfl (fun ls hl => ?_)
  refine lv_iconst (v := nI 0) hx hb d_M_power_2 (by decide) ?_
  refine lv_istore (lv' := [(4, .int (nI 0)), (3, .int 1), (0, .ref (bd 0)), (1, .int x), (2, .int (nI k))]) hx hb d_M_power_3 hl (by decide) rfl (fun ls hl => ?_)
  have loop : ∀ (n : Nat) (i : Nat), k + 1 ≤ i + n → i ≤ k → ∀ (ls : Array Slot), lv_has ls 5 [(0, .ref (bd 0)), (1, .int x), (2, .int (nI k)), (3, .int (pwF x i)), (4, .int (nI i))] → W p l e (rmH 1) s m [.ref (bd 0), .int x, .int (nI k)].toArray below meth c s.heap [] 0 0 Q (F0 m 5 ls []) := by
    intro n
    induction n with
    | zero =>
      intro i h2 h1
      exact absurd h2 (by omega)
    | succ n ih =>
      intro i h2 h1 ls hl
      refine lv_iload hx hb d_M_power_5 (lv_at hl 4 rfl) ?_
      refine lv_iload_n hx hb d_M_power_7 rfl (lv_at hl 2 rfl) ?_
      refine x_nc_ge (tgt := 24) hx hb d_M_power_8 (by decide) (by omega) (by omega) (fun c1 => ?_) (fun c1 => ?_)
      · have hi4 : i = k := by omega
        subst hi4
        refine lv_iload_n hx hb d_M_power_24 rfl (lv_at hl 3 rfl) ?_
        exact hret _ _ _ d_M_power_25 rfl
      · refine lv_aload_n hx hb d_M_power_11 rfl (lv_at hl 0 rfl) ?_
        refine lv_iload_n hx hb d_M_power_12 rfl (lv_at hl 3 rfl) ?_
        refine lv_iload_n hx hb d_M_power_13 rfl (lv_at hl 1 rfl) ?_
        refine xv_R (n := 2) (As := [.int (pwF x i), .int x]) (rest := []) hx hb hml hown hg hK0 hP (c_M_product l D T A _ bd K N q hz hM (pwF x i) x) w_448 w_6 w_445 w_447 s_25 (ma_0 hM) rfl rfl (by decide +kernel) ⟨Nat.le_of_ble_eq_true rfl, Nat.le_of_ble_eq_true rfl⟩ rfl hl.1 rfl (Nat.le_of_ble_eq_true rfl) ⟨Nat.zero_le _, Nat.zero_le _⟩ rfl rfl d_M_power_14 (fun r hr => ?_)
        subst hr
        refine x_fr (pc := 17) [.int (prF (pwF x i) x)] rfl rfl ?_
        refine lv_istore_n (lv' := [(3, .int (prF (pwF x i) x)), (0, .ref (bd 0)), (1, .int x), (2, .int (nI k)), (4, .int (nI i))]) hx hb d_M_power_17 rfl hl (by decide) rfl (fun ls hl => ?_)
        refine lv_iinc (v := nI (i + 1)) (lv' := [(4, .int (nI (i + 1))), (3, .int (prF (pwF x i) x)), (0, .ref (bd 0)), (1, .int x), (2, .int (nI k))]) hx hb d_M_power_18 hl (k := 4) rfl (nI_1 _) (by decide) rfl (fun ls hl => ?_)
        refine lv_goto (tgt := 5) hx hb d_M_power_21 (by decide) ?_
        exact ih (i + 1) (by omega) (by omega) ls (lv_sub hl [2, 3, 4, 1, 0] rfl)
  exact loop (k + 1) 0 (by omega) (by omega) ls (lv_sub hl [2, 3, 4, 1, 0] rfl)
set_option maxHeartbeats 4000000 in
set_option maxRecDepth 100000 in
theorem c_M_shareAt (l : Launch) (D : va_G) (T : Nat → ClassId) (A : Nat → Prop) (M : xM) (bd : Nat → Nat) (K N : Nat) (q : Nat → Nat → Int32) (hz : zB K N) (hM : mG T bd K N q M) (x : Int32) : Met l y_M_shareAt (Cond.code y_M_shareAt b_M_shareAt 4 (some .int) :: gw) (rmH 2) (xPc D T A M [.ref (bd 0), .int x]) (xR (fun r => r = some (.int (shM (q 11) (x + 1) K)))) 0 0 (fun _ => False) := by
  refine xMetRi (by decide) (Nat.le_of_ble_eq_true rfl) ?_
  intro p e s m below meth c Q ls hB hP hl hret
  obtain ⟨hx, hb, hml, hown, hg, hK0, hnm⟩ := hB
  have hown : s.vm.findClass "ShareGridModel" = some m.cls := hown
  have hK := hK0.1
  have hN := hK0.2.1
  obtain ⟨hz1, hz4, hzn, hz7⟩ := id hz
  have hl : lv_has ls 4 [(0, .ref (bd 0)), (1, .int x)] := hl
  refine lv_iconst (v := 0) hx hb d_M_shareAt_0 (by decide) ?_
  refine lv_istore_n (lv' := [(2, .int 0), (0, .ref (bd 0)), (1, .int x)]) hx hb d_M_shareAt_1 rfl hl (by decide) rfl (fun ls hl => ?_)
  refine lv_iconst (v := nI 0) hx hb d_M_shareAt_2 (by decide) ?_
  refine lv_istore_n (lv' := [(3, .int (nI 0)), (2, .int 0), (0, .ref (bd 0)), (1, .int x)]) hx hb d_M_shareAt_3 rfl hl (by decide) rfl (fun ls hl => ?_)
  have loop : ∀ (n : Nat) (i : Nat), K + 1 ≤ i + n → i ≤ K → ∀ (ls : Array Slot), lv_has ls 4 [(0, .ref (bd 0)), (1, .int x), (2, .int (shM (q 11) (x + 1) i)), (3, .int (nI i))] → W p l e (rmH 2) s m [.ref (bd 0), .int x].toArray below meth c s.heap [] 0 0 Q (F0 m 4 ls []) := by
    intro n
    induction n with
    | zero =>
      intro i h2 h1
      exact absurd h2 (by omega)
    | succ n ih =>
      intro i h2 h1 ls hl
      refine lv_iload_n hx hb d_M_shareAt_4 rfl (lv_at hl 3 rfl) ?_
      refine lv_aload_n hx hb d_M_shareAt_5 rfl (lv_at hl 0 rfl) ?_
      refine x_get (v := .int (nI K)) (C := R_M) (T := F_M) (N := 17) hx hb hg i_M hown hK hP (ma_0 hM) rfl 0 (by decide) (hg _ w_354) (fun _ h9 => h9) rfl d_M_shareAt_6 ?_
      refine x_nc_ge (tgt := 39) hx hb d_M_shareAt_9 (by decide) (by omega) (by omega) (fun c1 => ?_) (fun c1 => ?_)
      · have hi4 : i = K := by omega
        subst hi4
        refine lv_iload_n hx hb d_M_shareAt_39 rfl (lv_at hl 2 rfl) ?_
        exact hret _ _ _ d_M_shareAt_40 rfl
      · refine lv_iload_n hx hb d_M_shareAt_12 rfl (lv_at hl 2 rfl) ?_
        refine lv_aload_n hx hb d_M_shareAt_13 rfl (lv_at hl 0 rfl) ?_
        refine lv_aload_n hx hb d_M_shareAt_14 rfl (lv_at hl 0 rfl) ?_
        refine x_get (v := .ref (bd 11)) (C := R_M) (T := F_M) (N := 17) hx hb hg i_M hown hK hP (ma_0 hM) rfl 14 (by decide) (hg _ w_368) (fun _ h9 => h9) rfl d_M_shareAt_15 ?_
        refine lv_iload_n hx hb d_M_shareAt_18 rfl (lv_at hl 3 rfl) ?_
        refine x_iald (v := q 11 i) hx hb hK hP 0 (ma_11 hM) rfl (vp_in_nI (by omega) (by omega)) (by rw [nI_clamp (by omega)]) d_M_shareAt_19 ?_
        refine lv_aload_n hx hb d_M_shareAt_20 rfl (lv_at hl 0 rfl) ?_
        refine lv_iload_n hx hb d_M_shareAt_21 rfl (lv_at hl 1 rfl) ?_
        refine lv_iconst (v := 1) hx hb d_M_shareAt_22 (by decide) ?_
        refine lv_iadd hx hb d_M_shareAt_23 ?_
        refine lv_iload_n hx hb d_M_shareAt_24 rfl (lv_at hl 3 rfl) ?_
        refine xv_R (n := 2) (As := [.int (x + 1), .int (nI i)]) (rest := [.int (q 11 i), .ref (bd 0), .int (shM (q 11) (x + 1) i)]) hx hb hml hown hg hK0 hP (c_M_power l D T A _ bd K N q hz hM (x + 1) i (by omega)) w_444 w_6 w_441 w_443 s_24 (ma_0 hM) rfl rfl (by decide +kernel) ⟨Nat.le_of_ble_eq_true rfl, Nat.le_of_ble_eq_true rfl⟩ rfl hl.1 rfl (Nat.le_of_ble_eq_true rfl) ⟨Nat.zero_le _, Nat.zero_le _⟩ rfl rfl d_M_shareAt_25 (fun r hr => ?_)
        subst hr
        refine x_fr (pc := 28) [.int (pwF (x + 1) i), .int (q 11 i), .ref (bd 0), .int (shM (q 11) (x + 1) i)] rfl rfl ?_
        refine xv_R (n := 2) (As := [.int (q 11 i), .int (pwF (x + 1) i)]) (rest := [.int (shM (q 11) (x + 1) i)]) hx hb hml hown hg hK0 hP (c_M_scaled l D T A _ bd K N q hz hM (q 11 i) (pwF (x + 1) i)) w_452 w_6 w_449 w_451 s_26 (ma_0 hM) rfl rfl (by decide +kernel) ⟨Nat.le_of_ble_eq_true rfl, Nat.le_of_ble_eq_true rfl⟩ rfl hl.1 rfl (Nat.le_of_ble_eq_true rfl) ⟨Nat.zero_le _, Nat.zero_le _⟩ rfl rfl d_M_shareAt_28 (fun r hr => ?_)
        subst hr
        refine x_fr (pc := 31) [.int (smF (q 11 i) (pwF (x + 1) i)), .int (shM (q 11) (x + 1) i)] rfl rfl ?_
        refine lv_ixor hx hb d_M_shareAt_31 ?_
        refine lv_istore_n (lv' := [(2, .int ((shM (q 11) (x + 1) i) ^^^ (smF (q 11 i) (pwF (x + 1) i)))), (0, .ref (bd 0)), (1, .int x), (3, .int (nI i))]) hx hb d_M_shareAt_32 rfl hl (by decide) rfl (fun ls hl => ?_)
        refine lv_iinc (v := nI (i + 1)) (lv' := [(3, .int (nI (i + 1))), (2, .int ((shM (q 11) (x + 1) i) ^^^ (smF (q 11 i) (pwF (x + 1) i)))), (0, .ref (bd 0)), (1, .int x)]) hx hb d_M_shareAt_33 hl (k := 3) rfl (nI_1 _) (by decide) rfl (fun ls hl => ?_)
        refine lv_goto (tgt := 4) hx hb d_M_shareAt_36 (by decide) ?_
        exact ih (i + 1) (by omega) (by omega) ls (lv_sub hl [2, 3, 1, 0] rfl)
  exact loop (K + 1) 0 (by omega) (by omega) ls (lv_sub hl [2, 3, 1, 0] rfl)
set_option maxHeartbeats 4000000 in
set_option maxRecDepth 100000 in
theorem c_M_rootOf (l : Launch) (D : va_G) (T : Nat → ClassId) (A : Nat → Prop) (M : xM) (bd : Nat → Nat) (K N : Nat) (q : Nat → Nat → Int32) (hz : zB K N) (hM : mG T bd K N q M) (k : Nat) (hk : k < 84) (x : Int32) : Met l y_M_rootOf (Cond.code y_M_rootOf b_M_rootOf 5 (some .int) :: gw) (rmH 1) (xPc D T A M [.ref (bd 0), .int (nI k), .int x]) (xR (fun r => r = some (.int (rtF (fun j => q 7 (k * 10 + 3 + j)) N x)))) 0 0 (fun _ => False) := by
  refine xMetRi (by decide) (Nat.le_of_ble_eq_true rfl) ?_
  intro p e s m below meth c Q ls hB hP hl hret
  obtain ⟨hx, hb, hml, hown, hg, hK0, hnm⟩ := hB
  have hown : s.vm.findClass "ShareGridModel" = some m.cls := hown
  have hK := hK0.1
  have hN := hK0.2.1
  obtain ⟨hz1, hz4, hzn, hz7⟩ := id hz
  have hl : lv_has ls 5 [(0, .ref (bd 0)), (1, .int (nI k)), (2, .int x)] := hl
  refine lv_bipush (v := 7) hx hb d_M_rootOf_0 (by decide) ?_
  refine lv_istore_n (lv' := [(3, .int 7), (0, .ref (bd 0)), (1, .int (nI k)), (2, .int x)]) hx hb d_M_rootOf_2 rfl hl (by decide) rfl (fun ls hl => ?_)
  refine lv_iconst (v := nI 0) hx hb d_M_rootOf_3 (by decide) ?_
  refine lv_istore (lv' := [(4, .int (nI 0)), (3, .int 7), (0, .ref (bd 0)), (1, .int (nI k)), (2, .int x)]) hx hb d_M_rootOf_4 hl (by decide) rfl (fun ls hl => ?_)
  have loop : ∀ (n : Nat) (i : Nat), N + 1 ≤ i + n → i ≤ N → ∀ (ls : Array Slot), lv_has ls 5 [(0, .ref (bd 0)), (1, .int (nI k)), (2, .int x), (3, .int (rtI (fun j => q 7 (k * 10 + 3 + j)) i)), (4, .int (nI i))] → W p l e (rmH 1) s m [.ref (bd 0), .int (nI k), .int x].toArray below meth c s.heap [] 0 0 Q (F0 m 6 ls []) := by
    intro n
    induction n with
    | zero =>
      intro i h2 h1
      exact absurd h2 (by omega)
    | succ n ih =>
      intro i h2 h1 ls hl
      refine lv_iload hx hb d_M_rootOf_6 (lv_at hl 4 rfl) ?_
      refine lv_aload_n hx hb d_M_rootOf_8 rfl (lv_at hl 0 rfl) ?_
      refine x_get (v := .int (nI N)) (C := R_M) (T := F_M) (N := 17) hx hb hg i_M hown hK hP (ma_0 hM) rfl 1 (by decide) (hg _ w_355) (fun _ h9 => h9) rfl d_M_rootOf_9 ?_
      refine x_nc_ge (tgt := 41) hx hb d_M_rootOf_12 (by decide) (by omega) (by omega) (fun c1 => ?_) (fun c1 => ?_)
      · have hi4 : i = N := by omega
        rw [hi4] at hl
        refine lv_aload_n hx hb d_M_rootOf_41 rfl (lv_at hl 0 rfl) ?_
        refine lv_iload_n hx hb d_M_rootOf_42 rfl (lv_at hl 3 rfl) ?_
        refine lv_iload_n hx hb d_M_rootOf_43 rfl (lv_at hl 2 rfl) ?_
        refine xv_R (n := 2) (As := [.int (rtI (fun j => q 7 (k * 10 + 3 + j)) N), .int x]) (rest := []) hx hb hml hown hg hK0 hP (c_M_mix l D T A _ bd K N q hz hM (rtI (fun j => q 7 (k * 10 + 3 + j)) N) x) w_413 w_6 w_410 w_412 s_20 (ma_0 hM) rfl rfl (by decide +kernel) ⟨Nat.le_of_ble_eq_true rfl, Nat.le_of_ble_eq_true rfl⟩ rfl hl.1 rfl (Nat.le_of_ble_eq_true rfl) ⟨Nat.zero_le _, Nat.zero_le _⟩ rfl rfl d_M_rootOf_44 (fun r hr => ?_)
        subst hr
        refine x_fr (pc := 47) [.int (mixF (rtI (fun j => q 7 (k * 10 + 3 + j)) N) x)] rfl rfl ?_
        exact hret _ _ _ d_M_rootOf_47 rfl
      · refine lv_aload_n hx hb d_M_rootOf_15 rfl (lv_at hl 0 rfl) ?_
        refine lv_iload_n hx hb d_M_rootOf_16 rfl (lv_at hl 3 rfl) ?_
        refine lv_aload_n hx hb d_M_rootOf_17 rfl (lv_at hl 0 rfl) ?_
        refine x_get (v := .ref (bd 7)) (C := R_M) (T := F_M) (N := 17) hx hb hg i_M hown hK hP (ma_0 hM) rfl 9 (by decide) (hg _ w_363) (fun _ h9 => h9) rfl d_M_rootOf_18 ?_
        refine lv_iload_n hx hb d_M_rootOf_21 rfl (lv_at hl 1 rfl) ?_
        refine lv_bipush (v := nI 10) hx hb d_M_rootOf_22 (by decide) ?_
        refine lv_imul hx hb d_M_rootOf_24 ?_
        refine x_top (y := nI (k * 10)) (pk_mul _ _) ?_
        refine lv_iconst (v := nI 3) hx hb d_M_rootOf_25 (by decide) ?_
        refine lv_iadd hx hb d_M_rootOf_26 ?_
        refine x_top (y := nI ((k * 10) + 3)) (nI_add _ _) ?_
        refine lv_iload hx hb d_M_rootOf_27 (lv_at hl 4 rfl) ?_
        refine lv_iadd hx hb d_M_rootOf_29 ?_
        refine x_top (y := nI (((k * 10) + 3) + i)) (nI_add _ _) ?_
        refine x_iald (v := q 7 (((k * 10) + 3) + i)) hx hb hK hP 0 (ma_7 hM) rfl (vp_in_nI (by omega) (by omega)) (by rw [nI_clamp (by omega)]) d_M_rootOf_30 ?_
        refine xv_R (n := 2) (As := [.int (rtI (fun j => q 7 (k * 10 + 3 + j)) i), .int (q 7 (((k * 10) + 3) + i))]) (rest := []) hx hb hml hown hg hK0 hP (c_M_mix l D T A _ bd K N q hz hM (rtI (fun j => q 7 (k * 10 + 3 + j)) i) (q 7 (((k * 10) + 3) + i))) w_413 w_6 w_410 w_412 s_20 (ma_0 hM) rfl rfl (by decide +kernel) ⟨Nat.le_of_ble_eq_true rfl, Nat.le_of_ble_eq_true rfl⟩ rfl hl.1 rfl (Nat.le_of_ble_eq_true rfl) ⟨Nat.zero_le _, Nat.zero_le _⟩ rfl rfl d_M_rootOf_31 (fun r hr => ?_)
        subst hr
        refine x_fr (pc := 34) [.int (mixF (rtI (fun j => q 7 (k * 10 + 3 + j)) i) (q 7 (((k * 10) + 3) + i)))] rfl rfl ?_
        refine lv_istore_n (lv' := [(3, .int (mixF (rtI (fun j => q 7 (k * 10 + 3 + j)) i) (q 7 (((k * 10) + 3) + i)))), (0, .ref (bd 0)), (1, .int (nI k)), (2, .int x), (4, .int (nI i))]) hx hb d_M_rootOf_34 rfl hl (by decide) rfl (fun ls hl => ?_)
        refine lv_iinc (v := nI (i + 1)) (lv' := [(4, .int (nI (i + 1))), (3, .int (mixF (rtI (fun j => q 7 (k * 10 + 3 + j)) i) (q 7 (((k * 10) + 3) + i)))), (0, .ref (bd 0)), (1, .int (nI k)), (2, .int x)]) hx hb d_M_rootOf_35 hl (k := 4) rfl (nI_1 _) (by decide) rfl (fun ls hl => ?_)
        refine lv_goto (tgt := 6) hx hb d_M_rootOf_38 (by decide) ?_
        exact ih (i + 1) (by omega) (by omega) ls (lv_sub hl [2, 3, 4, 1, 0] rfl)
  exact loop (N + 1) 0 (by omega) (by omega) ls (lv_sub hl [2, 3, 4, 1, 0] rfl)
set_option maxHeartbeats 4000000 in
set_option maxRecDepth 100000 in
theorem c_M_upCount (l : Launch) (D : va_G) (T : Nat → ClassId) (A : Nat → Prop) (M : xM) (bd : Nat → Nat) (K N : Nat) (q : Nat → Nat → Int32) (hz : zB K N) (hM : mG T bd K N q M) (g : gT) (hs : sM K N g q) (c0 : Nat) (w : Nat → Nat) (hI : iG N g c0 w) : Met l y_M_upCount (Cond.code y_M_upCount b_M_upCount 3 (some .int) :: gw) (rmH 0) (xPc D T A M [.ref (bd 0)]) (xR (fun r => r = some (.int (nI (cuF (g 1 0 0) N))))) 0 0 (fun _ => False) := by
  refine xMetRi (by decide) (Nat.le_of_ble_eq_true rfl) ?_
  intro p e s m below meth c Q ls hB hP hl hret
  obtain ⟨hx, hb, hml, hown, hg, hK0, hnm⟩ := hB
  have hown : s.vm.findClass "ShareGridModel" = some m.cls := hown
  have hK := hK0.1
  have hN := hK0.2.1
  obtain ⟨hz1, hz4, hzn, hz7⟩ := id hz
  obtain ⟨hq, hq6, hwr, hbo⟩ := id hI
  have hl : lv_has ls 3 [(0, .ref (bd 0))] := hl
  refine lv_iconst (v := nI 0) hx hb d_M_upCount_0 (by decide) ?_
  refine lv_istore_n (lv' := [(1, .int (nI 0)), (0, .ref (bd 0))]) hx hb d_M_upCount_1 rfl hl (by decide) rfl (fun ls hl => ?_)
  refine lv_iconst (v := nI 0) hx hb d_M_upCount_2 (by decide) ?_
  refine lv_istore_n (lv' := [(2, .int (nI 0)), (1, .int (nI 0)), (0, .ref (bd 0))]) hx hb d_M_upCount_3 rfl hl (by decide) rfl (fun ls hl => ?_)
  have loop : ∀ (n : Nat) (i : Nat), N + 1 ≤ i + n → i ≤ N → ∀ (ls : Array Slot), lv_has ls 3 [(0, .ref (bd 0)), (1, .int (nI (cuF (g 1 0 0) i))), (2, .int (nI i))] → W p l e (rmH 0) s m [.ref (bd 0)].toArray below meth c s.heap [] 0 0 Q (F0 m 4 ls []) := by
    intro n
    induction n with
    | zero =>
      intro i h2 h1
      exact absurd h2 (by omega)
    | succ n ih =>
      intro i h2 h1 ls hl
      refine lv_iload_n hx hb d_M_upCount_4 rfl (lv_at hl 2 rfl) ?_
      refine lv_aload_n hx hb d_M_upCount_5 rfl (lv_at hl 0 rfl) ?_
      refine x_get (v := .int (nI N)) (C := R_M) (T := F_M) (N := 17) hx hb hg i_M hown hK hP (ma_0 hM) rfl 1 (by decide) (hg _ w_355) (fun _ h9 => h9) rfl d_M_upCount_6 ?_
      refine x_nc_ge (tgt := 30) hx hb d_M_upCount_9 (by decide) (by omega) (by omega) (fun c1 => ?_) (fun c1 => ?_)
      · have hiN : i = N := by omega
        subst hiN
        refine lv_iload_n hx hb d_M_upCount_30 rfl (lv_at hl 1 rfl) ?_
        exact hret _ _ _ d_M_upCount_31 rfl
      · refine lv_aload_n hx hb d_M_upCount_12 rfl (lv_at hl 0 rfl) ?_
        refine x_get (v := .ref (bd 1)) (C := R_M) (T := F_M) (N := 17) hx hb hg i_M hown hK hP (ma_0 hM) rfl 2 (by decide) (hg _ w_356) (fun _ h9 => h9) rfl d_M_upCount_13 ?_
        refine lv_iload_n hx hb d_M_upCount_16 rfl (lv_at hl 2 rfl) ?_
        refine x_zald (v := q 1 i) hx hb hK hP 1 (ma_1 hM) rfl (vp_in_nI (by omega) (by omega)) (by rw [nI_clamp (by omega)]) d_M_upCount_17 ?_
        refine x_top (y := (g 1 0 0 i)) (hs.up (by omega)) ?_
        refine lv_if_eq (tgt := 24) hx hb d_M_upCount_18 (by decide) (fun c2 => ?_) (fun c2 => ?_)
        · have ecu : cuF (g 1 0 0) (i + 1) = cuF (g 1 0 0) i := cuF_z c2
          refine lv_iinc (v := nI (i + 1)) (lv' := [(2, .int (nI (i + 1))), (0, .ref (bd 0)), (1, .int (nI (cuF (g 1 0 0) i)))]) hx hb d_M_upCount_24 hl (k := 2) rfl (nI_1 _) (by decide) rfl (fun ls hl => ?_)
          refine lv_goto (tgt := 4) hx hb d_M_upCount_27 (by decide) ?_
          exact ih (i + 1) (by omega) (by omega) ls (by rw [ecu]; exact (lv_sub hl [1, 2, 0] rfl))
        · have ecu : cuF (g 1 0 0) (i + 1) = cuF (g 1 0 0) i + 1 := cuF_s c2
          refine lv_iinc (v := nI ((cuF (g 1 0 0) i) + 1)) (lv' := [(1, .int (nI ((cuF (g 1 0 0) i) + 1))), (0, .ref (bd 0)), (2, .int (nI i))]) hx hb d_M_upCount_21 hl (k := 1) rfl (nI_1 _) (by decide) rfl (fun ls hl => ?_)
          refine lv_iinc (v := nI (i + 1)) (lv' := [(2, .int (nI (i + 1))), (1, .int (nI ((cuF (g 1 0 0) i) + 1))), (0, .ref (bd 0))]) hx hb d_M_upCount_24 hl (k := 2) rfl (nI_1 _) (by decide) rfl (fun ls hl => ?_)
          refine lv_goto (tgt := 4) hx hb d_M_upCount_27 (by decide) ?_
          exact ih (i + 1) (by omega) (by omega) ls (by rw [ecu]; exact (lv_sub hl [2, 1, 0] rfl))
  exact loop (N + 1) 0 (by omega) (by omega) ls (lv_sub hl [2, 1, 0] rfl)
set_option maxHeartbeats 4000000 in
set_option maxRecDepth 100000 in
theorem c_M_fileOf (l : Launch) (D : va_G) (T : Nat → ClassId) (A : Nat → Prop) (M : xM) (bd : Nat → Nat) (K N : Nat) (q : Nat → Nat → Int32) (hz : zB K N) (hM : mG T bd K N q M) (g : gT) (hs : sM K N g q) (c0 : Nat) (w : Nat → Nat) (hI : iG N g c0 w) (x : Int32) : Met l y_M_fileOf (Cond.code y_M_fileOf b_M_fileOf 3 (some .int) :: gw) (rmH 0) (xPc D T A M [.ref (bd 0), .int x]) (xR (fun r => r = some (.int (fuF g c0 x)))) 0 0 (fun _ => False) := by
  refine xMetRi (by decide) (Nat.le_of_ble_eq_true rfl) ?_
  intro p e s m below meth c Q ls hB hP hl hret
  obtain ⟨hx, hb, hml, hown, hg, hK0, hnm⟩ := hB
  have hown : s.vm.findClass "ShareGridModel" = some m.cls := hown
  have hK := hK0.1
  have hN := hK0.2.1
  obtain ⟨hz1, hz4, hzn, hz7⟩ := id hz
  obtain ⟨hq, hq6, hwr, hbo⟩ := id hI
  have hl : lv_has ls 3 [(0, .ref (bd 0)), (1, .int x)] := hl
  refine lv_iconst (v := nI 0) hx hb d_M_fileOf_0 (by decide) ?_
  refine lv_istore_n (lv' := [(2, .int (nI 0)), (0, .ref (bd 0)), (1, .int x)]) hx hb d_M_fileOf_1 rfl hl (by decide) rfl (fun ls hl => ?_)
  have loop : ∀ (n : Nat) (i : Nat), c0 + 1 ≤ i + n → i ≤ c0 → fuF g c0 x = fdF (fun f => g 12 f 0 0) x i (c0 - i) → ∀ (ls : Array Slot), lv_has ls 3 [(0, .ref (bd 0)), (1, .int x), (2, .int (nI i))] → W p l e (rmH 0) s m [.ref (bd 0), .int x].toArray below meth c s.heap [] 0 0 Q (F0 m 2 ls []) := by
    intro n
    induction n with
    | zero =>
      intro i h2 h1 h3
      exact absurd h2 (by omega)
    | succ n ih =>
      intro i h2 h1 h3 ls hl
      refine lv_iload_n hx hb d_M_fileOf_2 rfl (lv_at hl 2 rfl) ?_
      refine lv_aload_n hx hb d_M_fileOf_3 rfl (lv_at hl 0 rfl) ?_
      refine x_get (v := .int (q 0 0)) (C := R_M) (T := F_M) (N := 17) hx hb hg i_M hown hK hP (ma_0 hM) rfl 6 (by decide) (hg _ w_360) (fun _ h9 => h9) rfl d_M_fileOf_4 ?_
      refine x_top (y := nI c0) (hs.n.trans hq) ?_
      refine x_nc_ge (tgt := 28) hx hb d_M_fileOf_7 (by decide) (by omega) (by omega) (fun c1 => ?_) (fun c1 => ?_)
      · have hiN : i = c0 := by omega
        subst hiN
        refine lv_iconst (v := (-1)) hx hb d_M_fileOf_28 (by decide) ?_
        exact hret _ _ _ d_M_fileOf_29 (by rw [h3, Nat.sub_self]; rfl)
      · have hqi : c0 - i = (c0 - (i + 1)) + 1 := by omega
        refine lv_aload_n hx hb d_M_fileOf_10 rfl (lv_at hl 0 rfl) ?_
        refine x_get (v := .ref (bd 3)) (C := R_M) (T := F_M) (N := 17) hx hb hg i_M hown hK hP (ma_0 hM) rfl 4 (by decide) (hg _ w_358) (fun _ h9 => h9) rfl d_M_fileOf_11 ?_
        refine lv_iload_n hx hb d_M_fileOf_14 rfl (lv_at hl 2 rfl) ?_
        refine x_iald (v := q 3 i) hx hb hK hP 0 (ma_3 hM) rfl (vp_in_nI (by omega) (by omega)) (by rw [nI_clamp (by omega)]) d_M_fileOf_15 ?_
        refine x_top (y := (g 12 i 0 0)) (hs.vk (by omega)) ?_
        refine lv_iload_n hx hb d_M_fileOf_16 rfl (lv_at hl 1 rfl) ?_
        refine lv_icmp_ne (tgt := 22) hx hb d_M_fileOf_17 (by decide) (fun c2 => ?_) (fun c2 => ?_)
        · refine lv_iinc (v := nI (i + 1)) (lv' := [(2, .int (nI (i + 1))), (0, .ref (bd 0)), (1, .int x)]) hx hb d_M_fileOf_22 hl (k := 2) rfl (nI_1 _) (by decide) rfl (fun ls hl => ?_)
          refine lv_goto (tgt := 2) hx hb d_M_fileOf_25 (by decide) ?_
          exact ih (i + 1) (by omega) (by omega) (by rw [h3, hqi, fdF, if_neg c2]) ls (lv_sub hl [1, 2, 0] rfl)
        · refine lv_iload_n hx hb d_M_fileOf_20 rfl (lv_at hl 2 rfl) ?_
          exact hret _ _ _ d_M_fileOf_21 (by rw [h3, hqi, fdF, if_pos c2])
  exact loop (c0 + 1) 0 (by omega) (by omega) rfl ls (lv_sub hl [1, 2, 0] rfl)
