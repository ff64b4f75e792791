/-! the numbers of the class: what its pure methods answer -/
def mixF (a b : Int32) : Int32 := ((a ^^^ (b * 40503 + 12345)) * 1640531527) ^^^ ushF ((a ^^^ (b * 40503 + 12345)) * 1640531527) 15
def txF (w : Int32) : Int32 := ((w &&& 2139062143) <<< ((1 : Int32) &&& 31)) ^^^ ((ushF w 7 &&& 16843009) * 29)
def bitF (k : Int32) (i : Nat) : Int32 := ushF k (nI i) &&& 1
def scP (w : Int32) : Nat → Int32
  | 0 => w
  | n + 1 => txF (scP w n)
def scS (w k : Int32) : Nat → Int32
  | 0 => 0
  | n + 1 => if bitF k n = 0 then scS w k n else scS w k n ^^^ scP w n
def scF (w k : Int32) : Int32 := scS w k 8
def ivS (x : Int32) : Nat → Int32
  | 0 => x
  | n + 1 => scF (ivS x n) (ivS x n)
def ivP (x : Int32) : Nat → Int32
  | 0 => 1
  | n + 1 => scF (ivP x n) (ivS x (n + 1))
def ivF (x : Int32) : Int32 := ivP x 7
def byF (a : Int32) : Int32 := if a < 0 then 0 else if 255 < a then 0 else 1
def clF (x a b : Int32) : Int32 := if a < (if b < x then b else x) then (if b < x then b else x) else a

set_option maxHeartbeats 4000000 in
set_option maxRecDepth 100000 in
theorem c_G_mix (l : Launch) (D : va_G) (T : Nat → ClassId) (A : Nat → Prop) (M : xM) (a b : Int32) : Met l y_G_mix (Cond.code y_G_mix b_G_mix 3 (some .int) :: gw) (rmH 0) (xPc D T A M [.int a, .int b]) (xR (fun r => r = some (.int (mixF a b)))) 0 0 (fun _ => False) := by
  refine xMetRi (by decide) (Nat.le_of_ble_eq_true rfl) ?_
  intro p e s m below meth c Q ls hB hP hl hret
  obtain ⟨hx, hb, hml, hown, hg, hK0, hnm⟩ := hB
  have hown : s.vm.findClass "ShareGrid" = some m.cls := hown
  have hK := hK0.1
  have hN := hK0.2.1
  have hl : lv_has ls 3 [(0, .int a), (1, .int b)] := hl
  refine lv_iload_n hx hb d_G_mix_0 rfl (lv_at hl 0 rfl) ?_
  refine lv_iload_n hx hb d_G_mix_1 rfl (lv_at hl 1 rfl) ?_
  refine lv_ldc (v := 40503) hx hb hown (hg _ w_157) d_G_mix_2 ?_
  refine lv_imul hx hb d_G_mix_4 ?_
  refine lv_sipush (v := 12345) hx hb d_G_mix_5 (by decide) ?_
  refine lv_iadd hx hb d_G_mix_8 ?_
  refine lv_ixor hx hb d_G_mix_9 ?_
  refine lv_ldc (v := 1640531527) hx hb hown (hg _ w_158) d_G_mix_10 ?_
  refine lv_imul hx hb d_G_mix_12 ?_
  refine lv_istore_n (lv' := [(2, .int ((a ^^^ ((b * 40503) + 12345)) * 1640531527)), (0, .int a), (1, .int b)]) hx hb d_G_mix_13 rfl hl (by decide) rfl (fun ls hl => ?_)
  refine lv_iload_n hx hb d_G_mix_14 rfl (lv_at hl 0 rfl) ?_
  refine lv_iload_n hx hb d_G_mix_15 rfl (lv_at hl 0 rfl) ?_
  refine lv_bipush (v := 15) hx hb d_G_mix_16 (by decide) ?_
  refine lv_iushr (v := ushF ((a ^^^ ((b * 40503) + 12345)) * 1640531527) 15) hx hb d_G_mix_18 rfl ?_
  refine lv_ixor hx hb d_G_mix_19 ?_
  exact hret _ _ _ d_G_mix_20 rfl
set_option maxHeartbeats 4000000 in
set_option maxRecDepth 100000 in
theorem c_G_readKeyOf (l : Launch) (D : va_G) (T : Nat → ClassId) (A : Nat → Prop) (M : xM) (a : Int32) : Met l y_G_readKeyOf (Cond.code y_G_readKeyOf b_G_readKeyOf 1 (some .int) :: gw) (rmH 1) (xPc D T A M [.int a]) (xR (fun r => r = some (.int (mixF a 1)))) 0 0 (fun _ => False) := by
  refine xMetRi (by decide) (Nat.le_of_ble_eq_true rfl) ?_
  intro p e s m below meth c Q ls hB hP hl hret
  obtain ⟨hx, hb, hml, hown, hg, hK0, hnm⟩ := hB
  have hown : s.vm.findClass "ShareGrid" = some m.cls := hown
  have hK := hK0.1
  have hN := hK0.2.1
  have hl : lv_has ls 1 [(0, .int a)] := hl
  refine lv_iload_n hx hb d_G_readKeyOf_0 rfl (lv_at hl 0 rfl) ?_
  refine lv_iconst (v := 1) hx hb d_G_readKeyOf_1 (by decide) ?_
  refine xs_R (n := 2) (As := [.int a, .int 1]) (rest := []) hx hb hml hown hg hK0 hP (c_G_mix l D T A M a 1) w_156 w_1 w_154 w_155 (by decide +kernel) ⟨Nat.le_of_ble_eq_true rfl, Nat.le_of_ble_eq_true rfl⟩ rfl hl.1 rfl (Nat.le_of_ble_eq_true rfl) ⟨Nat.zero_le _, Nat.zero_le _⟩ rfl rfl d_G_readKeyOf_2 (fun r hr => ?_)
  subst hr
  refine x_fr (pc := 5) [.int (mixF a 1)] rfl rfl ?_
  exact hret _ _ _ d_G_readKeyOf_5 rfl
set_option maxHeartbeats 4000000 in
set_option maxRecDepth 100000 in
theorem c_G_verifyKeyOf (l : Launch) (D : va_G) (T : Nat → ClassId) (A : Nat → Prop) (M : xM) (a : Int32) : Met l y_G_verifyKeyOf (Cond.code y_G_verifyKeyOf b_G_verifyKeyOf 1 (some .int) :: gw) (rmH 1) (xPc D T A M [.int a]) (xR (fun r => r = some (.int (mixF a 2)))) 0 0 (fun _ => False) := by
  refine xMetRi (by decide) (Nat.le_of_ble_eq_true rfl) ?_
  intro p e s m below meth c Q ls hB hP hl hret
  obtain ⟨hx, hb, hml, hown, hg, hK0, hnm⟩ := hB
  have hown : s.vm.findClass "ShareGrid" = some m.cls := hown
  have hK := hK0.1
  have hN := hK0.2.1
  have hl : lv_has ls 1 [(0, .int a)] := hl
  refine lv_iload_n hx hb d_G_verifyKeyOf_0 rfl (lv_at hl 0 rfl) ?_
  refine lv_iconst (v := 2) hx hb d_G_verifyKeyOf_1 (by decide) ?_
  refine xs_R (n := 2) (As := [.int a, .int 2]) (rest := []) hx hb hml hown hg hK0 hP (c_G_mix l D T A M a 2) w_156 w_1 w_154 w_155 (by decide +kernel) ⟨Nat.le_of_ble_eq_true rfl, Nat.le_of_ble_eq_true rfl⟩ rfl hl.1 rfl (Nat.le_of_ble_eq_true rfl) ⟨Nat.zero_le _, Nat.zero_le _⟩ rfl rfl d_G_verifyKeyOf_2 (fun r hr => ?_)
  subst hr
  refine x_fr (pc := 5) [.int (mixF a 2)] rfl rfl ?_
  exact hret _ _ _ d_G_verifyKeyOf_5 rfl
set_option maxHeartbeats 4000000 in
set_option maxRecDepth 100000 in
theorem c_G_cipherMask (l : Launch) (D : va_G) (T : Nat → ClassId) (A : Nat → Prop) (M : xM) (a b d : Int32) : Met l y_G_cipherMask (Cond.code y_G_cipherMask b_G_cipherMask 3 (some .int) :: gw) (rmH 1) (xPc D T A M [.int a, .int b, .int d]) (xR (fun r => r = some (.int (mixF a (b * 8 + d))))) 0 0 (fun _ => False) := by
  refine xMetRi (by decide) (Nat.le_of_ble_eq_true rfl) ?_
  intro p e s m below meth c Q ls hB hP hl hret
  obtain ⟨hx, hb, hml, hown, hg, hK0, hnm⟩ := hB
  have hown : s.vm.findClass "ShareGrid" = some m.cls := hown
  have hK := hK0.1
  have hN := hK0.2.1
  have hl : lv_has ls 3 [(0, .int a), (1, .int b), (2, .int d)] := hl
  refine lv_iload_n hx hb d_G_cipherMask_0 rfl (lv_at hl 0 rfl) ?_
  refine lv_iload_n hx hb d_G_cipherMask_1 rfl (lv_at hl 1 rfl) ?_
  refine lv_bipush (v := 8) hx hb d_G_cipherMask_2 (by decide) ?_
  refine lv_imul hx hb d_G_cipherMask_4 ?_
  refine lv_iload_n hx hb d_G_cipherMask_5 rfl (lv_at hl 2 rfl) ?_
  refine lv_iadd hx hb d_G_cipherMask_6 ?_
  refine xs_R (n := 2) (As := [.int a, .int ((b * 8) + d)]) (rest := []) hx hb hml hown hg hK0 hP (c_G_mix l D T A M a ((b * 8) + d)) w_156 w_1 w_154 w_155 (by decide +kernel) ⟨Nat.le_of_ble_eq_true rfl, Nat.le_of_ble_eq_true rfl⟩ rfl hl.1 rfl (Nat.le_of_ble_eq_true rfl) ⟨Nat.zero_le _, Nat.zero_le _⟩ rfl rfl d_G_cipherMask_7 (fun r hr => ?_)
  subst hr
  refine x_fr (pc := 10) [.int (mixF a ((b * 8) + d))] rfl rfl ?_
  exact hret _ _ _ d_G_cipherMask_10 rfl
set_option maxHeartbeats 4000000 in
set_option maxRecDepth 100000 in
theorem c_G_fingerprint (l : Launch) (D : va_G) (T : Nat → ClassId) (A : Nat → Prop) (M : xM) (a b : Int32) : Met l y_G_fingerprint (Cond.code y_G_fingerprint b_G_fingerprint 2 (some .int) :: gw) (rmH 1) (xPc D T A M [.int a, .int b]) (xR (fun r => r = some (.int (mixF a (b + 100))))) 0 0 (fun _ => False) := by
  refine xMetRi (by decide) (Nat.le_of_ble_eq_true rfl) ?_
  intro p e s m below meth c Q ls hB hP hl hret
  obtain ⟨hx, hb, hml, hown, hg, hK0, hnm⟩ := hB
  have hown : s.vm.findClass "ShareGrid" = some m.cls := hown
  have hK := hK0.1
  have hN := hK0.2.1
  have hl : lv_has ls 2 [(0, .int a), (1, .int b)] := hl
  refine lv_iload_n hx hb d_G_fingerprint_0 rfl (lv_at hl 0 rfl) ?_
  refine lv_iload_n hx hb d_G_fingerprint_1 rfl (lv_at hl 1 rfl) ?_
  refine lv_bipush (v := 100) hx hb d_G_fingerprint_2 (by decide) ?_
  refine lv_iadd hx hb d_G_fingerprint_4 ?_
  refine xs_R (n := 2) (As := [.int a, .int (b + 100)]) (rest := []) hx hb hml hown hg hK0 hP (c_G_mix l D T A M a (b + 100)) w_156 w_1 w_154 w_155 (by decide +kernel) ⟨Nat.le_of_ble_eq_true rfl, Nat.le_of_ble_eq_true rfl⟩ rfl hl.1 rfl (Nat.le_of_ble_eq_true rfl) ⟨Nat.zero_le _, Nat.zero_le _⟩ rfl rfl d_G_fingerprint_5 (fun r hr => ?_)
  subst hr
  refine x_fr (pc := 8) [.int (mixF a (b + 100))] rfl rfl ?_
  exact hret _ _ _ d_G_fingerprint_8 rfl
set_option maxHeartbeats 4000000 in
set_option maxRecDepth 100000 in
theorem c_G_pointOf (l : Launch) (D : va_G) (T : Nat → ClassId) (A : Nat → Prop) (M : xM) (a : Int32) : Met l y_G_pointOf (Cond.code y_G_pointOf b_G_pointOf 1 (some .int) :: gw) (rmH 0) (xPc D T A M [.int a]) (xR (fun r => r = some (.int (a + 1)))) 0 0 (fun _ => False) := by
  refine xMetRi (by decide) (Nat.le_of_ble_eq_true rfl) ?_
  intro p e s m below meth c Q ls hB hP hl hret
  obtain ⟨hx, hb, hml, hown, hg, hK0, hnm⟩ := hB
  have hown : s.vm.findClass "ShareGrid" = some m.cls := hown
  have hK := hK0.1
  have hN := hK0.2.1
  have hl : lv_has ls 1 [(0, .int a)] := hl
  refine lv_iload_n hx hb d_G_pointOf_0 rfl (lv_at hl 0 rfl) ?_
  refine lv_iconst (v := 1) hx hb d_G_pointOf_1 (by decide) ?_
  refine lv_iadd hx hb d_G_pointOf_2 ?_
  exact hret _ _ _ d_G_pointOf_3 rfl
set_option maxHeartbeats 4000000 in
set_option maxRecDepth 100000 in
theorem c_G_placeOf (l : Launch) (D : va_G) (T : Nat → ClassId) (A : Nat → Prop) (M : xM) (a : Int32) : Met l y_G_placeOf (Cond.code y_G_placeOf b_G_placeOf 1 (some .int) :: gw) (rmH 0) (xPc D T A M [.int a]) (xR (fun r => r = some (.int (a - 1)))) 0 0 (fun _ => False) := by
  refine xMetRi (by decide) (Nat.le_of_ble_eq_true rfl) ?_
  intro p e s m below meth c Q ls hB hP hl hret
  obtain ⟨hx, hb, hml, hown, hg, hK0, hnm⟩ := hB
  have hown : s.vm.findClass "ShareGrid" = some m.cls := hown
  have hK := hK0.1
  have hN := hK0.2.1
  have hl : lv_has ls 1 [(0, .int a)] := hl
  refine lv_iload_n hx hb d_G_placeOf_0 rfl (lv_at hl 0 rfl) ?_
  refine lv_iconst (v := 1) hx hb d_G_placeOf_1 (by decide) ?_
  refine lv_isub hx hb d_G_placeOf_2 ?_
  exact hret _ _ _ d_G_placeOf_3 rfl
set_option maxHeartbeats 4000000 in
set_option maxRecDepth 100000 in
theorem c_G_timesX (l : Launch) (D : va_G) (T : Nat → ClassId) (A : Nat → Prop) (M : xM) (a : Int32) : Met l y_G_timesX (Cond.code y_G_timesX b_G_timesX 2 (some .int) :: gw) (rmH 0) (xPc D T A M [.int a]) (xR (fun r => r = some (.int (txF a)))) 0 0 (fun _ => False) := by
  refine xMetRi (by decide) (Nat.le_of_ble_eq_true rfl) ?_
  intro p e s m below meth c Q ls hB hP hl hret
  obtain ⟨hx, hb, hml, hown, hg, hK0, hnm⟩ := hB
  have hown : s.vm.findClass "ShareGrid" = some m.cls := hown
  have hK := hK0.1
  have hN := hK0.2.1
  have hl : lv_has ls 2 [(0, .int a)] := hl
  refine lv_iload_n hx hb d_G_timesX_0 rfl (lv_at hl 0 rfl) ?_
  refine lv_bipush (v := 7) hx hb d_G_timesX_1 (by decide) ?_
  refine lv_iushr (v := ushF a 7) hx hb d_G_timesX_3 rfl ?_
  refine lv_ldc (v := 16843009) hx hb hown (hg _ w_206) d_G_timesX_4 ?_
  refine lv_iand hx hb d_G_timesX_6 ?_
  refine lv_istore_n (lv' := [(1, .int ((ushF a 7) &&& 16843009)), (0, .int a)]) hx hb d_G_timesX_7 rfl hl (by decide) rfl (fun ls hl => ?_)
  refine lv_iload_n hx hb d_G_timesX_8 rfl (lv_at hl 1 rfl) ?_
  refine lv_ldc (v := 2139062143) hx hb hown (hg _ w_207) d_G_timesX_9 ?_
  refine lv_iand hx hb d_G_timesX_11 ?_
  refine lv_iconst (v := 1) hx hb d_G_timesX_12 (by decide) ?_
  refine lv_ishl hx hb d_G_timesX_13 ?_
  refine lv_iload_n hx hb d_G_timesX_14 rfl (lv_at hl 0 rfl) ?_
  refine lv_bipush (v := 29) hx hb d_G_timesX_15 (by decide) ?_
  refine lv_imul hx hb d_G_timesX_17 ?_
  refine lv_ixor hx hb d_G_timesX_18 ?_
  exact hret _ _ _ d_G_timesX_19 rfl
set_option maxHeartbeats 4000000 in
set_option maxRecDepth 100000 in
theorem c_G_clamped (l : Launch) (D : va_G) (T : Nat → ClassId) (A : Nat → Prop) (M : xM) (a b d : Int32) : Met l y_G_clamped (Cond.code y_G_clamped b_G_clamped 3 (some .int) :: gw) (rmH 1) (xPc D T A M [.int a, .int b, .int d]) (xR (fun r => r = some (.int (clF a b d)))) 0 0 (fun _ => False) := by
  refine xMetRi (by decide) (Nat.le_of_ble_eq_true rfl) ?_
  intro p e s m below meth c Q ls hB hP hl hret
  obtain ⟨hx, hb, hml, hown, hg, hK0, hnm⟩ := hB
  have hown : s.vm.findClass "ShareGrid" = some m.cls := hown
  have hK := hK0.1
  have hN := hK0.2.1
  have hl : lv_has ls 3 [(0, .int a), (1, .int b), (2, .int d)] := hl
  refine lv_iload_n hx hb d_G_clamped_0 rfl (lv_at hl 1 rfl) ?_
  refine lv_iload_n hx hb d_G_clamped_1 rfl (lv_at hl 0 rfl) ?_
  refine lv_iload_n hx hb d_G_clamped_2 rfl (lv_at hl 2 rfl) ?_
  refine va_mmin hx hb (hml.trans hl.1.symm) hown (hg _ w_20) (hg _ w_21) (hg _ w_2) (hg _ w_22) (Nat.le_of_ble_eq_true rfl) (Nat.le_of_ble_eq_true rfl) (Nat.zero_le _) (Nat.zero_le _) d_G_clamped_3 ?_
  refine va_mmax hx hb (hml.trans hl.1.symm) hown (hg _ w_23) (hg _ w_24) (hg _ w_2) (hg _ w_25) (Nat.le_of_ble_eq_true rfl) (Nat.le_of_ble_eq_true rfl) (Nat.zero_le _) (Nat.zero_le _) d_G_clamped_6 ?_
  exact hret _ _ _ d_G_clamped_9 rfl
set_option maxHeartbeats 4000000 in
set_option maxRecDepth 100000 in
theorem c_G_isByte (l : Launch) (D : va_G) (T : Nat → ClassId) (A : Nat → Prop) (M : xM) (a : Int32) : Met l y_G_isByte (Cond.code y_G_isByte b_G_isByte 1 (some .boolean) :: gw) (rmH 0) (xPc D T A M [.int a]) (xR (fun r => r = some (.int (byF a)))) 0 0 (fun _ => False) := by
  refine xMetRz (by decide) (Nat.le_of_ble_eq_true rfl) ?_
  intro p e s m below meth c Q ls hB hP hl hret
  obtain ⟨hx, hb, hml, hown, hg, hK0, hnm⟩ := hB
  have hown : s.vm.findClass "ShareGrid" = some m.cls := hown
  have hK := hK0.1
  have hN := hK0.2.1
  have hl : lv_has ls 1 [(0, .int a)] := hl
  refine lv_iload_n hx hb d_G_isByte_0 rfl (lv_at hl 0 rfl) ?_
  refine lv_if_lt (tgt := 15) hx hb d_G_isByte_1 (by decide) (fun c_1 => ?_) (fun c_1 => ?_)
  · refine lv_iconst (v := 0) hx hb d_G_isByte_15 (by decide) ?_
    exact hret _ _ _ d_G_isByte_16 (by first | exact Or.inl rfl | exact Or.inr rfl) (by simp [byF, c_1])
  · refine lv_iload_n hx hb d_G_isByte_4 rfl (lv_at hl 0 rfl) ?_
    refine lv_sipush (v := 255) hx hb d_G_isByte_5 (by decide) ?_
    refine lv_icmp_gt (tgt := 15) hx hb d_G_isByte_8 (by decide) (fun c_8 => ?_) (fun c_8 => ?_)
    · refine lv_iconst (v := 0) hx hb d_G_isByte_15 (by decide) ?_
      exact hret _ _ _ d_G_isByte_16 (by first | exact Or.inl rfl | exact Or.inr rfl) (by simp [byF, c_1, c_8])
    · refine lv_iconst (v := 1) hx hb d_G_isByte_11 (by decide) ?_
      refine lv_goto (tgt := 16) hx hb d_G_isByte_12 (by decide) ?_
      exact hret _ _ _ d_G_isByte_16 (by first | exact Or.inl rfl | exact Or.inr rfl) (by simp [byF, c_1, c_8])
set_option maxHeartbeats 4000000 in
set_option maxRecDepth 100000 in
theorem c_G_scaled (l : Launch) (D : va_G) (T : Nat → ClassId) (A : Nat → Prop) (M : xM) (a b : Int32) : Met l y_G_scaled (Cond.code y_G_scaled b_G_scaled 5 (some .int) :: gw) (rmH 1) (xPc D T A M [.int a, .int b]) (xR (fun r => r = some (.int (scF a b)))) 0 0 (fun _ => False) := by
  refine xMetRi (by decide) (Nat.le_of_ble_eq_true rfl) ?_
  intro p e s m below meth c Q ls hB hP hl hret
  obtain ⟨hx, hb, hml, hown, hg, hK0, hnm⟩ := hB
  have hown : s.vm.findClass "ShareGrid" = some m.cls := hown
  have hK := hK0.1
  have hN := hK0.2.1
  have hl : lv_has ls 5 [(0, .int a), (1, .int b)] := hl
  refine lv_iconst (v := nI 0) hx hb d_G_scaled_0 (by decide) ?_
  refine lv_istore_n (lv' := [(2, .int (nI 0)), (0, .int a), (1, .int b)]) hx hb d_G_scaled_1 rfl hl (by decide) rfl (fun ls hl => ?_)
  refine lv_iload_n hx hb d_G_scaled_2 rfl (lv_at hl 1 rfl) ?_
  refine lv_istore_n (lv' := [(3, .int a), (2, .int (nI 0)), (0, .int a), (1, .int b)]) hx hb d_G_scaled_3 rfl hl (by decide) rfl (fun ls hl => ?_)
  refine lv_iconst (v := nI 0) hx hb d_G_scaled_4 (by decide) ?_
  refine lv_istore (lv' := [(4, .int (nI 0)), (3, .int a), (2, .int (nI 0)), (0, .int a), (1, .int b)]) hx hb d_G_scaled_5 hl (by decide) rfl (fun ls hl => ?_)
  have loop : ∀ (n : Nat) (i : Nat) (x2 x3 : Int32), 9 ≤ i + n → i ≤ 8 → x2 = scS a b i → x3 = scP a i → ∀ (ls : Array Slot), lv_has ls 5 [(0, .int a), (1, .int b), (2, .int x2), (3, .int x3), (4, .int (nI i))] → W p l e (rmH 1) s m [.int a, .int b].toArray below meth c s.heap [] 0 0 Q (F0 m 7 ls []) := by
    intro n
    induction n with
    | zero =>
      intro i x2 x3 h2 h1 e2 e3
      exact absurd h2 (by omega)
    | succ n ih =>
      intro i x2 x3 h2 h1 e2 e3 ls hl
      refine lv_iload hx hb d_G_scaled_7 (lv_at hl 4 rfl) ?_
      refine lv_bipush (v := nI 8) hx hb d_G_scaled_9 (by decide) ?_
      refine x_nc_ge (tgt := 38) hx hb d_G_scaled_11 (by decide) (by omega) (by omega) (fun c1 => ?_) (fun c1 => ?_)
      · have hi8 : i = 8 := by omega
        subst hi8
        refine lv_iload_n hx hb d_G_scaled_38 rfl (lv_at hl 2 rfl) ?_
        exact hret _ _ _ d_G_scaled_39 (by rw [e2]; rfl)
      · refine lv_iload_n hx hb d_G_scaled_14 rfl (lv_at hl 1 rfl) ?_
        refine lv_iload hx hb d_G_scaled_15 (lv_at hl 4 rfl) ?_
        refine lv_iushr (v := ushF b (nI i)) hx hb d_G_scaled_17 rfl ?_
        refine lv_iconst (v := 1) hx hb d_G_scaled_18 (by decide) ?_
        refine lv_iand hx hb d_G_scaled_19 ?_
        refine lv_if_eq (tgt := 27) hx hb d_G_scaled_20 (by decide) (fun c2 => ?_) (fun c2 => ?_)
        · refine lv_iload_n hx hb d_G_scaled_27 rfl (lv_at hl 3 rfl) ?_
          refine xs_R (n := 1) (As := [.int x3]) (rest := []) hx hb hml hown hg hK0 hP (c_G_timesX l D T A M x3) w_205 w_1 w_203 w_204 (by decide +kernel) ⟨Nat.le_of_ble_eq_true rfl, Nat.le_of_ble_eq_true rfl⟩ rfl hl.1 rfl (Nat.le_of_ble_eq_true rfl) ⟨Nat.zero_le _, Nat.zero_le _⟩ rfl rfl d_G_scaled_28 (fun r hr => ?_)
          subst hr
          refine x_fr (pc := 31) [.int (txF x3)] rfl rfl ?_
          refine lv_istore_n (lv' := [(3, .int (txF x3)), (0, .int a), (1, .int b), (2, .int x2), (4, .int (nI i))]) hx hb d_G_scaled_31 rfl hl (by decide) rfl (fun ls hl => ?_)
          refine lv_iinc (v := nI (i + 1)) (lv' := [(4, .int (nI (i + 1))), (3, .int (txF x3)), (0, .int a), (1, .int b), (2, .int x2)]) hx hb d_G_scaled_32 hl (k := 4) rfl (nI_1 _) (by decide) rfl (fun ls hl => ?_)
          refine lv_goto (tgt := 7) hx hb d_G_scaled_35 (by decide) ?_
          exact ih (i + 1) _ _ (by omega) (by omega) (by rw [e2, scS, if_pos (show bitF b i = 0 from c2)]) (by rw [e3]; rfl) ls (lv_sub hl [2, 3, 4, 1, 0] rfl)
        · refine lv_iload_n hx hb d_G_scaled_23 rfl (lv_at hl 2 rfl) ?_
          refine lv_iload_n hx hb d_G_scaled_24 rfl (lv_at hl 3 rfl) ?_
          refine lv_ixor hx hb d_G_scaled_25 ?_
          refine lv_istore_n (lv' := [(2, .int (x2 ^^^ x3)), (0, .int a), (1, .int b), (3, .int x3), (4, .int (nI i))]) hx hb d_G_scaled_26 rfl hl (by decide) rfl (fun ls hl => ?_)
          refine lv_iload_n hx hb d_G_scaled_27 rfl (lv_at hl 3 rfl) ?_
          refine xs_R (n := 1) (As := [.int x3]) (rest := []) hx hb hml hown hg hK0 hP (c_G_timesX l D T A M x3) w_205 w_1 w_203 w_204 (by decide +kernel) ⟨Nat.le_of_ble_eq_true rfl, Nat.le_of_ble_eq_true rfl⟩ rfl hl.1 rfl (Nat.le_of_ble_eq_true rfl) ⟨Nat.zero_le _, Nat.zero_le _⟩ rfl rfl d_G_scaled_28 (fun r hr => ?_)
          subst hr
          refine x_fr (pc := 31) [.int (txF x3)] rfl rfl ?_
          refine lv_istore_n (lv' := [(3, .int (txF x3)), (2, .int (x2 ^^^ x3)), (0, .int a), (1, .int b), (4, .int (nI i))]) hx hb d_G_scaled_31 rfl hl (by decide) rfl (fun ls hl => ?_)
          refine lv_iinc (v := nI (i + 1)) (lv' := [(4, .int (nI (i + 1))), (3, .int (txF x3)), (2, .int (x2 ^^^ x3)), (0, .int a), (1, .int b)]) hx hb d_G_scaled_32 hl (k := 4) rfl (nI_1 _) (by decide) rfl (fun ls hl => ?_)
          refine lv_goto (tgt := 7) hx hb d_G_scaled_35 (by decide) ?_
          exact ih (i + 1) _ _ (by omega) (by omega) (by rw [e2, e3, scS, if_neg (show ¬ bitF b i = 0 from c2)]) (by rw [e3]; rfl) ls (lv_sub hl [3, 4, 2, 1, 0] rfl)
  exact loop 9 0 _ _ (by omega) (by omega) rfl rfl ls (lv_sub hl [3, 4, 2, 1, 0] rfl)
set_option maxHeartbeats 4000000 in
set_option maxRecDepth 100000 in
theorem c_G_inverse (l : Launch) (D : va_G) (T : Nat → ClassId) (A : Nat → Prop) (M : xM) (a : Int32) : Met l y_G_inverse (Cond.code y_G_inverse b_G_inverse 4 (some .int) :: gw) (rmH 2) (xPc D T A M [.int a]) (xR (fun r => r = some (.int (ivF a)))) 0 0 (fun _ => False) := by
  refine xMetRi (by decide) (Nat.le_of_ble_eq_true rfl) ?_
  intro p e s m below meth c Q ls hB hP hl hret
  obtain ⟨hx, hb, hml, hown, hg, hK0, hnm⟩ := hB
  have hown : s.vm.findClass "ShareGrid" = some m.cls := hown
  have hK := hK0.1
  have hN := hK0.2.1
  have hl : lv_has ls 4 [(0, .int a)] := hl
  refine lv_iconst (v := 1) hx hb d_G_inverse_0 (by decide) ?_
  refine lv_istore_n (lv' := [(1, .int 1), (0, .int a)]) hx hb d_G_inverse_1 rfl hl (by decide) rfl (fun ls hl => ?_)
  refine lv_iload_n hx hb d_G_inverse_2 rfl (lv_at hl 1 rfl) ?_
  refine lv_istore_n (lv' := [(2, .int a), (1, .int 1), (0, .int a)]) hx hb d_G_inverse_3 rfl hl (by decide) rfl (fun ls hl => ?_)
  refine lv_iconst (v := nI 1) hx hb d_G_inverse_4 (by decide) ?_
  refine lv_istore_n (lv' := [(3, .int (nI 1)), (2, .int a), (1, .int 1), (0, .int a)]) hx hb d_G_inverse_5 rfl hl (by decide) rfl (fun ls hl => ?_)
  have loop : ∀ (n : Nat) (i : Nat) (x1 x2 : Int32), 8 ≤ i + n → i ≤ 7 → x1 = ivP a i → x2 = ivS a i → ∀ (ls : Array Slot), lv_has ls 4 [(0, .int a), (1, .int x1), (2, .int x2), (3, .int (nI (i + 1)))] → W p l e (rmH 2) s m [.int a].toArray below meth c s.heap [] 0 0 Q (F0 m 6 ls []) := by
    intro n
    induction n with
    | zero =>
      intro i x1 x2 h2 h1 e1 e2
      exact absurd h2 (by omega)
    | succ n ih =>
      intro i x1 x2 h2 h1 e1 e2 ls hl
      refine lv_iload_n hx hb d_G_inverse_6 rfl (lv_at hl 3 rfl) ?_
      refine lv_bipush (v := nI 8) hx hb d_G_inverse_7 (by decide) ?_
      refine x_nc_ge (tgt := 30) hx hb d_G_inverse_9 (by decide) (by omega) (by omega) (fun c1 => ?_) (fun c1 => ?_)
      · have hi7 : i = 7 := by omega
        subst hi7
        refine lv_iload_n hx hb d_G_inverse_30 rfl (lv_at hl 1 rfl) ?_
        exact hret _ _ _ d_G_inverse_31 (by rw [e1]; rfl)
      · refine lv_iload_n hx hb d_G_inverse_12 rfl (lv_at hl 2 rfl) ?_
        refine lv_iload_n hx hb d_G_inverse_13 rfl (lv_at hl 2 rfl) ?_
        refine xs_R (n := 2) (As := [.int x2, .int x2]) (rest := []) hx hb hml hown hg hK0 hP (c_G_scaled l D T A M x2 x2) w_202 w_1 w_273 w_201 (by decide +kernel) ⟨Nat.le_of_ble_eq_true rfl, Nat.le_of_ble_eq_true rfl⟩ rfl hl.1 rfl (Nat.le_of_ble_eq_true rfl) ⟨Nat.zero_le _, Nat.zero_le _⟩ rfl rfl d_G_inverse_14 (fun r hr => ?_)
        subst hr
        refine x_fr (pc := 17) [.int (scF x2 x2)] rfl rfl ?_
        refine lv_istore_n (lv' := [(2, .int (scF x2 x2)), (0, .int a), (1, .int x1), (3, .int (nI (i + 1)))]) hx hb d_G_inverse_17 rfl hl (by decide) rfl (fun ls hl => ?_)
        refine lv_iload_n hx hb d_G_inverse_18 rfl (lv_at hl 2 rfl) ?_
        refine lv_iload_n hx hb d_G_inverse_19 rfl (lv_at hl 0 rfl) ?_
        refine xs_R (n := 2) (As := [.int x1, .int (scF x2 x2)]) (rest := []) hx hb hml hown hg hK0 hP (c_G_scaled l D T A M x1 (scF x2 x2)) w_202 w_1 w_273 w_201 (by decide +kernel) ⟨Nat.le_of_ble_eq_true rfl, Nat.le_of_ble_eq_true rfl⟩ rfl hl.1 rfl (Nat.le_of_ble_eq_true rfl) ⟨Nat.zero_le _, Nat.zero_le _⟩ rfl rfl d_G_inverse_20 (fun r hr => ?_)
        subst hr
        refine x_fr (pc := 23) [.int (scF x1 (scF x2 x2))] rfl rfl ?_
        refine lv_istore_n (lv' := [(1, .int (scF x1 (scF x2 x2))), (2, .int (scF x2 x2)), (0, .int a), (3, .int (nI (i + 1)))]) hx hb d_G_inverse_23 rfl hl (by decide) rfl (fun ls hl => ?_)
        refine lv_iinc (v := nI ((i + 1) + 1)) (lv' := [(3, .int (nI ((i + 1) + 1))), (1, .int (scF x1 (scF x2 x2))), (2, .int (scF x2 x2)), (0, .int a)]) hx hb d_G_inverse_24 hl (k := 3) rfl (nI_1 _) (by decide) rfl (fun ls hl => ?_)
        refine lv_goto (tgt := 6) hx hb d_G_inverse_27 (by decide) ?_
        exact ih (i + 1) _ _ (by omega) (by omega) (by rw [e1, e2]; rfl) (by rw [e2]; rfl) ls (lv_sub hl [3, 1, 2, 0] rfl)
  exact loop 8 0 _ _ (by omega) (by omega) rfl rfl ls (lv_sub hl [3, 2, 1, 0] rfl)
