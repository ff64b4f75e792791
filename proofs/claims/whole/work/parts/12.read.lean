/-! reading methods of the class -/
def zB (K N : Nat) : Prop := 1 ≤ K ∧ K ≤ 4 ∧ K ≤ N ∧ N ≤ 7
def inF (x y : Int32) : Int32 := if x < 0 then 0 else if y ≤ x then 0 else 1
def cuF (u : Nat → Int32) : Nat → Nat
  | 0 => 0
  | i + 1 => if u i = 0 then cuF u i else cuF u i + 1
theorem cuF_le (u : Nat → Int32) (n : Nat) : cuF u n ≤ n := by
  induction n with
  | zero => exact Nat.le_refl 0
  | succ n ih => rw [cuF]; split <;> omega
def fdF (vk : Nat → Int32) (v : Int32) : Nat → Nat → Int32
  | _, 0 => -1
  | i, n + 1 => if vk i = v then nI i else fdF vk v (i + 1) n
def tkF (u k : Int32) : Int32 := if u = 0 then 0 else if k = 0 then 1 else 0
def rtI (f : Nat → Int32) : Nat → Int32
  | 0 => 7
  | i + 1 => mixF (rtI f i) (f i)
def rtF (f : Nat → Int32) (n : Nat) (nu : Int32) : Int32 := mixF (rtI f n) nu
def sdF (N : Nat) (rc fps roots seals : Nat → Int32) (w : Int32) (i : Nat) : Int32 :=
  if rc 0 = 0 then 0 else if rc 2 < 1 then 0 else if rc 2 ≤ w then (if mixF (rc 1) (nI i + 100) = fps i then (if rtF fps N (rc 2) = roots (rc 2).toNatClampNeg then (if rc 3 = seals (rc 2).toNatClampNeg then 1 else 0) else 0) else 0) else 0
abbrev sdG (N : Nat) (g : gT) (f i : Nat) : Int32 := sdF N (g 17 f i) (g 18 f i) (g 15 f 0) (g 16 f 0) (g 12 f 0 1) i
def swG (N : Nat) (g : gT) (f i : Nat) (x : Int32) : Int32 := if g 17 f i 2 = x then sdG N g f i else 0
theorem sdF_z (N : Nat) (rc fps roots seals : Nat → Int32) (w : Int32) (i : Nat) : sdF N rc fps roots seals w i = 0 ∨ sdF N rc fps roots seals w i = 1 := by
  unfold sdF
  repeat' split
  all_goals first | exact Or.inl rfl | exact Or.inr rfl
theorem inF_z (x y : Int32) : inF x y = 0 ∨ inF x y = 1 := by
  unfold inF
  repeat' split
  all_goals first | exact Or.inl rfl | exact Or.inr rfl
theorem tkF_z (x y : Int32) : tkF x y = 0 ∨ tkF x y = 1 := by
  unfold tkF
  repeat' split
  all_goals first | exact Or.inl rfl | exact Or.inr rfl
def shG (cw : Nat → Int32) (pt : Int32) : Nat → Nat → Int32
  | _, 0 => 0
  | j, n + 1 => scF (shG cw pt (j + 1) n) pt ^^^ cw j
def dnI : Nat → Int32
  | 0 => -1
  | j + 1 => nI j
theorem dnI_dec (j : Nat) : nI j + (-1) = dnI j := by
  cases j with
  | zero => decide
  | succ j => exact pk_m1 j
/-- an index between 1 and w -/
theorem ixw {x : Int32} {w : Nat} (hw : w ≤ 30) (h1 : ¬ x < 1) (h2 : x ≤ nI w) : ∃ j : Nat, 1 ≤ j ∧ j ≤ w ∧ x = nI j := by
  have e1 : (1 : Int32).toInt = 1 := by decide
  have a1 : ¬ x.toInt < 1 := fun q => h1 (Int32.lt_iff_toInt_lt.mpr (by rw [e1]; exact q))
  have a2 := Int32.le_iff_toInt_le.mp h2
  rw [nI_toInt (by omega)] at a2
  have h0 : ¬ x < 0 := fun q => by
    have := Int32.lt_iff_toInt_lt.mp q
    have e0 : (0 : Int32).toInt = 0 := by decide
    rw [e0] at this
    omega
  obtain ⟨j, hj, rfl⟩ := nI_of h0
  rw [nI_toInt hj] at a1 a2
  exact ⟨j, by omega, by omega, rfl⟩
set_option maxHeartbeats 4000000 in
set_option maxRecDepth 100000 in
theorem c_G_isWordPlace (l : Launch) (D : va_G) (T : Nat → ClassId) (A : Nat → Prop) (M : xM) (ad : Nat → Nat → Nat → Nat) (K N : Nat) (g : gT) (hz : zB K N) (hG : gG T ad K N g M) (x : Int32) : Met l y_G_isWordPlace (Cond.code y_G_isWordPlace b_G_isWordPlace 2 (some .boolean) :: gw) (rmH 0) (xPc D T A M [.ref (ad 0 0 0), .int x]) (xR (fun r => r = some (.int (inF x (nI K))))) 0 0 (fun _ => False) := by
  refine xMetRz (by decide) (Nat.le_of_ble_eq_true rfl) ?_
  intro p e s m below meth c Q ls hB hP hl hret
  obtain ⟨hx, hb, hml, hown, hg, hK0, hnm⟩ := hB
  have hown : s.vm.findClass "ShareGrid" = some m.cls := hown
  have hK := hK0.1
  have hN := hK0.2.1
  obtain ⟨hz1, hz4, hzn, hz7⟩ := id hz
  have hl : lv_has ls 2 [(0, .ref (ad 0 0 0)), (1, .int x)] := hl
  refine lv_iload_n hx hb d_G_isWordPlace_0 rfl (lv_at hl 1 rfl) ?_
  refine lv_if_lt (tgt := 16) hx hb d_G_isWordPlace_1 (by decide) (fun c_1 => ?_) (fun c_1 => ?_)
  · refine lv_iconst (v := 0) hx hb d_G_isWordPlace_16 (by decide) ?_
    exact hret _ _ _ d_G_isWordPlace_17 (by first | exact Or.inl rfl | exact Or.inr rfl) (by simp [inF, c_1])
  · refine lv_iload_n hx hb d_G_isWordPlace_4 rfl (lv_at hl 1 rfl) ?_
    refine lv_aload_n hx hb d_G_isWordPlace_5 rfl (lv_at hl 0 rfl) ?_
    refine x_get (v := .int (nI K)) (C := R_G) (T := F_G) (N := 12) hx hb hg i_G hown hK hP (ga_0 hG) rfl 0 (by decide) (hg _ w_110) (fun _ h9 => h9) rfl d_G_isWordPlace_6 ?_
    refine lv_icmp_ge (tgt := 16) hx hb d_G_isWordPlace_9 (by decide) (fun c_9 => ?_) (fun c_9 => ?_)
    · refine lv_iconst (v := 0) hx hb d_G_isWordPlace_16 (by decide) ?_
      exact hret _ _ _ d_G_isWordPlace_17 (by first | exact Or.inl rfl | exact Or.inr rfl) (by simp [inF, c_1, c_9])
    · refine lv_iconst (v := 1) hx hb d_G_isWordPlace_12 (by decide) ?_
      refine lv_goto (tgt := 17) hx hb d_G_isWordPlace_13 (by decide) ?_
      exact hret _ _ _ d_G_isWordPlace_17 (by first | exact Or.inl rfl | exact Or.inr rfl) (by simp [inF, c_1, c_9])
set_option maxHeartbeats 4000000 in
set_option maxRecDepth 100000 in
theorem c_G_isPlace (l : Launch) (D : va_G) (T : Nat → ClassId) (A : Nat → Prop) (M : xM) (ad : Nat → Nat → Nat → Nat) (K N : Nat) (g : gT) (hz : zB K N) (hG : gG T ad K N g M) (x : Int32) : Met l y_G_isPlace (Cond.code y_G_isPlace b_G_isPlace 2 (some .boolean) :: gw) (rmH 0) (xPc D T A M [.ref (ad 0 0 0), .int x]) (xR (fun r => r = some (.int (inF x (nI N))))) 0 0 (fun _ => False) := by
  refine xMetRz (by decide) (Nat.le_of_ble_eq_true rfl) ?_
  intro p e s m below meth c Q ls hB hP hl hret
  obtain ⟨hx, hb, hml, hown, hg, hK0, hnm⟩ := hB
  have hown : s.vm.findClass "ShareGrid" = some m.cls := hown
  have hK := hK0.1
  have hN := hK0.2.1
  obtain ⟨hz1, hz4, hzn, hz7⟩ := id hz
  have hl : lv_has ls 2 [(0, .ref (ad 0 0 0)), (1, .int x)] := hl
  refine lv_iload_n hx hb d_G_isPlace_0 rfl (lv_at hl 1 rfl) ?_
  refine lv_if_lt (tgt := 16) hx hb d_G_isPlace_1 (by decide) (fun c_1 => ?_) (fun c_1 => ?_)
  · refine lv_iconst (v := 0) hx hb d_G_isPlace_16 (by decide) ?_
    exact hret _ _ _ d_G_isPlace_17 (by first | exact Or.inl rfl | exact Or.inr rfl) (by simp [inF, c_1])
  · refine lv_iload_n hx hb d_G_isPlace_4 rfl (lv_at hl 1 rfl) ?_
    refine lv_aload_n hx hb d_G_isPlace_5 rfl (lv_at hl 0 rfl) ?_
    refine x_get (v := .int (nI N)) (C := R_G) (T := F_G) (N := 12) hx hb hg i_G hown hK hP (ga_0 hG) rfl 1 (by decide) (hg _ w_111) (fun _ h9 => h9) rfl d_G_isPlace_6 ?_
    refine lv_icmp_ge (tgt := 16) hx hb d_G_isPlace_9 (by decide) (fun c_9 => ?_) (fun c_9 => ?_)
    · refine lv_iconst (v := 0) hx hb d_G_isPlace_16 (by decide) ?_
      exact hret _ _ _ d_G_isPlace_17 (by first | exact Or.inl rfl | exact Or.inr rfl) (by simp [inF, c_1, c_9])
    · refine lv_iconst (v := 1) hx hb d_G_isPlace_12 (by decide) ?_
      refine lv_goto (tgt := 17) hx hb d_G_isPlace_13 (by decide) ?_
      exact hret _ _ _ d_G_isPlace_17 (by first | exact Or.inl rfl | exact Or.inr rfl) (by simp [inF, c_1, c_9])
set_option maxHeartbeats 4000000 in
set_option maxRecDepth 100000 in
theorem c_G_isFile (l : Launch) (D : va_G) (T : Nat → ClassId) (A : Nat → Prop) (M : xM) (ad : Nat → Nat → Nat → Nat) (K N : Nat) (g : gT) (hz : zB K N) (hG : gG T ad K N g M) (x : Int32) : Met l y_G_isFile (Cond.code y_G_isFile b_G_isFile 2 (some .boolean) :: gw) (rmH 0) (xPc D T A M [.ref (ad 0 0 0), .int x]) (xR (fun r => r = some (.int (inF x (g 0 0 0 0))))) 0 0 (fun _ => False) := by
  refine xMetRz (by decide) (Nat.le_of_ble_eq_true rfl) ?_
  intro p e s m below meth c Q ls hB hP hl hret
  obtain ⟨hx, hb, hml, hown, hg, hK0, hnm⟩ := hB
  have hown : s.vm.findClass "ShareGrid" = some m.cls := hown
  have hK := hK0.1
  have hN := hK0.2.1
  obtain ⟨hz1, hz4, hzn, hz7⟩ := id hz
  have hl : lv_has ls 2 [(0, .ref (ad 0 0 0)), (1, .int x)] := hl
  refine lv_iload_n hx hb d_G_isFile_0 rfl (lv_at hl 1 rfl) ?_
  refine lv_if_lt (tgt := 16) hx hb d_G_isFile_1 (by decide) (fun c_1 => ?_) (fun c_1 => ?_)
  · refine lv_iconst (v := 0) hx hb d_G_isFile_16 (by decide) ?_
    exact hret _ _ _ d_G_isFile_17 (by first | exact Or.inl rfl | exact Or.inr rfl) (by simp [inF, c_1])
  · refine lv_iload_n hx hb d_G_isFile_4 rfl (lv_at hl 1 rfl) ?_
    refine lv_aload_n hx hb d_G_isFile_5 rfl (lv_at hl 0 rfl) ?_
    refine x_get (v := .int (g 0 0 0 0)) (C := R_G) (T := F_G) (N := 12) hx hb hg i_G hown hK hP (ga_0 hG) rfl 10 (by decide) (hg _ w_120) (fun _ h9 => h9) rfl d_G_isFile_6 ?_
    refine lv_icmp_ge (tgt := 16) hx hb d_G_isFile_9 (by decide) (fun c_9 => ?_) (fun c_9 => ?_)
    · refine lv_iconst (v := 0) hx hb d_G_isFile_16 (by decide) ?_
      exact hret _ _ _ d_G_isFile_17 (by first | exact Or.inl rfl | exact Or.inr rfl) (by simp [inF, c_1, c_9])
    · refine lv_iconst (v := 1) hx hb d_G_isFile_12 (by decide) ?_
      refine lv_goto (tgt := 17) hx hb d_G_isFile_13 (by decide) ?_
      exact hret _ _ _ d_G_isFile_17 (by first | exact Or.inl rfl | exact Or.inr rfl) (by simp [inF, c_1, c_9])
set_option maxHeartbeats 4000000 in
set_option maxRecDepth 100000 in
theorem c_G_serversUp (l : Launch) (D : va_G) (T : Nat → ClassId) (A : Nat → Prop) (M : xM) (ad : Nat → Nat → Nat → Nat) (K N : Nat) (g : gT) (hz : zB K N) (hG : gG T ad K N g M) : Met l y_G_serversUp (Cond.code y_G_serversUp b_G_serversUp 3 (some .int) :: gw) (rmH 0) (xPc D T A M [.ref (ad 0 0 0)]) (xR (fun r => r = some (.int (nI (cuF (g 1 0 0) N))))) 0 0 (fun _ => False) := by
  refine xMetRi (by decide) (Nat.le_of_ble_eq_true rfl) ?_
  intro p e s m below meth c Q ls hB hP hl hret
  obtain ⟨hx, hb, hml, hown, hg, hK0, hnm⟩ := hB
  have hown : s.vm.findClass "ShareGrid" = some m.cls := hown
  have hK := hK0.1
  have hN := hK0.2.1
  obtain ⟨hz1, hz4, hzn, hz7⟩ := id hz
  have hl : lv_has ls 3 [(0, .ref (ad 0 0 0))] := hl
  refine lv_iconst (v := nI 0) hx hb d_G_serversUp_0 (by decide) ?_
  refine lv_istore_n (lv' := [(1, .int (nI 0)), (0, .ref (ad 0 0 0))]) hx hb d_G_serversUp_1 rfl hl (by decide) rfl (fun ls hl => ?_)
  refine lv_iconst (v := nI 0) hx hb d_G_serversUp_2 (by decide) ?_
  refine lv_istore_n (lv' := [(2, .int (nI 0)), (1, .int (nI 0)), (0, .ref (ad 0 0 0))]) hx hb d_G_serversUp_3 rfl hl (by decide) rfl (fun ls hl => ?_)
  have loop : ∀ (n : Nat) (i : Nat), N + 1 ≤ i + n → i ≤ N → ∀ (ls : Array Slot), lv_has ls 3 [(0, .ref (ad 0 0 0)), (1, .int (nI (cuF (g 1 0 0) i))), (2, .int (nI i))] → W p l e (rmH 0) s m [.ref (ad 0 0 0)].toArray below meth c s.heap [] 0 0 Q (F0 m 4 ls []) := by
    intro n
    induction n with
    | zero =>
      intro i h2 h1
      exact absurd h2 (by omega)
    | succ n ih =>
      intro i h2 h1 ls hl
      refine lv_iload_n hx hb d_G_serversUp_4 rfl (lv_at hl 2 rfl) ?_
      refine lv_aload_n hx hb d_G_serversUp_5 rfl (lv_at hl 0 rfl) ?_
      refine x_get (v := .int (nI N)) (C := R_G) (T := F_G) (N := 12) hx hb hg i_G hown hK hP (ga_0 hG) rfl 1 (by decide) (hg _ w_111) (fun _ h9 => h9) rfl d_G_serversUp_6 ?_
      refine x_nc_ge (tgt := 30) hx hb d_G_serversUp_9 (by decide) (by omega) (by omega) (fun c1 => ?_) (fun c1 => ?_)
      · have hiN : i = N := by omega
        subst hiN
        refine lv_iload_n hx hb d_G_serversUp_30 rfl (lv_at hl 1 rfl) ?_
        exact hret _ _ _ d_G_serversUp_31 rfl
      · refine lv_aload_n hx hb d_G_serversUp_12 rfl (lv_at hl 0 rfl) ?_
        refine x_get (v := .ref (ad 1 0 0)) (C := R_G) (T := F_G) (N := 12) hx hb hg i_G hown hK hP (ga_0 hG) rfl 2 (by decide) (hg _ w_112) (fun _ h9 => h9) rfl d_G_serversUp_13 ?_
        refine lv_iload_n hx hb d_G_serversUp_16 rfl (lv_at hl 2 rfl) ?_
        refine x_zald (v := g 1 0 0 i) hx hb hK hP 1 (ga_1 hG) rfl (vp_in_nI (by omega) (by omega)) (by rw [nI_clamp (by omega)]) d_G_serversUp_17 ?_
        refine lv_if_eq (tgt := 24) hx hb d_G_serversUp_18 (by decide) (fun c2 => ?_) (fun c2 => ?_)
        · have ecu : cuF (g 1 0 0) (i + 1) = cuF (g 1 0 0) i := by rw [cuF, if_pos c2]
          refine lv_iinc (v := nI (i + 1)) (lv' := [(2, .int (nI (i + 1))), (0, .ref (ad 0 0 0)), (1, .int (nI (cuF (g 1 0 0) i)))]) hx hb d_G_serversUp_24 hl (k := 2) rfl (nI_1 _) (by decide) rfl (fun ls hl => ?_)
          refine lv_goto (tgt := 4) hx hb d_G_serversUp_27 (by decide) ?_
          exact ih (i + 1) (by omega) (by omega) ls (by rw [ecu]; exact (lv_sub hl [1, 2, 0] rfl))
        · have ecu : cuF (g 1 0 0) (i + 1) = cuF (g 1 0 0) i + 1 := by rw [cuF, if_neg c2]
          refine lv_iinc (v := nI ((cuF (g 1 0 0) i) + 1)) (lv' := [(1, .int (nI ((cuF (g 1 0 0) i) + 1))), (0, .ref (ad 0 0 0)), (2, .int (nI i))]) hx hb d_G_serversUp_21 hl (k := 1) rfl (nI_1 _) (by decide) rfl (fun ls hl => ?_)
          refine lv_iinc (v := nI (i + 1)) (lv' := [(2, .int (nI (i + 1))), (1, .int (nI ((cuF (g 1 0 0) i) + 1))), (0, .ref (ad 0 0 0))]) hx hb d_G_serversUp_24 hl (k := 2) rfl (nI_1 _) (by decide) rfl (fun ls hl => ?_)
          refine lv_goto (tgt := 4) hx hb d_G_serversUp_27 (by decide) ?_
          exact ih (i + 1) (by omega) (by omega) ls (by rw [ecu]; exact (lv_sub hl [2, 1, 0] rfl))
  exact loop (N + 1) 0 (by omega) (by omega) ls (lv_sub hl [2, 1, 0] rfl)
set_option maxHeartbeats 4000000 in
set_option maxRecDepth 100000 in
theorem c_G_fileUnder (l : Launch) (D : va_G) (T : Nat → ClassId) (A : Nat → Prop) (M : xM) (ad : Nat → Nat → Nat → Nat) (K N : Nat) (g : gT) (hz : zB K N) (hG : gG T ad K N g M) (q : Nat) (hq : g 0 0 0 0 = nI q) (hq6 : q ≤ 6) (x : Int32) : Met l y_G_fileUnder (Cond.code y_G_fileUnder b_G_fileUnder 3 (some .int) :: gw) (rmH 0) (xPc D T A M [.ref (ad 0 0 0), .int x]) (xR (fun r => r = some (.int (fdF (fun f => g 12 f 0 0) x 0 q)))) 0 0 (fun _ => False) := by
  refine xMetRi (by decide) (Nat.le_of_ble_eq_true rfl) ?_
  intro p e s m below meth c Q ls hB hP hl hret
  obtain ⟨hx, hb, hml, hown, hg, hK0, hnm⟩ := hB
  have hown : s.vm.findClass "ShareGrid" = some m.cls := hown
  have hK := hK0.1
  have hN := hK0.2.1
  obtain ⟨hz1, hz4, hzn, hz7⟩ := id hz
  have hl : lv_has ls 3 [(0, .ref (ad 0 0 0)), (1, .int x)] := hl
  refine lv_iconst (v := nI 0) hx hb d_G_fileUnder_0 (by decide) ?_
  refine lv_istore_n (lv' := [(2, .int (nI 0)), (0, .ref (ad 0 0 0)), (1, .int x)]) hx hb d_G_fileUnder_1 rfl hl (by decide) rfl (fun ls hl => ?_)
  have loop : ∀ (n : Nat) (i : Nat), q + 1 ≤ i + n → i ≤ q → fdF (fun f => g 12 f 0 0) x 0 q = fdF (fun f => g 12 f 0 0) x i (q - i) → ∀ (ls : Array Slot), lv_has ls 3 [(0, .ref (ad 0 0 0)), (1, .int x), (2, .int (nI i))] → W p l e (rmH 0) s m [.ref (ad 0 0 0), .int x].toArray below meth c s.heap [] 0 0 Q (F0 m 2 ls []) := by
    intro n
    induction n with
    | zero =>
      intro i h2 h1 h3
      exact absurd h2 (by omega)
    | succ n ih =>
      intro i h2 h1 h3 ls hl
      refine lv_iload_n hx hb d_G_fileUnder_2 rfl (lv_at hl 2 rfl) ?_
      refine lv_aload_n hx hb d_G_fileUnder_3 rfl (lv_at hl 0 rfl) ?_
      refine x_get (v := .int (g 0 0 0 0)) (C := R_G) (T := F_G) (N := 12) hx hb hg i_G hown hK hP (ga_0 hG) rfl 10 (by decide) (hg _ w_120) (fun _ h9 => h9) rfl d_G_fileUnder_4 ?_
      refine x_top (y := nI q) hq ?_
      refine x_nc_ge (tgt := 31) hx hb d_G_fileUnder_7 (by decide) (by omega) (by omega) (fun c1 => ?_) (fun c1 => ?_)
      · have hiN : i = q := by omega
        subst hiN
        refine lv_iconst (v := (-1)) hx hb d_G_fileUnder_31 (by decide) ?_
        exact hret _ _ _ d_G_fileUnder_32 (by rw [h3, Nat.sub_self]; rfl)
      · have hqi : q - i = (q - (i + 1)) + 1 := by omega
        refine lv_aload_n hx hb d_G_fileUnder_10 rfl (lv_at hl 0 rfl) ?_
        refine x_get (v := .ref (ad 3 0 0)) (C := R_G) (T := F_G) (N := 12) hx hb hg i_G hown hK hP (ga_0 hG) rfl 4 (by decide) (hg _ w_114) (fun _ h9 => h9) rfl d_G_fileUnder_11 ?_
        refine lv_iload_n hx hb d_G_fileUnder_14 rfl (lv_at hl 2 rfl) ?_
        refine x_aldq (v := .ref (ad 12 i 0)) hx hb hK hP 3 (ga_3 hG) rfl (vp_in_nI (by omega) (by omega)) (by rw [nI_clamp (by omega)]; rfl) d_G_fileUnder_15 ?_
        refine x_getN (v := .int (g 12 i 0 0)) (C := R_F) (T := F_F) (N := 6) hx hb hg i_F hown hK hP (ga_12 hG (show i < 6 by omega)) rfl 4 (by decide) (va_Nw.use rfl (hN _ e_74)) (fun _ h9 => h9) rfl d_G_fileUnder_16 ?_
        refine lv_iload_n hx hb d_G_fileUnder_19 rfl (lv_at hl 1 rfl) ?_
        refine lv_icmp_ne (tgt := 25) hx hb d_G_fileUnder_20 (by decide) (fun c2 => ?_) (fun c2 => ?_)
        · refine lv_iinc (v := nI (i + 1)) (lv' := [(2, .int (nI (i + 1))), (0, .ref (ad 0 0 0)), (1, .int x)]) hx hb d_G_fileUnder_25 hl (k := 2) rfl (nI_1 _) (by decide) rfl (fun ls hl => ?_)
          refine lv_goto (tgt := 2) hx hb d_G_fileUnder_28 (by decide) ?_
          exact ih (i + 1) (by omega) (by omega) (by rw [h3, hqi, fdF, if_neg c2]) ls (lv_sub hl [1, 2, 0] rfl)
        · refine lv_iload_n hx hb d_G_fileUnder_23 rfl (lv_at hl 2 rfl) ?_
          exact hret _ _ _ d_G_fileUnder_24 (by rw [h3, hqi, fdF, if_pos c2])
  exact loop (q + 1) 0 (by omega) (by omega) rfl ls (lv_sub hl [1, 2, 0] rfl)
set_option maxHeartbeats 4000000 in
set_option maxRecDepth 100000 in
theorem c_G_takesRecords (l : Launch) (D : va_G) (T : Nat → ClassId) (A : Nat → Prop) (M : xM) (ad : Nat → Nat → Nat → Nat) (K N : Nat) (g : gT) (hz : zB K N) (hG : gG T ad K N g M) (i : Nat) (hi : i < N) : Met l y_G_takesRecords (Cond.code y_G_takesRecords b_G_takesRecords 2 (some .boolean) :: gw) (rmH 0) (xPc D T A M [.ref (ad 0 0 0), .int (nI i)]) (xR (fun r => r = some (.int (tkF (g 1 0 0 i) (g 2 0 0 i))))) 0 0 (fun _ => False) := by
  refine xMetRz (by decide) (Nat.le_of_ble_eq_true rfl) ?_
  intro p e s m below meth c Q ls hB hP hl hret
  obtain ⟨hx, hb, hml, hown, hg, hK0, hnm⟩ := hB
  have hown : s.vm.findClass "ShareGrid" = some m.cls := hown
  have hK := hK0.1
  have hN := hK0.2.1
  obtain ⟨hz1, hz4, hzn, hz7⟩ := id hz
  have hl : lv_has ls 2 [(0, .ref (ad 0 0 0)), (1, .int (nI i))] := hl
  refine lv_aload_n hx hb d_G_takesRecords_0 rfl (lv_at hl 0 rfl) ?_
  refine x_get (v := .ref (ad 1 0 0)) (C := R_G) (T := F_G) (N := 12) hx hb hg i_G hown hK hP (ga_0 hG) rfl 2 (by decide) (hg _ w_112) (fun _ h9 => h9) rfl d_G_takesRecords_1 ?_
  refine lv_iload_n hx hb d_G_takesRecords_4 rfl (lv_at hl 1 rfl) ?_
  refine x_zald (v := g 1 0 0 i) hx hb hK hP 1 (ga_1 hG) rfl (vp_in_nI (by omega) (by omega)) (by rw [nI_clamp (by omega)]) d_G_takesRecords_5 ?_
  refine lv_if_eq (tgt := 22) hx hb d_G_takesRecords_6 (by decide) (fun c_6 => ?_) (fun c_6 => ?_)
  · refine lv_iconst (v := 0) hx hb d_G_takesRecords_22 (by decide) ?_
    exact hret _ _ _ d_G_takesRecords_23 (by first | exact Or.inl rfl | exact Or.inr rfl) (by simp [tkF, c_6])
  · refine lv_aload_n hx hb d_G_takesRecords_9 rfl (lv_at hl 0 rfl) ?_
    refine x_get (v := .ref (ad 2 0 0)) (C := R_G) (T := F_G) (N := 12) hx hb hg i_G hown hK hP (ga_0 hG) rfl 3 (by decide) (hg _ w_113) (fun _ h9 => h9) rfl d_G_takesRecords_10 ?_
    refine lv_iload_n hx hb d_G_takesRecords_13 rfl (lv_at hl 1 rfl) ?_
    refine x_zald (v := g 2 0 0 i) hx hb hK hP 1 (ga_2 hG) rfl (vp_in_nI (by omega) (by omega)) (by rw [nI_clamp (by omega)]) d_G_takesRecords_14 ?_
    refine lv_if_ne (tgt := 22) hx hb d_G_takesRecords_15 (by decide) (fun c_15 => ?_) (fun c_15 => ?_)
    · refine lv_iconst (v := 0) hx hb d_G_takesRecords_22 (by decide) ?_
      exact hret _ _ _ d_G_takesRecords_23 (by first | exact Or.inl rfl | exact Or.inr rfl) (by simp [tkF, c_6, c_15])
    · refine lv_iconst (v := 1) hx hb d_G_takesRecords_18 (by decide) ?_
      refine lv_goto (tgt := 23) hx hb d_G_takesRecords_19 (by decide) ?_
      exact hret _ _ _ d_G_takesRecords_23 (by first | exact Or.inl rfl | exact Or.inr rfl) (by simp [tkF, c_6, c_15])
set_option maxHeartbeats 4000000 in
set_option maxRecDepth 100000 in
theorem c_R_rootOfFingerprints (l : Launch) (D : va_G) (T : Nat → ClassId) (A : Nat → Prop) (M : xM) (a fa n0 : Nat) (f : Nat → Int32) (y0 y1 y2 y3 : Int32) (hn0 : n0 ≤ 7) (ha : M a = some (.inr (1, [.ref fa, .int y0, .int y1, .int y2, .int y3]))) (hfa : M fa = some (eI (T 0) n0 f)) : Met l y_R_rootOfFingerprints (Cond.code y_R_rootOfFingerprints b_R_rootOfFingerprints 3 (some .int) :: gw) (rmH 1) (xPc D T A M [.ref a]) (xR (fun r => r = some (.int (rtF f n0 y2)))) 0 0 (fun _ => False) := by
  refine xMetRi (by decide) (Nat.le_of_ble_eq_true rfl) ?_
  intro p e s m below meth c Q ls hB hP hl hret
  obtain ⟨hx, hb, hml, hown, hg, hK0, hnm⟩ := hB
  have hown : s.vm.findClass "ShareGrid$ServerRecord" = some m.cls := hown
  have hK := hK0.1
  have hN := hK0.2.1
  have hl : lv_has ls 3 [(0, .ref a)] := hl
  refine lv_bipush (v := 7) hx hb d_R_rootOfFingerprints_0 (by decide) ?_
  refine lv_istore_n (lv' := [(1, .int 7), (0, .ref a)]) hx hb d_R_rootOfFingerprints_2 rfl hl (by decide) rfl (fun ls hl => ?_)
  refine lv_iconst (v := nI 0) hx hb d_R_rootOfFingerprints_3 (by decide) ?_
  refine lv_istore_n (lv' := [(2, .int (nI 0)), (1, .int 7), (0, .ref a)]) hx hb d_R_rootOfFingerprints_4 rfl hl (by decide) rfl (fun ls hl => ?_)
  have loop : ∀ (n : Nat) (i : Nat), n0 + 1 ≤ i + n → i ≤ n0 → ∀ (ls : Array Slot), lv_has ls 3 [(0, .ref a), (1, .int (rtI f i)), (2, .int (nI i))] → W p l e (rmH 1) s m [.ref a].toArray below meth c s.heap [] 0 0 Q (F0 m 5 ls []) := by
    intro n
    induction n with
    | zero =>
      intro i h2 h1
      exact absurd h2 (by omega)
    | succ n ih =>
      intro i h2 h1 ls hl
      refine lv_iload_n hx hb d_R_rootOfFingerprints_5 rfl (lv_at hl 2 rfl) ?_
      refine lv_aload_n hx hb d_R_rootOfFingerprints_6 rfl (lv_at hl 0 rfl) ?_
      refine x_get (v := .ref fa) (C := R_R) (T := F_R) (N := 5) hx hb hg i_R hown hK hP ha rfl 0 (by decide) (hg _ w_40) (fun _ h9 => h9) rfl d_R_rootOfFingerprints_7 ?_
      refine x_alen (v := nI n0) hx hb hK hP 0 hfa rfl rfl d_R_rootOfFingerprints_10 ?_
      refine x_nc_ge (tgt := 31) hx hb d_R_rootOfFingerprints_11 (by decide) (by omega) (by omega) (fun c1 => ?_) (fun c1 => ?_)
      · have hiN : i = n0 := by omega
        subst hiN
        refine lv_iload_n hx hb d_R_rootOfFingerprints_31 rfl (lv_at hl 1 rfl) ?_
        refine lv_aload_n hx hb d_R_rootOfFingerprints_32 rfl (lv_at hl 0 rfl) ?_
        refine x_get (v := .int y2) (C := R_R) (T := F_R) (N := 5) hx hb hg i_R hown hK hP ha rfl 3 (by decide) (hg _ w_49) (fun _ h9 => h9) rfl d_R_rootOfFingerprints_33 ?_
        refine xsn_R (n := 2) (As := [.int (rtI f i), .int y2]) (rest := []) hx hb hml hown hg hK0 hP hN (c_G_mix l D T A M (rtI f i) y2) w_156 w_1 e_215 w_155 (by decide +kernel) ⟨Nat.le_of_ble_eq_true rfl, Nat.le_of_ble_eq_true rfl⟩ rfl hl.1 rfl (Nat.le_of_ble_eq_true rfl) ⟨Nat.zero_le _, Nat.zero_le _⟩ rfl rfl d_R_rootOfFingerprints_36 (fun r hr => ?_)
        subst hr
        refine x_fr (pc := 39) [.int (mixF (rtI f i) y2)] rfl rfl ?_
        exact hret _ _ _ d_R_rootOfFingerprints_39 rfl
      · refine lv_iload_n hx hb d_R_rootOfFingerprints_14 rfl (lv_at hl 1 rfl) ?_
        refine lv_aload_n hx hb d_R_rootOfFingerprints_15 rfl (lv_at hl 0 rfl) ?_
        refine x_get (v := .ref fa) (C := R_R) (T := F_R) (N := 5) hx hb hg i_R hown hK hP ha rfl 0 (by decide) (hg _ w_40) (fun _ h9 => h9) rfl d_R_rootOfFingerprints_16 ?_
        refine lv_iload_n hx hb d_R_rootOfFingerprints_19 rfl (lv_at hl 2 rfl) ?_
        refine x_iald (v := f i) hx hb hK hP 0 hfa rfl (vp_in_nI (by omega) (by omega)) (by rw [nI_clamp (by omega)]) d_R_rootOfFingerprints_20 ?_
        refine xsn_R (n := 2) (As := [.int (rtI f i), .int (f i)]) (rest := []) hx hb hml hown hg hK0 hP hN (c_G_mix l D T A M (rtI f i) (f i)) w_156 w_1 e_215 w_155 (by decide +kernel) ⟨Nat.le_of_ble_eq_true rfl, Nat.le_of_ble_eq_true rfl⟩ rfl hl.1 rfl (Nat.le_of_ble_eq_true rfl) ⟨Nat.zero_le _, Nat.zero_le _⟩ rfl rfl d_R_rootOfFingerprints_21 (fun r hr => ?_)
        subst hr
        refine x_fr (pc := 24) [.int (mixF (rtI f i) (f i))] rfl rfl ?_
        refine lv_istore_n (lv' := [(1, .int (mixF (rtI f i) (f i))), (0, .ref a), (2, .int (nI i))]) hx hb d_R_rootOfFingerprints_24 rfl hl (by decide) rfl (fun ls hl => ?_)
        refine lv_iinc (v := nI (i + 1)) (lv' := [(2, .int (nI (i + 1))), (1, .int (mixF (rtI f i) (f i))), (0, .ref a)]) hx hb d_R_rootOfFingerprints_25 hl (k := 2) rfl (nI_1 _) (by decide) rfl (fun ls hl => ?_)
        refine lv_goto (tgt := 5) hx hb d_R_rootOfFingerprints_28 (by decide) ?_
        exact ih (i + 1) (by omega) (by omega) ls (lv_sub hl [2, 1, 0] rfl)
  exact loop (n0 + 1) 0 (by omega) (by omega) ls (lv_sub hl [2, 1, 0] rfl)
set_option maxHeartbeats 4000000 in
set_option maxRecDepth 100000 in
theorem c_F_isSoundAt (l : Launch) (D : va_G) (T : Nat → ClassId) (A : Nat → Prop) (M : xM) (ad : Nat → Nat → Nat → Nat) (K N : Nat) (g : gT) (hz : zB K N) (hG : gG T ad K N g M) (f i w : Nat) (hf : f < 6) (hi : i < N) (hw : g 12 f 0 1 = nI w) (hw30 : w ≤ 30) : Met l y_F_isSoundAt (Cond.code y_F_isSoundAt b_F_isSoundAt 4 (some .boolean) :: gw) (rmH 2) (xPc D T A M [.ref (ad 12 f 0), .int (nI i)]) (xR (fun r => r = some (.int (sdG N g f i)))) 0 0 (fun _ => False) := by
  refine xMetRz (by decide) (Nat.le_of_ble_eq_true rfl) ?_
  intro p e s m below meth c Q ls hB hP hl hret
  obtain ⟨hx, hb, hml, hown, hg, hK0, hnm⟩ := hB
  have hown : s.vm.findClass "ShareGrid$StoredFile" = some m.cls := hown
  have hK := hK0.1
  have hN := hK0.2.1
  obtain ⟨hz1, hz4, hzn, hz7⟩ := id hz
  have hl : lv_has ls 4 [(0, .ref (ad 12 f 0)), (1, .int (nI i))] := hl
  refine lv_aload_n hx hb d_F_isSoundAt_0 rfl (lv_at hl 0 rfl) ?_
  refine x_get (v := .ref (ad 13 f 0)) (C := R_F) (T := F_F) (N := 6) hx hb hg i_F hown hK hP (ga_12 hG (show f < 6 by omega)) rfl 0 (by decide) (hg _ w_68) (fun _ h9 => h9) rfl d_F_isSoundAt_1 ?_
  refine lv_iload_n hx hb d_F_isSoundAt_4 rfl (lv_at hl 1 rfl) ?_
  refine x_aldq (v := .ref (ad 17 f i)) hx hb hK hP 2 (ga_13 hG (show f < 6 by omega)) rfl (vp_in_nI (by omega) (by omega)) (by rw [nI_clamp (by omega)]; rfl) d_F_isSoundAt_5 ?_
  refine lv_astore_n (lv' := [(2, .ref (ad 17 f i)), (0, .ref (ad 12 f 0)), (1, .int (nI i))]) hx hb d_F_isSoundAt_6 rfl hl (by decide) rfl (fun ls hl => ?_)
  refine lv_aload_n hx hb d_F_isSoundAt_7 rfl (lv_at hl 0 rfl) ?_
  refine x_getN (v := .int (g 17 f i 2)) (C := R_R) (T := F_R) (N := 5) hx hb hg i_R hown hK hP (ga_17 hG (show f < 6 by omega) (show i < N by omega)) rfl 3 (by decide) (va_Nw.use rfl (hN _ e_50)) (fun _ h9 => h9) rfl d_F_isSoundAt_8 ?_
  refine lv_istore_n (lv' := [(3, .int (g 17 f i 2)), (2, .ref (ad 17 f i)), (0, .ref (ad 12 f 0)), (1, .int (nI i))]) hx hb d_F_isSoundAt_11 rfl hl (by decide) rfl (fun ls hl => ?_)
  refine lv_aload_n hx hb d_F_isSoundAt_12 rfl (lv_at hl 1 rfl) ?_
  refine x_getN (v := .int (g 17 f i 0)) (C := R_R) (T := F_R) (N := 5) hx hb hg i_R hown hK hP (ga_17 hG (show f < 6 by omega) (show i < N by omega)) rfl 1 (by decide) (va_Nw.use rfl (hN _ e_44)) (fun _ h9 => h9) rfl d_F_isSoundAt_13 ?_
  refine lv_if_eq (tgt := 32) hx hb d_F_isSoundAt_16 (by decide) (fun c_16 => ?_) (fun c_16 => ?_)
  · refine lv_iconst (v := 0) hx hb d_F_isSoundAt_32 (by decide) ?_
    exact hret _ _ _ d_F_isSoundAt_33 (by first | exact Or.inl rfl | exact Or.inr rfl) (by simp [sdG, sdF, c_16])
  · refine lv_iload_n hx hb d_F_isSoundAt_19 rfl (lv_at hl 0 rfl) ?_
    refine lv_iconst (v := 1) hx hb d_F_isSoundAt_20 (by decide) ?_
    refine lv_icmp_lt (tgt := 32) hx hb d_F_isSoundAt_21 (by decide) (fun c_21 => ?_) (fun c_21 => ?_)
    · refine lv_iconst (v := 0) hx hb d_F_isSoundAt_32 (by decide) ?_
      exact hret _ _ _ d_F_isSoundAt_33 (by first | exact Or.inl rfl | exact Or.inr rfl) (by simp [sdG, sdF, c_16, c_21])
    · refine lv_iload_n hx hb d_F_isSoundAt_24 rfl (lv_at hl 0 rfl) ?_
      refine lv_aload_n hx hb d_F_isSoundAt_25 rfl (lv_at hl 2 rfl) ?_
      refine x_get (v := .int (g 12 f 0 1)) (C := R_F) (T := F_F) (N := 6) hx hb hg i_F hown hK hP (ga_12 hG (show f < 6 by omega)) rfl 5 (by decide) (hg _ w_75) (fun _ h9 => h9) rfl d_F_isSoundAt_26 ?_
      refine lv_icmp_le (tgt := 34) hx hb d_F_isSoundAt_29 (by decide) (fun c_29 => ?_) (fun c_29 => ?_)
      · obtain ⟨j, hj1, hj2, hj⟩ := ixw hw30 c_21 (by rw [← hw]; exact c_29)
        refine lv_aload_n hx hb d_F_isSoundAt_34 rfl (lv_at hl 1 rfl) ?_
        refine x_getN (v := .int (g 17 f i 1)) (C := R_R) (T := F_R) (N := 5) hx hb hg i_R hown hK hP (ga_17 hG (show f < 6 by omega) (show i < N by omega)) rfl 2 (by decide) (va_Nw.use rfl (hN _ e_47)) (fun _ h9 => h9) rfl d_F_isSoundAt_35 ?_
        refine lv_iload_n hx hb d_F_isSoundAt_38 rfl (lv_at hl 3 rfl) ?_
        refine xsn_R (n := 2) (As := [.int (g 17 f i 1), .int (nI i)]) (rest := []) hx hb hml hown hg hK0 hP hN (c_G_fingerprint l D T A M (g 17 f i 1) (nI i)) w_210 w_1 e_250 w_209 (by decide +kernel) ⟨Nat.le_of_ble_eq_true rfl, Nat.le_of_ble_eq_true rfl⟩ rfl hl.1 rfl (Nat.le_of_ble_eq_true rfl) ⟨Nat.zero_le _, Nat.zero_le _⟩ rfl rfl d_F_isSoundAt_39 (fun r hr => ?_)
        subst hr
        refine x_fr (pc := 42) [.int (mixF (g 17 f i 1) ((nI i) + 100))] rfl rfl ?_
        refine lv_aload_n hx hb d_F_isSoundAt_42 rfl (lv_at hl 1 rfl) ?_
        refine x_getN (v := .ref (ad 18 f i)) (C := R_R) (T := F_R) (N := 5) hx hb hg i_R hown hK hP (ga_17 hG (show f < 6 by omega) (show i < N by omega)) rfl 0 (by decide) (va_Nw.use rfl (hN _ e_41)) (fun _ h9 => h9) rfl d_F_isSoundAt_43 ?_
        refine lv_iload_n hx hb d_F_isSoundAt_46 rfl (lv_at hl 3 rfl) ?_
        refine x_iald (v := g 18 f i i) hx hb hK hP 0 (ga_18 hG (show f < 6 by omega) (show i < N by omega)) rfl (vp_in_nI (by omega) (by omega)) (by rw [nI_clamp (by omega)]) d_F_isSoundAt_47 ?_
        refine lv_icmp_ne (tgt := 81) hx hb d_F_isSoundAt_48 (by decide) (fun c_48 => ?_) (fun c_48 => ?_)
        · refine lv_iconst (v := 0) hx hb d_F_isSoundAt_81 (by decide) ?_
          exact hret _ _ _ d_F_isSoundAt_82 (by first | exact Or.inl rfl | exact Or.inr rfl) (by simp [sdG, sdF, c_16, c_21, c_29, c_48])
        · refine lv_aload_n hx hb d_F_isSoundAt_51 rfl (lv_at hl 1 rfl) ?_
          refine xvn_R (n := 0) (As := []) (rest := []) hx hb hml hown hg hK0 hP hN (c_R_rootOfFingerprints l D T A M (ad 17 f i) (ad 18 f i) N (g 18 f i) (g 17 f i 0) (g 17 f i 1) (g 17 f i 2) (g 17 f i 3) (by omega) (ga_17 hG (show f < 6 by omega) (show i < N by omega)) (ga_18 hG (show f < 6 by omega) (show i < N by omega))) w_214 w_4 e_251 w_213 s_5 (ga_17 hG (show f < 6 by omega) (show i < N by omega)) rfl rfl (by decide +kernel) ⟨Nat.le_of_ble_eq_true rfl, Nat.le_of_ble_eq_true rfl⟩ rfl hl.1 rfl (Nat.le_of_ble_eq_true rfl) ⟨Nat.zero_le _, Nat.zero_le _⟩ rfl rfl d_F_isSoundAt_52 (fun r hr => ?_)
          subst hr
          refine x_fr (pc := 55) [.int (rtF (g 18 f i) N (g 17 f i 2))] rfl rfl ?_
          refine lv_aload_n hx hb d_F_isSoundAt_55 rfl (lv_at hl 2 rfl) ?_
          refine x_get (v := .ref (ad 15 f 0)) (C := R_F) (T := F_F) (N := 6) hx hb hg i_F hown hK hP (ga_12 hG (show f < 6 by omega)) rfl 2 (by decide) (hg _ w_72) (fun _ h9 => h9) rfl d_F_isSoundAt_56 ?_
          refine lv_iload_n hx hb d_F_isSoundAt_59 rfl (lv_at hl 0 rfl) ?_
          refine x_iald (v := (g 15 f 0 (g 17 f i 2).toNatClampNeg)) hx hb hK hP 0 (ga_15 hG (show f < 6 by omega)) rfl (by rw [hj]; exact vp_in_nI (by omega) (by omega)) rfl d_F_isSoundAt_60 ?_
          refine lv_icmp_ne (tgt := 81) hx hb d_F_isSoundAt_61 (by decide) (fun c_61 => ?_) (fun c_61 => ?_)
          · refine lv_iconst (v := 0) hx hb d_F_isSoundAt_81 (by decide) ?_
            exact hret _ _ _ d_F_isSoundAt_82 (by first | exact Or.inl rfl | exact Or.inr rfl) (by simp [sdG, sdF, c_16, c_21, c_29, c_48, c_61])
          · refine lv_aload_n hx hb d_F_isSoundAt_64 rfl (lv_at hl 1 rfl) ?_
            refine x_getN (v := .int (g 17 f i 3)) (C := R_R) (T := F_R) (N := 5) hx hb hg i_R hown hK hP (ga_17 hG (show f < 6 by omega) (show i < N by omega)) rfl 4 (by decide) (va_Nw.use rfl (hN _ e_53)) (fun _ h9 => h9) rfl d_F_isSoundAt_65 ?_
            refine lv_aload_n hx hb d_F_isSoundAt_68 rfl (lv_at hl 2 rfl) ?_
            refine x_get (v := .ref (ad 16 f 0)) (C := R_F) (T := F_F) (N := 6) hx hb hg i_F hown hK hP (ga_12 hG (show f < 6 by omega)) rfl 3 (by decide) (hg _ w_73) (fun _ h9 => h9) rfl d_F_isSoundAt_69 ?_
            refine lv_iload_n hx hb d_F_isSoundAt_72 rfl (lv_at hl 0 rfl) ?_
            refine x_iald (v := (g 16 f 0 (g 17 f i 2).toNatClampNeg)) hx hb hK hP 0 (ga_16 hG (show f < 6 by omega)) rfl (by rw [hj]; exact vp_in_nI (by omega) (by omega)) rfl d_F_isSoundAt_73 ?_
            refine lv_icmp_ne (tgt := 81) hx hb d_F_isSoundAt_74 (by decide) (fun c_74 => ?_) (fun c_74 => ?_)
            · refine lv_iconst (v := 0) hx hb d_F_isSoundAt_81 (by decide) ?_
              exact hret _ _ _ d_F_isSoundAt_82 (by first | exact Or.inl rfl | exact Or.inr rfl) (by simp [sdG, sdF, c_16, c_21, c_29, c_48, c_61, c_74])
            · refine lv_iconst (v := 1) hx hb d_F_isSoundAt_77 (by decide) ?_
              refine lv_goto (tgt := 82) hx hb d_F_isSoundAt_78 (by decide) ?_
              exact hret _ _ _ d_F_isSoundAt_82 (by first | exact Or.inl rfl | exact Or.inr rfl) (by simp [sdG, sdF, c_16, c_21, c_29, c_48, c_61, c_74])
      · refine lv_iconst (v := 0) hx hb d_F_isSoundAt_32 (by decide) ?_
        exact hret _ _ _ d_F_isSoundAt_33 (by first | exact Or.inl rfl | exact Or.inr rfl) (by simp [sdG, sdF, c_16, c_21, c_29])
set_option maxHeartbeats 4000000 in
set_option maxRecDepth 100000 in
theorem c_F_isSoundWith (l : Launch) (D : va_G) (T : Nat → ClassId) (A : Nat → Prop) (M : xM) (ad : Nat → Nat → Nat → Nat) (K N : Nat) (g : gT) (hz : zB K N) (hG : gG T ad K N g M) (f i w : Nat) (hf : f < 6) (hi : i < N) (hw : g 12 f 0 1 = nI w) (hw30 : w ≤ 30) (x : Int32) : Met l y_F_isSoundWith (Cond.code y_F_isSoundWith b_F_isSoundWith 3 (some .boolean) :: gw) (rmH 3) (xPc D T A M [.ref (ad 12 f 0), .int (nI i), .int x]) (xR (fun r => r = some (.int (swG N g f i x)))) 0 0 (fun _ => False) := by
  refine xMetRz (by decide) (Nat.le_of_ble_eq_true rfl) ?_
  intro p e s m below meth c Q ls hB hP hl hret
  obtain ⟨hx, hb, hml, hown, hg, hK0, hnm⟩ := hB
  have hown : s.vm.findClass "ShareGrid$StoredFile" = some m.cls := hown
  have hK := hK0.1
  have hN := hK0.2.1
  obtain ⟨hz1, hz4, hzn, hz7⟩ := id hz
  have hl : lv_has ls 3 [(0, .ref (ad 12 f 0)), (1, .int (nI i)), (2, .int x)] := hl
  refine lv_aload_n hx hb d_F_isSoundWith_0 rfl (lv_at hl 0 rfl) ?_
  refine x_get (v := .ref (ad 13 f 0)) (C := R_F) (T := F_F) (N := 6) hx hb hg i_F hown hK hP (ga_12 hG (show f < 6 by omega)) rfl 0 (by decide) (hg _ w_68) (fun _ h9 => h9) rfl d_F_isSoundWith_1 ?_
  refine lv_iload_n hx hb d_F_isSoundWith_4 rfl (lv_at hl 1 rfl) ?_
  refine x_aldq (v := .ref (ad 17 f i)) hx hb hK hP 2 (ga_13 hG (show f < 6 by omega)) rfl (vp_in_nI (by omega) (by omega)) (by rw [nI_clamp (by omega)]; rfl) d_F_isSoundWith_5 ?_
  refine x_getN (v := .int (g 17 f i 2)) (C := R_R) (T := F_R) (N := 5) hx hb hg i_R hown hK hP (ga_17 hG (show f < 6 by omega) (show i < N by omega)) rfl 3 (by decide) (va_Nw.use rfl (hN _ e_50)) (fun _ h9 => h9) rfl d_F_isSoundWith_6 ?_
  refine lv_iload_n hx hb d_F_isSoundWith_9 rfl (lv_at hl 2 rfl) ?_
  refine lv_icmp_ne (tgt := 25) hx hb d_F_isSoundWith_10 (by decide) (fun c_10 => ?_) (fun c_10 => ?_)
  · refine lv_iconst (v := 0) hx hb d_F_isSoundWith_25 (by decide) ?_
    exact hret _ _ _ d_F_isSoundWith_26 (by first | exact Or.inl rfl | exact Or.inr rfl) (by simp [swG, c_10])
  · refine lv_aload_n hx hb d_F_isSoundWith_13 rfl (lv_at hl 0 rfl) ?_
    refine lv_iload_n hx hb d_F_isSoundWith_14 rfl (lv_at hl 1 rfl) ?_
    refine xv_R (n := 1) (As := [.int (nI i)]) (rest := []) hx hb hml hown hg hK0 hP (c_F_isSoundAt l D T A M ad K N g hz hG f i w (by omega) (by omega) hw hw30) w_249 w_3 w_260 w_248 s_11 (ga_12 hG (show f < 6 by omega)) rfl rfl (by decide +kernel) ⟨Nat.le_of_ble_eq_true rfl, Nat.le_of_ble_eq_true rfl⟩ rfl hl.1 rfl (Nat.le_of_ble_eq_true rfl) ⟨Nat.zero_le _, Nat.zero_le _⟩ rfl rfl d_F_isSoundWith_15 (fun r hr => ?_)
    subst hr
    refine x_fr (pc := 18) [.int (sdG N g f i)] rfl rfl ?_
    have hz9 := sdF_z N (g 17 f i) (g 18 f i) (g 15 f 0) (g 16 f 0) (g 12 f 0 1) i
    refine lv_if_eq (tgt := 25) hx hb d_F_isSoundWith_18 (by decide) (fun c_18 => ?_) (fun c_18 => ?_)
    · refine lv_iconst (v := 0) hx hb d_F_isSoundWith_25 (by decide) ?_
      exact hret _ _ _ d_F_isSoundWith_26 (by first | exact Or.inl rfl | exact Or.inr rfl) (by simp [swG, c_10, c_18])
    · refine lv_iconst (v := 1) hx hb d_F_isSoundWith_21 (by decide) ?_
      refine lv_goto (tgt := 26) hx hb d_F_isSoundWith_22 (by decide) ?_
      exact hret _ _ _ d_F_isSoundWith_26 (by first | exact Or.inl rfl | exact Or.inr rfl) (by rw [swG, if_pos c_10]; exact congrArg (fun z => some (Value.int z)) (hz9.resolve_left c_18).symm)
set_option maxHeartbeats 4000000 in
set_option maxRecDepth 100000 in
theorem c_C_shareAt (l : Launch) (D : va_G) (T : Nat → ClassId) (A : Nat → Prop) (M : xM) (ad : Nat → Nat → Nat → Nat) (K N : Nat) (g : gT) (hz : zB K N) (hG : gG T ad K N g M) (x : Int32) : Met l y_C_shareAt (Cond.code y_C_shareAt b_C_shareAt 4 (some .int) :: gw) (rmH 2) (xPc D T A M [.ref (ad 6 0 0), .int x]) (xR (fun r => r = some (.int (shG (g 7 0 0) (x + 1) 0 K)))) 0 0 (fun _ => False) := by
  refine xMetRi (by decide) (Nat.le_of_ble_eq_true rfl) ?_
  intro p e s m below meth c Q ls hB hP hl hret
  obtain ⟨hx, hb, hml, hown, hg, hK0, hnm⟩ := hB
  have hown : s.vm.findClass "ShareGrid$Coder" = some m.cls := hown
  have hK := hK0.1
  have hN := hK0.2.1
  obtain ⟨hz1, hz4, hzn, hz7⟩ := id hz
  have hl : lv_has ls 4 [(0, .ref (ad 6 0 0)), (1, .int x)] := hl
  refine lv_iconst (v := 0) hx hb d_C_shareAt_0 (by decide) ?_
  refine lv_istore_n (lv' := [(2, .int 0), (0, .ref (ad 6 0 0)), (1, .int x)]) hx hb d_C_shareAt_1 rfl hl (by decide) rfl (fun ls hl => ?_)
  refine lv_aload_n hx hb d_C_shareAt_2 rfl (lv_at hl 1 rfl) ?_
  refine x_get (v := .int (nI K)) (C := R_C) (T := F_C) (N := 3) hx hb hg i_C hown hK hP (ga_6 hG) rfl 0 (by decide) (hg _ w_96) (fun _ h9 => h9) rfl d_C_shareAt_3 ?_
  refine lv_iconst (v := nI 1) hx hb d_C_shareAt_6 (by decide) ?_
  refine lv_isub hx hb d_C_shareAt_7 ?_
  refine x_top (y := nI (K - 1)) (pk_sub (by omega)) ?_
  refine lv_istore_n (lv' := [(3, .int (nI (K - 1))), (2, .int 0), (0, .ref (ad 6 0 0)), (1, .int x)]) hx hb d_C_shareAt_8 rfl hl (by decide) rfl (fun ls hl => ?_)
  have loop : ∀ (j : Nat), j ≤ K → ∀ (ls : Array Slot), lv_has ls 4 [(0, .ref (ad 6 0 0)), (1, .int x), (2, .int (shG (g 7 0 0) (x + 1) j (K - j))), (3, .int (dnI j))] → W p l e (rmH 2) s m [.ref (ad 6 0 0), .int x].toArray below meth c s.heap [] 0 0 Q (F0 m 9 ls []) := by
    intro j
    induction j with
    | zero =>
      intro hj ls hl
      have hl : lv_has ls 4 [(0, .ref (ad 6 0 0)), (1, .int x), (2, .int (shG (g 7 0 0) (x + 1) (0) (K - (0)))), (3, .int (-1))] := hl
      refine lv_iload_n hx hb d_C_shareAt_9 rfl (lv_at hl 3 rfl) ?_
      refine lv_if_lt (tgt := 35) hx hb d_C_shareAt_10 (by decide) (fun c1 => ?_) (fun c1 => ?_)
      · refine lv_iload_n hx hb d_C_shareAt_35 rfl (lv_at hl 2 rfl) ?_
        exact hret _ _ _ d_C_shareAt_36 rfl
      · exact absurd (by decide) c1
    | succ j ih =>
      intro hj ls hl
      have hl : lv_has ls 4 [(0, .ref (ad 6 0 0)), (1, .int x), (2, .int (shG (g 7 0 0) (x + 1) (j + 1) (K - (j + 1)))), (3, .int (nI j))] := hl
      have hKj : K - j = (K - (j + 1)) + 1 := by omega
      refine lv_iload_n hx hb d_C_shareAt_9 rfl (lv_at hl 3 rfl) ?_
      refine lv_if_lt (tgt := 35) hx hb d_C_shareAt_10 (by decide) (fun c1 => ?_) (fun c1 => ?_)
      · exact absurd c1 (nI_pos (by omega))
      · refine lv_iload_n hx hb d_C_shareAt_13 rfl (lv_at hl 2 rfl) ?_
        refine lv_iload_n hx hb d_C_shareAt_14 rfl (lv_at hl 1 rfl) ?_
        refine xsn_R (n := 1) (As := [.int x]) (rest := [.int (shG (g 7 0 0) (x + 1) (j + 1) (K - (j + 1)))]) hx hb hml hown hg hK0 hP hN (c_G_pointOf l D T A M x) w_199 w_1 e_197 w_198 (by decide +kernel) ⟨Nat.le_of_ble_eq_true rfl, Nat.le_of_ble_eq_true rfl⟩ rfl hl.1 rfl (Nat.le_of_ble_eq_true rfl) ⟨Nat.zero_le _, Nat.zero_le _⟩ rfl rfl d_C_shareAt_15 (fun r hr => ?_)
        subst hr
        refine x_fr (pc := 18) [.int (x + 1), .int (shG (g 7 0 0) (x + 1) (j + 1) (K - (j + 1)))] rfl rfl ?_
        refine xsn_R (n := 2) (As := [.int (shG (g 7 0 0) (x + 1) (j + 1) (K - (j + 1))), .int (x + 1)]) (rest := []) hx hb hml hown hg hK0 hP hN (c_G_scaled l D T A M (shG (g 7 0 0) (x + 1) (j + 1) (K - (j + 1))) (x + 1)) w_202 w_1 e_200 w_201 (by decide +kernel) ⟨Nat.le_of_ble_eq_true rfl, Nat.le_of_ble_eq_true rfl⟩ rfl hl.1 rfl (Nat.le_of_ble_eq_true rfl) ⟨Nat.zero_le _, Nat.zero_le _⟩ rfl rfl d_C_shareAt_18 (fun r hr => ?_)
        subst hr
        refine x_fr (pc := 21) [.int (scF (shG (g 7 0 0) (x + 1) (j + 1) (K - (j + 1))) (x + 1))] rfl rfl ?_
        refine lv_aload_n hx hb d_C_shareAt_21 rfl (lv_at hl 0 rfl) ?_
        refine x_get (v := .ref (ad 7 0 0)) (C := R_C) (T := F_C) (N := 3) hx hb hg i_C hown hK hP (ga_6 hG) rfl 1 (by decide) (hg _ w_97) (fun _ h9 => h9) rfl d_C_shareAt_22 ?_
        refine lv_iload_n hx hb d_C_shareAt_25 rfl (lv_at hl 3 rfl) ?_
        refine x_iald (v := g 7 0 0 j) hx hb hK hP 0 (ga_7 hG) rfl (vp_in_nI (by omega) (by omega)) (by rw [nI_clamp (by omega)]) d_C_shareAt_26 ?_
        refine lv_ixor hx hb d_C_shareAt_27 ?_
        refine lv_istore_n (lv' := [(2, .int ((scF (shG (g 7 0 0) (x + 1) (j + 1) (K - (j + 1))) (x + 1)) ^^^ (g 7 0 0 j))), (0, .ref (ad 6 0 0)), (1, .int x), (3, .int (nI j))]) hx hb d_C_shareAt_28 rfl hl (by decide) rfl (fun ls hl => ?_)
        refine lv_iinc (v := dnI j) (lv' := [(3, .int (dnI j)), (2, .int ((scF (shG (g 7 0 0) (x + 1) (j + 1) (K - (j + 1))) (x + 1)) ^^^ (g 7 0 0 j))), (0, .ref (ad 6 0 0)), (1, .int x)]) hx hb d_C_shareAt_29 hl (k := 3) rfl (dnI_dec j) (by decide) rfl (fun ls hl => ?_)
        refine lv_goto (tgt := 9) hx hb d_C_shareAt_32 (by decide) ?_
        exact ih (by omega) ls (by rw [hKj, shG]; exact (lv_sub hl [2, 3, 1, 0] rfl))
  have hK1 : nI (K - 1) = dnI K := by
    obtain ⟨j, rfl⟩ : ∃ j, K = j + 1 := ⟨K - 1, by omega⟩
    rfl
  exact loop K (Nat.le_refl K) ls (by rw [Nat.sub_self, ← hK1]; exact (lv_sub hl [2, 3, 1, 0] rfl))
def gnF (g : gT) (q : Nat) (x : Int32) : Int32 := if inF x (nI q) = 0 then -1 else g 12 x.toNatClampNeg 0 1
/-- an index that passes the test -/
theorem inF_j {x : Int32} {n : Nat} (hn : n < 2 ^ 31) (h : ¬ inF x (nI n) = 0) : ∃ j : Nat, j < n ∧ x = nI j := by
  rcases pk_ix x hn with h1 | h1 | h1
  · exact absurd (by simp [inF, h1]) h
  · by_cases h0 : x < 0
    · exact absurd (by simp [inF, h0]) h
    · exact absurd (by simp [inF, h0, h1]) h
  · exact h1
set_option maxHeartbeats 4000000 in
set_option maxRecDepth 100000 in
theorem c_G_greatestNumber (l : Launch) (D : va_G) (T : Nat → ClassId) (A : Nat → Prop) (M : xM) (ad : Nat → Nat → Nat → Nat) (K N : Nat) (g : gT) (hz : zB K N) (hG : gG T ad K N g M) (q : Nat) (hq : g 0 0 0 0 = nI q) (hq6 : q ≤ 6) (x : Int32) : Met l y_G_greatestNumber (Cond.code y_G_greatestNumber b_G_greatestNumber 2 (some .int) :: gw) (rmH 1) (xPc D T A M [.ref (ad 0 0 0), .int x]) (xR (fun r => r = some (.int (gnF g q x)))) 0 0 (fun _ => False) := by
  refine xMetRi (by decide) (Nat.le_of_ble_eq_true rfl) ?_
  intro p e s m below meth c Q ls hB hP hl hret
  obtain ⟨hx, hb, hml, hown, hg, hK0, hnm⟩ := hB
  have hown : s.vm.findClass "ShareGrid" = some m.cls := hown
  have hK := hK0.1
  have hN := hK0.2.1
  obtain ⟨hz1, hz4, hzn, hz7⟩ := id hz
  have hl : lv_has ls 2 [(0, .ref (ad 0 0 0)), (1, .int x)] := hl
  refine lv_aload_n hx hb d_G_greatestNumber_0 rfl (lv_at hl 0 rfl) ?_
  refine lv_iload_n hx hb d_G_greatestNumber_1 rfl (lv_at hl 1 rfl) ?_
  refine xv_R (n := 1) (As := [.int x]) (rest := []) hx hb hml hown hg hK0 hP (c_G_isFile l D T A M ad K N g hz hG x) w_313 w_1 w_310 w_312 s_18 (ga_0 hG) rfl rfl (by decide +kernel) ⟨Nat.le_of_ble_eq_true rfl, Nat.le_of_ble_eq_true rfl⟩ rfl hl.1 rfl (Nat.le_of_ble_eq_true rfl) ⟨Nat.zero_le _, Nat.zero_le _⟩ rfl rfl d_G_greatestNumber_2 (fun r hr => ?_)
  subst hr
  refine x_fr (pc := 5) [.int (inF x (g 0 0 0 0))] rfl rfl ?_
  refine lv_if_eq (tgt := 20) hx hb d_G_greatestNumber_5 (by decide) (fun c_5 => ?_) (fun c_5 => ?_)
  · refine lv_iconst (v := (-1)) hx hb d_G_greatestNumber_20 (by decide) ?_
    exact hret _ _ _ d_G_greatestNumber_21 (by rw [gnF, if_pos (by rw [← hq]; exact c_5)])
  · rw [hq] at c_5
    obtain ⟨j, hj, rfl⟩ := inF_j (by omega) c_5
    refine lv_aload_n hx hb d_G_greatestNumber_8 rfl (lv_at hl 0 rfl) ?_
    refine x_get (v := .ref (ad 3 0 0)) (C := R_G) (T := F_G) (N := 12) hx hb hg i_G hown hK hP (ga_0 hG) rfl 4 (by decide) (hg _ w_114) (fun _ h9 => h9) rfl d_G_greatestNumber_9 ?_
    refine lv_iload_n hx hb d_G_greatestNumber_12 rfl (lv_at hl 1 rfl) ?_
    refine x_aldq (v := .ref (ad 12 j 0)) hx hb hK hP 3 (ga_3 hG) rfl (vp_in_nI (by omega) (by omega)) (by rw [nI_clamp (by omega)]; rfl) d_G_greatestNumber_13 ?_
    refine x_getN (v := .int (g 12 j 0 1)) (C := R_F) (T := F_F) (N := 6) hx hb hg i_F hown hK hP (ga_12 hG (show j < 6 by omega)) rfl 5 (by decide) (va_Nw.use rfl (hN _ e_76)) (fun _ h9 => h9) rfl d_G_greatestNumber_14 ?_
    refine lv_goto (tgt := 21) hx hb d_G_greatestNumber_17 (by decide) ?_
    exact hret _ _ _ d_G_greatestNumber_21 (by rw [gnF, if_neg c_5, nI_clamp (by omega)])
