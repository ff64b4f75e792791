/-! THE CLAIM OUT OF ONE WALK OF THE LAW'S BODY. Your part is whole_start (and what it stands on); all else here is the same for every law, but numbers. -/
def R_law : String := "ShareGridLaw"
def lw_P (b : Addr) (xs : List Int32) (args : Array Value) (s : State) : Prop := args = #[.ref b] ∧ s.IntsAt b xs ∧ xs.length ≤ 2562 ∧ (Jvm.Cond.and given_1 narrow_1).before args s = true
def lw_Q (_ : Array Value) (s : State) (o : Outcome) (t : State) : Prop := o = .returned (some (.int 1)) ∧ Framed s o t [] 600000 7302250
def lw_Z (below : List Frame) (a : Array Value) (s : State) : State → Prop := fun t => ∃ o, t.status = .running ∧ Ended t below o ∧ lw_Q a s o t
/-- the law's own end, with 1 on the stack, nothing written that was there before, its room as the claim has it -/
theorem lw_ret {p : Program} {l : Launch} {e : Env} {s : State} {m : MethodId} {below : List Frame} {meth : Method} {c : Code} {b : Nat} (hx : p.tables.exec = Jvm.exec) (hb : c.code = code) (hr : meth.sig.returnType = ret) (hlocks : meth.locks = false) {pc : Nat} {H : Heap} {ls : Array Slot} (hdg : decode code pc = .ok (.ireturn, 1)) : W p l e room_1 s m #[Value.ref b] below meth c H [] 600000 7302250 (lw_Z below #[Value.ref b] s) (F0 m pc ls [.int 1]) := by
  intro T hT X
  obtain ⟨fs, hret, hrun, hended, hW, hframe⟩ := X.leave (v := some (.int 1)) (hlocks := hlocks) (fun h => by rw [hr] at h; cases h)
  have hmeth' : T.vm.method? m = some meth := X.method'
  refine ⟨T.setFrames fs, ?_, .returned (some (.int 1)), hrun, hended, rfl, ⟨_, rfl⟩, hW, hframe⟩
  jvm_step X.here [X.here.top, hx, hb, hdg, hmeth', hr, ret, narrow_b1]
  (try refine ⟨rfl, ?_⟩); (try refine ⟨rfl, ?_⟩)
  first | (intro acts; rw [hret _ acts rfl rfl rfl]) | rw [hret _ _ rfl rfl rfl]
  exact Steps.refl _
/-- what holds at the law's entry: the machine, the code, the tables' words (any of lw_tbl by 'hts w (by decide +kernel)'), the script of L ints xs at the cell b, what the Statement gives of the start (any of its parts by flat_of_before) -/
def lw_At (p : Program) (s : State) (m : MethodId) (meth : Method) (c : Code) (b L : Nat) (xs : Nat → Int32) : Prop :=
  p.tables.exec = Jvm.exec ∧ c.code = code ∧ meth.sig.returnType = ret ∧ c.maxLocals = 4 ∧ s.vm.findClass R_law = some m.cls ∧ (∀ w ∈ lw_tbl, w.before #[Value.ref b] s = true) ∧ va_X b L xs s s.heap ∧ b < s.heap.size ∧ meth.locks = false ∧ (Jvm.Cond.and given_1 narrow_1).before #[Value.ref b] s = true
abbrev lA (s : State) : Nat → Prop := fun q => s.heap.size ≤ q
/-- the class's memory and the reference's, one behind the other, tied together -/
def lI (D : va_G) (T : Nat → ClassId) (s : State) (ad : Nat → Nat → Nat → Nat) (bd : Nat → Nat) (K N : Nat) (Mx : xM) (Hx : Heap) (Lx : List Loc) : Prop := ∃ (g : gT) (q : qT) (c0 : Nat) (w : Nat → Nat), xW D classes (lA s) Mx Hx ∧ va_S (lA s) s.heap Hx Lx ∧ gG T ad K N g Mx ∧ mG T bd K N q Mx ∧ sM K N g q ∧ iG N g c0 w
def lC (p : Program) (l : Launch) (e : Env) (s : State) (m : MethodId) (below : List Frame) (meth : Method) (c : Code) (b : Nat) (D : va_G) (T : Nat → ClassId) (ad : Nat → Nat → Nat → Nat) (bd : Nat → Nat) (K N i pc : Nat) : Prop := ∀ (Mx : xM) (Hx : Heap) (Lx : List Loc), lI D T s ad bd K N Mx Hx Lx → ∀ (ls : Array Slot), lv_has ls 4 [(0, .ref b), (1, .ref (ad 0 0 0)), (2, .ref (bd 0)), (3, .int (nI i))] → W p l e room_1 s m #[Value.ref b] below meth c Hx Lx 224 2965 (lw_Z below #[Value.ref b] s) (F0 m pc ls [])
theorem lg_cmp_s (x : Int64) : lg_cmp x x = 0 := by simp [lg_cmp]
set_option maxHeartbeats 4000000 in
set_option maxRecDepth 100000 in
theorem lc_key {p : Program} {l : Launch} {e : Env} {s : State} {m : MethodId} {below : List Frame} {meth : Method} {c : Code} {b L : Nat} {xs : Nat → Int32} {D : va_G} {T : Nat → ClassId} {ad : Nat → Nat → Nat → Nat} {bd : Nat → Nat} {K N i : Nat} (hL : L ≤ 2562) (C0 : lw_At p s m meth c b L xs) (hK0 : xK D T s) (hz : zB K N) (hd : dA ad bd N) (hi : i + 5 ≤ L) (kk : lC p l e s m below meth c b D T ad bd K N i 691) : lC p l e s m below meth c b D T ad bd K N i 136 := by
  intro Mx Hx Lx hI0 ls hl
  obtain ⟨g, q, c0, w, hP, hS, hG, hM, hs, hI⟩ := hI0
  obtain ⟨hx, hb, -, hml, hown, hts, hX, hbl, -, -⟩ := id C0
  have hown : s.vm.findClass "ShareGridLaw" = some m.cls := hown
  have hg : ∀ w ∈ gw, w.before #[Value.ref b] s = true := fun w hw => hts w (List.mem_filter.mp hw).1
  have hbA : ¬ lA s b := Nat.not_le.mpr hbl
  refine lv_aload_n hx hb d_L_law_136 rfl (lv_at hl 1 rfl) ?_
  refine lv_aload_n hx hb d_L_law_137 rfl (lv_at hl 0 rfl) ?_
  refine lv_iload_n hx hb d_L_law_138 rfl (lv_at hl 3 rfl) ?_
  refine lv_iconst (v := nI 1) hx hb d_L_law_139 (by decide) ?_
  refine lv_iadd hx hb d_L_law_140 ?_
  refine x_top (y := nI (i + 1)) (nI_add _ _) ?_
  refine va_sld hx hb hX hbl hbA hS (vp_in_nI (by omega) (by omega)) d_L_law_141 ?_
  refine x_top (y := xs (i + 1)) (by rw [nI_clamp (by omega)]) ?_
  refine lv_aload_n hx hb d_L_law_142 rfl (lv_at hl 0 rfl) ?_
  refine lv_iload_n hx hb d_L_law_143 rfl (lv_at hl 3 rfl) ?_
  refine lv_iconst (v := nI 2) hx hb d_L_law_144 (by decide) ?_
  refine lv_iadd hx hb d_L_law_145 ?_
  refine x_top (y := nI (i + 2)) (nI_add _ _) ?_
  refine va_sld hx hb hX hbl hbA hS (vp_in_nI (by omega) (by omega)) d_L_law_146 ?_
  refine x_top (y := xs (i + 2)) (by rw [nI_clamp (by omega)]) ?_
  refine xv_R (n := 2) (As := [.int (xs (i + 1)), .int (xs (i + 2))]) (rest := []) hx hb hml hown hg hK0 hP (c_G_key l D T (lA s) _ ad K N g hz hG (xs (i + 1)) (xs (i + 2))) w_150 w_1 w_147 w_148 w_149 (ga_0 hG) rfl rfl (by decide +kernel) ⟨Nat.le_of_ble_eq_true rfl, Nat.le_of_ble_eq_true rfl⟩ rfl hl.1 rfl (Nat.le_of_ble_eq_true rfl) ⟨Nat.le_of_ble_eq_true rfl, Nat.le_of_ble_eq_true rfl⟩ rfl rfl d_L_law_147 (fun r hr => ?_)
  subst hr
  refine x_fr (pc := 150) [.int (aKey (xs (i + 1)) (xs (i + 2)))] rfl rfl ?_
  refine lv_aload_n hx hb d_L_law_150 rfl (lv_at hl 2 rfl) ?_
  refine lv_aload_n hx hb d_L_law_151 rfl (lv_at hl 0 rfl) ?_
  refine lv_iload_n hx hb d_L_law_152 rfl (lv_at hl 3 rfl) ?_
  refine lv_iconst (v := nI 1) hx hb d_L_law_153 (by decide) ?_
  refine lv_iadd hx hb d_L_law_154 ?_
  refine x_top (y := nI (i + 1)) (nI_add _ _) ?_
  refine va_sld hx hb hX hbl hbA hS (vp_in_nI (by omega) (by omega)) d_L_law_155 ?_
  refine x_top (y := xs (i + 1)) (by rw [nI_clamp (by omega)]) ?_
  refine lv_aload_n hx hb d_L_law_156 rfl (lv_at hl 0 rfl) ?_
  refine lv_iload_n hx hb d_L_law_157 rfl (lv_at hl 3 rfl) ?_
  refine lv_iconst (v := nI 2) hx hb d_L_law_158 (by decide) ?_
  refine lv_iadd hx hb d_L_law_159 ?_
  refine x_top (y := nI (i + 2)) (nI_add _ _) ?_
  refine va_sld hx hb hX hbl hbA hS (vp_in_nI (by omega) (by omega)) d_L_law_160 ?_
  refine x_top (y := xs (i + 2)) (by rw [nI_clamp (by omega)]) ?_
  refine xv_R (n := 2) (As := [.int (xs (i + 1)), .int (xs (i + 2))]) (rest := [.int (aKey (xs (i + 1)) (xs (i + 2)))]) hx hb hml hown hg hK0 hP (c_M_key l D T (lA s) _ bd K N q hz hM (xs (i + 1)) (xs (i + 2))) w_409 w_6 w_406 w_407 w_408 (ma_0 hM) rfl rfl (by decide +kernel) ⟨Nat.le_of_ble_eq_true rfl, Nat.le_of_ble_eq_true rfl⟩ rfl hl.1 rfl (Nat.le_of_ble_eq_true rfl) ⟨Nat.le_of_ble_eq_true rfl, Nat.le_of_ble_eq_true rfl⟩ rfl rfl d_L_law_161 (fun r hr => ?_)
  subst hr
  refine x_fr (pc := 164) [.int (aKey (xs (i + 1)) (xs (i + 2))), .int (aKey (xs (i + 1)) (xs (i + 2)))] rfl rfl ?_
  refine lv_icmp_eq (tgt := 691) hx hb d_L_law_164 (by decide) (fun c_164 => ?_) (fun c_164 => ?_)
  · exact kk _ _ _ ⟨_, _, _, _, hP, hS, hG, hM, hs, hI⟩ ls hl
  · exact absurd rfl c_164
set_option maxHeartbeats 4000000 in
set_option maxRecDepth 100000 in
theorem lc_create {p : Program} {l : Launch} {e : Env} {s : State} {m : MethodId} {below : List Frame} {meth : Method} {c : Code} {b L : Nat} {xs : Nat → Int32} {D : va_G} {T : Nat → ClassId} {ad : Nat → Nat → Nat → Nat} {bd : Nat → Nat} {K N i : Nat} (hL : L ≤ 2562) (C0 : lw_At p s m meth c b L xs) (hK0 : xK D T s) (hz : zB K N) (hd : dA ad bd N) (hi : i + 5 ≤ L) (kk : lC p l e s m below meth c b D T ad bd K N i 691) : lC p l e s m below meth c b D T ad bd K N i 169 := by
  intro Mx Hx Lx hI0 ls hl
  obtain ⟨g, q, c0, w, hP, hS, hG, hM, hs, hI⟩ := hI0
  obtain ⟨hx, hb, -, hml, hown, hts, hX, hbl, -, -⟩ := id C0
  have hown : s.vm.findClass "ShareGridLaw" = some m.cls := hown
  have hg : ∀ w ∈ gw, w.before #[Value.ref b] s = true := fun w hw => hts w (List.mem_filter.mp hw).1
  have hbA : ¬ lA s b := Nat.not_le.mpr hbl
  refine lv_aload_n hx hb d_L_law_169 rfl (lv_at hl 1 rfl) ?_
  refine lv_aload_n hx hb d_L_law_170 rfl (lv_at hl 0 rfl) ?_
  refine lv_iload_n hx hb d_L_law_171 rfl (lv_at hl 3 rfl) ?_
  refine lv_iconst (v := nI 1) hx hb d_L_law_172 (by decide) ?_
  refine lv_iadd hx hb d_L_law_173 ?_
  refine x_top (y := nI (i + 1)) (nI_add _ _) ?_
  refine va_sld hx hb hX hbl hbA hS (vp_in_nI (by omega) (by omega)) d_L_law_174 ?_
  refine x_top (y := xs (i + 1)) (by rw [nI_clamp (by omega)]) ?_
  refine xv_Q (n := 1) (As := [.int (xs (i + 1))]) (rest := []) hx hb hml hown hg hK0 hP (c_G_create l D T (lA s) _ ad K N g hz hG c0 hI.1 hI.2.1 (xs (i + 1))) w_165 w_1 w_162 w_163 w_164 (ga_0 hG) rfl rfl (by decide +kernel) ⟨Nat.le_of_ble_eq_true rfl, Nat.le_of_ble_eq_true rfl⟩ rfl hl.1 rfl (Nat.le_of_ble_eq_true rfl) hS ⟨Nat.le_of_ble_eq_true rfl, Nat.le_of_ble_eq_true rfl⟩ rfl rfl d_L_law_175 (fun r M1 H_449 L_450 hr hP hS => ?_)
  obtain ⟨rfl, hR⟩ := hr
  have hM := mG_kept hM hd hR
  have hG1 := hR.1
  refine x_fr (pc := 178) [.int ((aCreate g c0 (xs (i + 1))).1)] rfl rfl ?_
  refine lv_aload_n hx hb d_L_law_178 rfl (lv_at hl 2 rfl) ?_
  refine lv_aload_n hx hb d_L_law_179 rfl (lv_at hl 0 rfl) ?_
  refine lv_iload_n hx hb d_L_law_180 rfl (lv_at hl 3 rfl) ?_
  refine lv_iconst (v := nI 1) hx hb d_L_law_181 (by decide) ?_
  refine lv_iadd hx hb d_L_law_182 ?_
  refine x_top (y := nI (i + 1)) (nI_add _ _) ?_
  refine va_sld hx hb hX hbl hbA hS (vp_in_nI (by omega) (by omega)) d_L_law_183 ?_
  refine x_top (y := xs (i + 1)) (by rw [nI_clamp (by omega)]) ?_
  refine xv_Q (n := 1) (As := [.int (xs (i + 1))]) (rest := [.int ((aCreate g c0 (xs (i + 1))).1)]) hx hb hml hown hg hK0 hP (c_M_create l D T (lA s) _ bd K N q hz hM g hs c0 w hI (xs (i + 1))) w_419 w_6 w_416 w_417 w_418 (ma_0 hM) rfl rfl (by decide +kernel) ⟨Nat.le_of_ble_eq_true rfl, Nat.le_of_ble_eq_true rfl⟩ rfl hl.1 rfl (Nat.le_of_ble_eq_true rfl) hS ⟨Nat.le_of_ble_eq_true rfl, Nat.le_of_ble_eq_true rfl⟩ rfl rfl d_L_law_184 (fun r M1 H_451 L_452 hr hP hS => ?_)
  obtain ⟨rfl, q1, hR, hs1⟩ := hr
  have hG := gG_kept hG1 hd hR
  have hM := hR.1
  refine x_fr (pc := 187) [.int ((aCreate g c0 (xs (i + 1))).1), .int ((aCreate g c0 (xs (i + 1))).1)] rfl rfl ?_
  refine lv_icmp_eq (tgt := 691) hx hb d_L_law_187 (by decide) (fun c_187 => ?_) (fun c_187 => ?_)
  · obtain ⟨c1, hI1⟩ := iG_create hI (xs (i + 1))
    exact kk _ _ _ ⟨_, _, _, _, hP, hS, hG, hM, hs1, hI1⟩ ls hl
  · exact absurd rfl c_187
set_option maxHeartbeats 4000000 in
set_option maxRecDepth 100000 in
theorem lc_draft {p : Program} {l : Launch} {e : Env} {s : State} {m : MethodId} {below : List Frame} {meth : Method} {c : Code} {b L : Nat} {xs : Nat → Int32} {D : va_G} {T : Nat → ClassId} {ad : Nat → Nat → Nat → Nat} {bd : Nat → Nat} {K N i : Nat} (hL : L ≤ 2562) (C0 : lw_At p s m meth c b L xs) (hK0 : xK D T s) (hz : zB K N) (hd : dA ad bd N) (hi : i + 5 ≤ L) (kk : lC p l e s m below meth c b D T ad bd K N i 691) : lC p l e s m below meth c b D T ad bd K N i 192 := by
  intro Mx Hx Lx hI0 ls hl
  obtain ⟨g, q, c0, w, hP, hS, hG, hM, hs, hI⟩ := hI0
  obtain ⟨hx, hb, -, hml, hown, hts, hX, hbl, -, -⟩ := id C0
  have hown : s.vm.findClass "ShareGridLaw" = some m.cls := hown
  have hg : ∀ w ∈ gw, w.before #[Value.ref b] s = true := fun w hw => hts w (List.mem_filter.mp hw).1
  have hbA : ¬ lA s b := Nat.not_le.mpr hbl
  refine lv_aload_n hx hb d_L_law_192 rfl (lv_at hl 1 rfl) ?_
  refine lv_aload_n hx hb d_L_law_193 rfl (lv_at hl 0 rfl) ?_
  refine lv_iload_n hx hb d_L_law_194 rfl (lv_at hl 3 rfl) ?_
  refine lv_iconst (v := nI 1) hx hb d_L_law_195 (by decide) ?_
  refine lv_iadd hx hb d_L_law_196 ?_
  refine x_top (y := nI (i + 1)) (nI_add _ _) ?_
  refine va_sld hx hb hX hbl hbA hS (vp_in_nI (by omega) (by omega)) d_L_law_197 ?_
  refine x_top (y := xs (i + 1)) (by rw [nI_clamp (by omega)]) ?_
  refine lv_aload_n hx hb d_L_law_198 rfl (lv_at hl 0 rfl) ?_
  refine lv_iload_n hx hb d_L_law_199 rfl (lv_at hl 3 rfl) ?_
  refine lv_iconst (v := nI 2) hx hb d_L_law_200 (by decide) ?_
  refine lv_iadd hx hb d_L_law_201 ?_
  refine x_top (y := nI (i + 2)) (nI_add _ _) ?_
  refine va_sld hx hb hX hbl hbA hS (vp_in_nI (by omega) (by omega)) d_L_law_202 ?_
  refine x_top (y := xs (i + 2)) (by rw [nI_clamp (by omega)]) ?_
  refine xv_Q (n := 2) (As := [.int (xs (i + 1)), .int (xs (i + 2))]) (rest := []) hx hb hml hown hg hK0 hP (c_G_draft l D T (lA s) _ ad K N g hz hG (xs (i + 1)) (xs (i + 2))) w_173 w_1 w_170 w_171 w_172 (ga_0 hG) rfl rfl (by decide +kernel) ⟨Nat.le_of_ble_eq_true rfl, Nat.le_of_ble_eq_true rfl⟩ rfl hl.1 rfl (Nat.le_of_ble_eq_true rfl) hS ⟨Nat.le_of_ble_eq_true rfl, Nat.le_of_ble_eq_true rfl⟩ rfl rfl d_L_law_203 (fun r M1 H_453 L_454 hr hP hS => ?_)
  obtain ⟨rfl, hR⟩ := hr
  have hM := mG_kept hM hd hR
  have hG1 := hR.1
  refine x_fr (pc := 206) [.int ((aDraft K g (xs (i + 1)) (xs (i + 2))).1)] rfl rfl ?_
  refine lv_aload_n hx hb d_L_law_206 rfl (lv_at hl 2 rfl) ?_
  refine lv_aload_n hx hb d_L_law_207 rfl (lv_at hl 0 rfl) ?_
  refine lv_iload_n hx hb d_L_law_208 rfl (lv_at hl 3 rfl) ?_
  refine lv_iconst (v := nI 1) hx hb d_L_law_209 (by decide) ?_
  refine lv_iadd hx hb d_L_law_210 ?_
  refine x_top (y := nI (i + 1)) (nI_add _ _) ?_
  refine va_sld hx hb hX hbl hbA hS (vp_in_nI (by omega) (by omega)) d_L_law_211 ?_
  refine x_top (y := xs (i + 1)) (by rw [nI_clamp (by omega)]) ?_
  refine lv_aload_n hx hb d_L_law_212 rfl (lv_at hl 0 rfl) ?_
  refine lv_iload_n hx hb d_L_law_213 rfl (lv_at hl 3 rfl) ?_
  refine lv_iconst (v := nI 2) hx hb d_L_law_214 (by decide) ?_
  refine lv_iadd hx hb d_L_law_215 ?_
  refine x_top (y := nI (i + 2)) (nI_add _ _) ?_
  refine va_sld hx hb hX hbl hbA hS (vp_in_nI (by omega) (by omega)) d_L_law_216 ?_
  refine x_top (y := xs (i + 2)) (by rw [nI_clamp (by omega)]) ?_
  refine xv_Q (n := 2) (As := [.int (xs (i + 1)), .int (xs (i + 2))]) (rest := [.int ((aDraft K g (xs (i + 1)) (xs (i + 2))).1)]) hx hb hml hown hg hK0 hP (c_M_draft l D T (lA s) _ bd K N q hz hM g hs c0 w hI (xs (i + 1)) (xs (i + 2))) w_428 w_6 w_425 w_426 w_427 (ma_0 hM) rfl rfl (by decide +kernel) ⟨Nat.le_of_ble_eq_true rfl, Nat.le_of_ble_eq_true rfl⟩ rfl hl.1 rfl (Nat.le_of_ble_eq_true rfl) hS ⟨Nat.le_of_ble_eq_true rfl, Nat.le_of_ble_eq_true rfl⟩ rfl rfl d_L_law_217 (fun r M1 H_455 L_456 hr hP hS => ?_)
  obtain ⟨rfl, q1, hR, hs1⟩ := hr
  have hG := gG_kept hG1 hd hR
  have hM := hR.1
  refine x_fr (pc := 220) [.int ((aDraft K g (xs (i + 1)) (xs (i + 2))).1), .int ((aDraft K g (xs (i + 1)) (xs (i + 2))).1)] rfl rfl ?_
  refine lv_icmp_eq (tgt := 691) hx hb d_L_law_220 (by decide) (fun c_220 => ?_) (fun c_220 => ?_)
  · exact kk _ _ _ ⟨_, _, _, _, hP, hS, hG, hM, hs1, (iG_draft hI _ _)⟩ ls hl
  · exact absurd rfl c_220
set_option maxHeartbeats 4000000 in
set_option maxRecDepth 100000 in
theorem lc_write {p : Program} {l : Launch} {e : Env} {s : State} {m : MethodId} {below : List Frame} {meth : Method} {c : Code} {b L : Nat} {xs : Nat → Int32} {D : va_G} {T : Nat → ClassId} {ad : Nat → Nat → Nat → Nat} {bd : Nat → Nat} {K N i : Nat} (hL : L ≤ 2562) (C0 : lw_At p s m meth c b L xs) (hK0 : xK D T s) (hz : zB K N) (hd : dA ad bd N) (hi : i + 5 ≤ L) (kk : lC p l e s m below meth c b D T ad bd K N i 691) : lC p l e s m below meth c b D T ad bd K N i 225 := by
  intro Mx Hx Lx hI0 ls hl
  obtain ⟨g, q, c0, w, hP, hS, hG, hM, hs, hI⟩ := hI0
  obtain ⟨hx, hb, -, hml, hown, hts, hX, hbl, -, -⟩ := id C0
  have hown : s.vm.findClass "ShareGridLaw" = some m.cls := hown
  have hg : ∀ w ∈ gw, w.before #[Value.ref b] s = true := fun w hw => hts w (List.mem_filter.mp hw).1
  have hbA : ¬ lA s b := Nat.not_le.mpr hbl
  refine lv_aload_n hx hb d_L_law_225 rfl (lv_at hl 1 rfl) ?_
  refine lv_aload_n hx hb d_L_law_226 rfl (lv_at hl 0 rfl) ?_
  refine lv_iload_n hx hb d_L_law_227 rfl (lv_at hl 3 rfl) ?_
  refine lv_iconst (v := nI 1) hx hb d_L_law_228 (by decide) ?_
  refine lv_iadd hx hb d_L_law_229 ?_
  refine x_top (y := nI (i + 1)) (nI_add _ _) ?_
  refine va_sld hx hb hX hbl hbA hS (vp_in_nI (by omega) (by omega)) d_L_law_230 ?_
  refine x_top (y := xs (i + 1)) (by rw [nI_clamp (by omega)]) ?_
  refine xv_Q (n := 1) (As := [.int (xs (i + 1))]) (rest := []) hx hb hml hown hg hK0 hP (c_G_write l D T (lA s) _ ad K N g hz hG c0 w hI (xs (i + 1))) w_181 w_1 w_178 w_179 w_180 (ga_0 hG) rfl rfl (by decide +kernel) ⟨Nat.le_of_ble_eq_true rfl, Nat.le_of_ble_eq_true rfl⟩ rfl hl.1 rfl (Nat.le_of_ble_eq_true rfl) hS ⟨Nat.le_of_ble_eq_true rfl, Nat.le_of_ble_eq_true rfl⟩ rfl rfl d_L_law_231 (fun r M1 H_457 L_458 hr hP hS => ?_)
  obtain ⟨g1, rfl, hR, hst⟩ := hr
  have hM := mG_kept hM hd hR
  have hG1 := hR.1
  refine x_fr (pc := 234) [.int (aWrite K N g c0 w (xs (i + 1)))] rfl rfl ?_
  refine lv_aload_n hx hb d_L_law_234 rfl (lv_at hl 2 rfl) ?_
  refine lv_aload_n hx hb d_L_law_235 rfl (lv_at hl 0 rfl) ?_
  refine lv_iload_n hx hb d_L_law_236 rfl (lv_at hl 3 rfl) ?_
  refine lv_iconst (v := nI 1) hx hb d_L_law_237 (by decide) ?_
  refine lv_iadd hx hb d_L_law_238 ?_
  refine x_top (y := nI (i + 1)) (nI_add _ _) ?_
  refine va_sld hx hb hX hbl hbA hS (vp_in_nI (by omega) (by omega)) d_L_law_239 ?_
  refine x_top (y := xs (i + 1)) (by rw [nI_clamp (by omega)]) ?_
  refine xv_Q (n := 1) (As := [.int (xs (i + 1))]) (rest := [.int (aWrite K N g c0 w (xs (i + 1)))]) hx hb hml hown hg hK0 hP (c_M_write l D T (lA s) _ bd K N q hz hM g hs c0 w hI (xs (i + 1)) g1 hst) w_432 w_6 w_429 w_430 w_431 (ma_0 hM) rfl rfl (by decide +kernel) ⟨Nat.le_of_ble_eq_true rfl, Nat.le_of_ble_eq_true rfl⟩ rfl hl.1 rfl (Nat.le_of_ble_eq_true rfl) hS ⟨Nat.le_of_ble_eq_true rfl, Nat.le_of_ble_eq_true rfl⟩ rfl rfl d_L_law_240 (fun r M1 H_459 L_460 hr hP hS => ?_)
  obtain ⟨rfl, q1, hR, hs1⟩ := hr
  have hG := gG_kept hG1 hd hR
  have hM := hR.1
  refine x_fr (pc := 243) [.int (aWrite K N g c0 w (xs (i + 1))), .int (aWrite K N g c0 w (xs (i + 1)))] rfl rfl ?_
  refine lv_icmp_eq (tgt := 691) hx hb d_L_law_243 (by decide) (fun c_243 => ?_) (fun c_243 => ?_)
  · obtain ⟨w1, hI1⟩ := iG_write hI hst
    exact kk _ _ _ ⟨_, _, _, _, hP, hS, hG, hM, hs1, hI1⟩ ls hl
  · exact absurd rfl c_243
set_option maxHeartbeats 4000000 in
set_option maxRecDepth 100000 in
theorem lc_read {p : Program} {l : Launch} {e : Env} {s : State} {m : MethodId} {below : List Frame} {meth : Method} {c : Code} {b L : Nat} {xs : Nat → Int32} {D : va_G} {T : Nat → ClassId} {ad : Nat → Nat → Nat → Nat} {bd : Nat → Nat} {K N i : Nat} (hL : L ≤ 2562) (C0 : lw_At p s m meth c b L xs) (hK0 : xK D T s) (hz : zB K N) (hd : dA ad bd N) (hi : i + 5 ≤ L) (kk : lC p l e s m below meth c b D T ad bd K N i 691) : lC p l e s m below meth c b D T ad bd K N i 248 := by
  intro Mx Hx Lx hI0 ls hl
  obtain ⟨g, q, c0, w, hP, hS, hG, hM, hs, hI⟩ := hI0
  obtain ⟨hx, hb, -, hml, hown, hts, hX, hbl, -, -⟩ := id C0
  have hown : s.vm.findClass "ShareGridLaw" = some m.cls := hown
  have hg : ∀ w ∈ gw, w.before #[Value.ref b] s = true := fun w hw => hts w (List.mem_filter.mp hw).1
  have hbA : ¬ lA s b := Nat.not_le.mpr hbl
  refine lv_aload_n hx hb d_L_law_248 rfl (lv_at hl 1 rfl) ?_
  refine lv_aload_n hx hb d_L_law_249 rfl (lv_at hl 0 rfl) ?_
  refine lv_iload_n hx hb d_L_law_250 rfl (lv_at hl 3 rfl) ?_
  refine lv_iconst (v := nI 1) hx hb d_L_law_251 (by decide) ?_
  refine lv_iadd hx hb d_L_law_252 ?_
  refine x_top (y := nI (i + 1)) (nI_add _ _) ?_
  refine va_sld hx hb hX hbl hbA hS (vp_in_nI (by omega) (by omega)) d_L_law_253 ?_
  refine x_top (y := xs (i + 1)) (by rw [nI_clamp (by omega)]) ?_
  refine xv_Q (n := 1) (As := [.int (xs (i + 1))]) (rest := []) hx hb hml hown hg hK0 hP (c_G_read l D T (lA s) _ ad K N g hz hG c0 w hI (xs (i + 1))) w_238 w_1 w_235 w_236 w_237 (ga_0 hG) rfl rfl (by decide +kernel) ⟨Nat.le_of_ble_eq_true rfl, Nat.le_of_ble_eq_true rfl⟩ rfl hl.1 rfl (Nat.le_of_ble_eq_true rfl) hS ⟨Nat.le_of_ble_eq_true rfl, Nat.le_of_ble_eq_true rfl⟩ rfl rfl d_L_law_254 (fun r M1 H_461 L_462 hr hP hS => ?_)
  obtain ⟨g1, rfl, hR, hst⟩ := hr
  have hM := mG_kept hM hd hR
  have hG1 := hR.1
  refine x_fr (pc := 257) [.int (aRead K N g c0 (xs (i + 1)))] rfl rfl ?_
  refine lv_aload_n hx hb d_L_law_257 rfl (lv_at hl 2 rfl) ?_
  refine lv_aload_n hx hb d_L_law_258 rfl (lv_at hl 0 rfl) ?_
  refine lv_iload_n hx hb d_L_law_259 rfl (lv_at hl 3 rfl) ?_
  refine lv_iconst (v := nI 1) hx hb d_L_law_260 (by decide) ?_
  refine lv_iadd hx hb d_L_law_261 ?_
  refine x_top (y := nI (i + 1)) (nI_add _ _) ?_
  refine va_sld hx hb hX hbl hbA hS (vp_in_nI (by omega) (by omega)) d_L_law_262 ?_
  refine x_top (y := xs (i + 1)) (by rw [nI_clamp (by omega)]) ?_
  refine xv_Q (n := 1) (As := [.int (xs (i + 1))]) (rest := [.int (aRead K N g c0 (xs (i + 1)))]) hx hb hml hown hg hK0 hP (c_M_read l D T (lA s) _ bd K N q hz hM g hs c0 w hI (xs (i + 1)) g1 hst) w_460 w_6 w_457 w_458 w_459 (ma_0 hM) rfl rfl (by decide +kernel) ⟨Nat.le_of_ble_eq_true rfl, Nat.le_of_ble_eq_true rfl⟩ rfl hl.1 rfl (Nat.le_of_ble_eq_true rfl) hS ⟨Nat.le_of_ble_eq_true rfl, Nat.le_of_ble_eq_true rfl⟩ rfl rfl d_L_law_263 (fun r M1 H_463 L_464 hr hP hS => ?_)
  obtain ⟨rfl, q1, hR, hs1⟩ := hr
  have hG := gG_kept hG1 hd hR
  have hM := hR.1
  refine x_fr (pc := 266) [.int (aRead K N g c0 (xs (i + 1))), .int (aRead K N g c0 (xs (i + 1)))] rfl rfl ?_
  refine lv_icmp_eq (tgt := 691) hx hb d_L_law_266 (by decide) (fun c_266 => ?_) (fun c_266 => ?_)
  · exact kk _ _ _ ⟨_, _, _, _, hP, hS, hG, hM, hs1, (iG_read hI hst)⟩ ls hl
  · exact absurd rfl c_266
set_option maxHeartbeats 4000000 in
set_option maxRecDepth 100000 in
theorem lc_word {p : Program} {l : Launch} {e : Env} {s : State} {m : MethodId} {below : List Frame} {meth : Method} {c : Code} {b L : Nat} {xs : Nat → Int32} {D : va_G} {T : Nat → ClassId} {ad : Nat → Nat → Nat → Nat} {bd : Nat → Nat} {K N i : Nat} (hL : L ≤ 2562) (C0 : lw_At p s m meth c b L xs) (hK0 : xK D T s) (hz : zB K N) (hd : dA ad bd N) (hi : i + 5 ≤ L) (kk : lC p l e s m below meth c b D T ad bd K N i 691) : lC p l e s m below meth c b D T ad bd K N i 271 := by
  intro Mx Hx Lx hI0 ls hl
  obtain ⟨g, q, c0, w, hP, hS, hG, hM, hs, hI⟩ := hI0
  obtain ⟨hx, hb, -, hml, hown, hts, hX, hbl, -, -⟩ := id C0
  have hown : s.vm.findClass "ShareGridLaw" = some m.cls := hown
  have hg : ∀ w ∈ gw, w.before #[Value.ref b] s = true := fun w hw => hts w (List.mem_filter.mp hw).1
  have hbA : ¬ lA s b := Nat.not_le.mpr hbl
  refine lv_aload_n hx hb d_L_law_271 rfl (lv_at hl 1 rfl) ?_
  refine lv_aload_n hx hb d_L_law_272 rfl (lv_at hl 0 rfl) ?_
  refine lv_iload_n hx hb d_L_law_273 rfl (lv_at hl 3 rfl) ?_
  refine lv_iconst (v := nI 1) hx hb d_L_law_274 (by decide) ?_
  refine lv_iadd hx hb d_L_law_275 ?_
  refine x_top (y := nI (i + 1)) (nI_add _ _) ?_
  refine va_sld hx hb hX hbl hbA hS (vp_in_nI (by omega) (by omega)) d_L_law_276 ?_
  refine x_top (y := xs (i + 1)) (by rw [nI_clamp (by omega)]) ?_
  refine xv_R (n := 1) (As := [.int (xs (i + 1))]) (rest := []) hx hb hml hown hg hK0 hP (c_G_word l D T (lA s) _ ad K N g hz hG (xs (i + 1))) w_284 w_1 w_281 w_282 w_283 (ga_0 hG) rfl rfl (by decide +kernel) ⟨Nat.le_of_ble_eq_true rfl, Nat.le_of_ble_eq_true rfl⟩ rfl hl.1 rfl (Nat.le_of_ble_eq_true rfl) ⟨Nat.le_of_ble_eq_true rfl, Nat.le_of_ble_eq_true rfl⟩ rfl rfl d_L_law_277 (fun r hr => ?_)
  subst hr
  refine x_fr (pc := 280) [.long (aWord K g (xs (i + 1)))] rfl rfl ?_
  refine lv_aload_n hx hb d_L_law_280 rfl (lv_at hl 2 rfl) ?_
  refine lv_aload_n hx hb d_L_law_281 rfl (lv_at hl 0 rfl) ?_
  refine lv_iload_n hx hb d_L_law_282 rfl (lv_at hl 3 rfl) ?_
  refine lv_iconst (v := nI 1) hx hb d_L_law_283 (by decide) ?_
  refine lv_iadd hx hb d_L_law_284 ?_
  refine x_top (y := nI (i + 1)) (nI_add _ _) ?_
  refine va_sld hx hb hX hbl hbA hS (vp_in_nI (by omega) (by omega)) d_L_law_285 ?_
  refine x_top (y := xs (i + 1)) (by rw [nI_clamp (by omega)]) ?_
  refine xv_R (n := 1) (As := [.int (xs (i + 1))]) (rest := [.long (aWord K g (xs (i + 1)))]) hx hb hml hown hg hK0 hP (c_M_word l D T (lA s) _ bd K N q hz hM g hs c0 w hI (xs (i + 1))) w_488 w_6 w_485 w_486 w_487 (ma_0 hM) rfl rfl (by decide +kernel) ⟨Nat.le_of_ble_eq_true rfl, Nat.le_of_ble_eq_true rfl⟩ rfl hl.1 rfl (Nat.le_of_ble_eq_true rfl) ⟨Nat.le_of_ble_eq_true rfl, Nat.le_of_ble_eq_true rfl⟩ rfl rfl d_L_law_286 (fun r hr => ?_)
  subst hr
  refine x_fr (pc := 289) [.long (aWord K g (xs (i + 1))), .long (aWord K g (xs (i + 1)))] rfl rfl ?_
  refine W.lcmp hx hb d_L_law_289 ?_
  refine x_top (y := 0) (lg_cmp_s _) ?_
  refine lv_if_eq (tgt := 691) hx hb d_L_law_290 (by decide) (fun c_290 => ?_) (fun c_290 => ?_)
  · exact kk _ _ _ ⟨_, _, _, _, hP, hS, hG, hM, hs, hI⟩ ls hl
  · exact absurd rfl c_290
set_option maxHeartbeats 4000000 in
set_option maxRecDepth 100000 in
theorem lc_sound {p : Program} {l : Launch} {e : Env} {s : State} {m : MethodId} {below : List Frame} {meth : Method} {c : Code} {b L : Nat} {xs : Nat → Int32} {D : va_G} {T : Nat → ClassId} {ad : Nat → Nat → Nat → Nat} {bd : Nat → Nat} {K N i : Nat} (hL : L ≤ 2562) (C0 : lw_At p s m meth c b L xs) (hK0 : xK D T s) (hz : zB K N) (hd : dA ad bd N) (hi : i + 5 ≤ L) (kk : lC p l e s m below meth c b D T ad bd K N i 691) : lC p l e s m below meth c b D T ad bd K N i 295 := by
  intro Mx Hx Lx hI0 ls hl
  obtain ⟨g, q, c0, w, hP, hS, hG, hM, hs, hI⟩ := hI0
  obtain ⟨hx, hb, -, hml, hown, hts, hX, hbl, -, -⟩ := id C0
  have hown : s.vm.findClass "ShareGridLaw" = some m.cls := hown
  have hg : ∀ w ∈ gw, w.before #[Value.ref b] s = true := fun w hw => hts w (List.mem_filter.mp hw).1
  have hbA : ¬ lA s b := Nat.not_le.mpr hbl
  refine lv_aload_n hx hb d_L_law_295 rfl (lv_at hl 1 rfl) ?_
  refine lv_aload_n hx hb d_L_law_296 rfl (lv_at hl 0 rfl) ?_
  refine lv_iload_n hx hb d_L_law_297 rfl (lv_at hl 3 rfl) ?_
  refine lv_iconst (v := nI 1) hx hb d_L_law_298 (by decide) ?_
  refine lv_iadd hx hb d_L_law_299 ?_
  refine x_top (y := nI (i + 1)) (nI_add _ _) ?_
  refine va_sld hx hb hX hbl hbA hS (vp_in_nI (by omega) (by omega)) d_L_law_300 ?_
  refine x_top (y := xs (i + 1)) (by rw [nI_clamp (by omega)]) ?_
  refine xv_R (n := 1) (As := [.int (xs (i + 1))]) (rest := []) hx hb hml hown hg hK0 hP (c_G_sound l D T (lA s) _ ad K N g hz hG c0 w hI (xs (i + 1))) w_289 w_1 w_286 w_287 w_288 (ga_0 hG) rfl rfl (by decide +kernel) ⟨Nat.le_of_ble_eq_true rfl, Nat.le_of_ble_eq_true rfl⟩ rfl hl.1 rfl (Nat.le_of_ble_eq_true rfl) ⟨Nat.le_of_ble_eq_true rfl, Nat.le_of_ble_eq_true rfl⟩ rfl rfl d_L_law_301 (fun r hr => ?_)
  subst hr
  refine x_fr (pc := 304) [.int (aSound N g c0 (xs (i + 1)))] rfl rfl ?_
  refine lv_aload_n hx hb d_L_law_304 rfl (lv_at hl 2 rfl) ?_
  refine lv_aload_n hx hb d_L_law_305 rfl (lv_at hl 0 rfl) ?_
  refine lv_iload_n hx hb d_L_law_306 rfl (lv_at hl 3 rfl) ?_
  refine lv_iconst (v := nI 1) hx hb d_L_law_307 (by decide) ?_
  refine lv_iadd hx hb d_L_law_308 ?_
  refine x_top (y := nI (i + 1)) (nI_add _ _) ?_
  refine va_sld hx hb hX hbl hbA hS (vp_in_nI (by omega) (by omega)) d_L_law_309 ?_
  refine x_top (y := xs (i + 1)) (by rw [nI_clamp (by omega)]) ?_
  refine xv_R (n := 1) (As := [.int (xs (i + 1))]) (rest := [.int (aSound N g c0 (xs (i + 1)))]) hx hb hml hown hg hK0 hP (c_M_sound l D T (lA s) _ bd K N q hz hM g hs c0 w hI (xs (i + 1))) w_493 w_6 w_490 w_491 w_492 (ma_0 hM) rfl rfl (by decide +kernel) ⟨Nat.le_of_ble_eq_true rfl, Nat.le_of_ble_eq_true rfl⟩ rfl hl.1 rfl (Nat.le_of_ble_eq_true rfl) ⟨Nat.le_of_ble_eq_true rfl, Nat.le_of_ble_eq_true rfl⟩ rfl rfl d_L_law_310 (fun r hr => ?_)
  subst hr
  refine x_fr (pc := 313) [.int (aSound N g c0 (xs (i + 1))), .int (aSound N g c0 (xs (i + 1)))] rfl rfl ?_
  refine lv_icmp_eq (tgt := 691) hx hb d_L_law_313 (by decide) (fun c_313 => ?_) (fun c_313 => ?_)
  · exact kk _ _ _ ⟨_, _, _, _, hP, hS, hG, hM, hs, hI⟩ ls hl
  · exact absurd rfl c_313
set_option maxHeartbeats 4000000 in
set_option maxRecDepth 100000 in
theorem lc_best {p : Program} {l : Launch} {e : Env} {s : State} {m : MethodId} {below : List Frame} {meth : Method} {c : Code} {b L : Nat} {xs : Nat → Int32} {D : va_G} {T : Nat → ClassId} {ad : Nat → Nat → Nat → Nat} {bd : Nat → Nat} {K N i : Nat} (hL : L ≤ 2562) (C0 : lw_At p s m meth c b L xs) (hK0 : xK D T s) (hz : zB K N) (hd : dA ad bd N) (hi : i + 5 ≤ L) (kk : lC p l e s m below meth c b D T ad bd K N i 691) : lC p l e s m below meth c b D T ad bd K N i 318 := by
  intro Mx Hx Lx hI0 ls hl
  obtain ⟨g, q, c0, w, hP, hS, hG, hM, hs, hI⟩ := hI0
  obtain ⟨hx, hb, -, hml, hown, hts, hX, hbl, -, -⟩ := id C0
  have hown : s.vm.findClass "ShareGridLaw" = some m.cls := hown
  have hg : ∀ w ∈ gw, w.before #[Value.ref b] s = true := fun w hw => hts w (List.mem_filter.mp hw).1
  have hbA : ¬ lA s b := Nat.not_le.mpr hbl
  refine lv_aload_n hx hb d_L_law_318 rfl (lv_at hl 1 rfl) ?_
  refine lv_aload_n hx hb d_L_law_319 rfl (lv_at hl 0 rfl) ?_
  refine lv_iload_n hx hb d_L_law_320 rfl (lv_at hl 3 rfl) ?_
  refine lv_iconst (v := nI 1) hx hb d_L_law_321 (by decide) ?_
  refine lv_iadd hx hb d_L_law_322 ?_
  refine x_top (y := nI (i + 1)) (nI_add _ _) ?_
  refine va_sld hx hb hX hbl hbA hS (vp_in_nI (by omega) (by omega)) d_L_law_323 ?_
  refine x_top (y := xs (i + 1)) (by rw [nI_clamp (by omega)]) ?_
  refine xv_Q (n := 1) (As := [.int (xs (i + 1))]) (rest := []) hx hb hml hown hg hK0 hP (c_G_best l D T (lA s) _ ad K N g hz hG c0 w hI (xs (i + 1))) w_293 w_1 w_290 w_291 w_292 (ga_0 hG) rfl rfl (by decide +kernel) ⟨Nat.le_of_ble_eq_true rfl, Nat.le_of_ble_eq_true rfl⟩ rfl hl.1 rfl (Nat.le_of_ble_eq_true rfl) hS ⟨Nat.le_of_ble_eq_true rfl, Nat.le_of_ble_eq_true rfl⟩ rfl rfl d_L_law_324 (fun r M1 H_465 L_466 hr hP hS => ?_)
  obtain ⟨h1, rfl, hR⟩ := hr
  have hM := mG_kept hM hd hR
  have hG := hR.1
  refine x_fr (pc := 327) [.int (aBest K N g c0 (xs (i + 1)))] rfl rfl ?_
  refine lv_aload_n hx hb d_L_law_327 rfl (lv_at hl 2 rfl) ?_
  refine lv_aload_n hx hb d_L_law_328 rfl (lv_at hl 0 rfl) ?_
  refine lv_iload_n hx hb d_L_law_329 rfl (lv_at hl 3 rfl) ?_
  refine lv_iconst (v := nI 1) hx hb d_L_law_330 (by decide) ?_
  refine lv_iadd hx hb d_L_law_331 ?_
  refine x_top (y := nI (i + 1)) (nI_add _ _) ?_
  refine va_sld hx hb hX hbl hbA hS (vp_in_nI (by omega) (by omega)) d_L_law_332 ?_
  refine x_top (y := xs (i + 1)) (by rw [nI_clamp (by omega)]) ?_
  refine xv_R (n := 1) (As := [.int (xs (i + 1))]) (rest := [.int (aBest K N g c0 (xs (i + 1)))]) hx hb hml hown hg hK0 hP (c_M_best l D T (lA s) _ bd K N q hz hM g hs c0 w hI (xs (i + 1))) w_497 w_6 w_494 w_495 w_496 (ma_0 hM) rfl rfl (by decide +kernel) ⟨Nat.le_of_ble_eq_true rfl, Nat.le_of_ble_eq_true rfl⟩ rfl hl.1 rfl (Nat.le_of_ble_eq_true rfl) ⟨Nat.le_of_ble_eq_true rfl, Nat.le_of_ble_eq_true rfl⟩ rfl rfl d_L_law_333 (fun r hr => ?_)
  subst hr
  refine x_fr (pc := 336) [.int (aBest K N g c0 (xs (i + 1))), .int (aBest K N g c0 (xs (i + 1)))] rfl rfl ?_
  refine lv_icmp_eq (tgt := 691) hx hb d_L_law_336 (by decide) (fun c_336 => ?_) (fun c_336 => ?_)
  · exact kk _ _ _ ⟨_, _, _, _, hP, hS, hG, hM, (sM_best hs h1), (iG_best hI h1)⟩ ls hl
  · exact absurd rfl c_336
set_option maxHeartbeats 4000000 in
set_option maxRecDepth 100000 in
theorem lc_repair {p : Program} {l : Launch} {e : Env} {s : State} {m : MethodId} {below : List Frame} {meth : Method} {c : Code} {b L : Nat} {xs : Nat → Int32} {D : va_G} {T : Nat → ClassId} {ad : Nat → Nat → Nat → Nat} {bd : Nat → Nat} {K N i : Nat} (hL : L ≤ 2562) (C0 : lw_At p s m meth c b L xs) (hK0 : xK D T s) (hz : zB K N) (hd : dA ad bd N) (hi : i + 5 ≤ L) (kk : lC p l e s m below meth c b D T ad bd K N i 691) : lC p l e s m below meth c b D T ad bd K N i 341 := by
  intro Mx Hx Lx hI0 ls hl
  obtain ⟨g, q, c0, w, hP, hS, hG, hM, hs, hI⟩ := hI0
  obtain ⟨hx, hb, -, hml, hown, hts, hX, hbl, -, -⟩ := id C0
  have hown : s.vm.findClass "ShareGridLaw" = some m.cls := hown
  have hg : ∀ w ∈ gw, w.before #[Value.ref b] s = true := fun w hw => hts w (List.mem_filter.mp hw).1
  have hbA : ¬ lA s b := Nat.not_le.mpr hbl
  refine lv_aload_n hx hb d_L_law_341 rfl (lv_at hl 1 rfl) ?_
  refine lv_aload_n hx hb d_L_law_342 rfl (lv_at hl 0 rfl) ?_
  refine lv_iload_n hx hb d_L_law_343 rfl (lv_at hl 3 rfl) ?_
  refine lv_iconst (v := nI 1) hx hb d_L_law_344 (by decide) ?_
  refine lv_iadd hx hb d_L_law_345 ?_
  refine x_top (y := nI (i + 1)) (nI_add _ _) ?_
  refine va_sld hx hb hX hbl hbA hS (vp_in_nI (by omega) (by omega)) d_L_law_346 ?_
  refine x_top (y := xs (i + 1)) (by rw [nI_clamp (by omega)]) ?_
  refine xv_Q (n := 1) (As := [.int (xs (i + 1))]) (rest := []) hx hb hml hown hg hK0 hP (c_G_repair l D T (lA s) _ ad K N g hz hG c0 w hI (xs (i + 1))) w_297 w_1 w_294 w_295 w_296 (ga_0 hG) rfl rfl (by decide +kernel) ⟨Nat.le_of_ble_eq_true rfl, Nat.le_of_ble_eq_true rfl⟩ rfl hl.1 rfl (Nat.le_of_ble_eq_true rfl) hS ⟨Nat.le_of_ble_eq_true rfl, Nat.le_of_ble_eq_true rfl⟩ rfl rfl d_L_law_347 (fun r M1 H_467 L_468 hr hP hS => ?_)
  obtain ⟨g1, rfl, hR, hst⟩ := hr
  have hM := mG_kept hM hd hR
  have hG1 := hR.1
  refine x_fr (pc := 350) [.int (aRepair K N g c0 (xs (i + 1)) (cuF (rpV N g (fuF g c0 (xs (i + 1))).toNatClampNeg (nI (beF K N g (fuF g c0 (xs (i + 1))).toNatClampNeg))) N))] rfl rfl ?_
  refine lv_aload_n hx hb d_L_law_350 rfl (lv_at hl 2 rfl) ?_
  refine lv_aload_n hx hb d_L_law_351 rfl (lv_at hl 0 rfl) ?_
  refine lv_iload_n hx hb d_L_law_352 rfl (lv_at hl 3 rfl) ?_
  refine lv_iconst (v := nI 1) hx hb d_L_law_353 (by decide) ?_
  refine lv_iadd hx hb d_L_law_354 ?_
  refine x_top (y := nI (i + 1)) (nI_add _ _) ?_
  refine va_sld hx hb hX hbl hbA hS (vp_in_nI (by omega) (by omega)) d_L_law_355 ?_
  refine x_top (y := xs (i + 1)) (by rw [nI_clamp (by omega)]) ?_
  refine xv_Q (n := 1) (As := [.int (xs (i + 1))]) (rest := [.int (aRepair K N g c0 (xs (i + 1)) (cuF (rpV N g (fuF g c0 (xs (i + 1))).toNatClampNeg (nI (beF K N g (fuF g c0 (xs (i + 1))).toNatClampNeg))) N))]) hx hb hml hown hg hK0 hP (c_M_repair l D T (lA s) _ bd K N q hz hM g hs c0 w hI (xs (i + 1)) g1 hst) w_501 w_6 w_498 w_499 w_500 (ma_0 hM) rfl rfl (by decide +kernel) ⟨Nat.le_of_ble_eq_true rfl, Nat.le_of_ble_eq_true rfl⟩ rfl hl.1 rfl (Nat.le_of_ble_eq_true rfl) hS ⟨Nat.le_of_ble_eq_true rfl, Nat.le_of_ble_eq_true rfl⟩ rfl rfl d_L_law_356 (fun r M1 H_469 L_470 hr hP hS => ?_)
  obtain ⟨rfl, q1, hR, hs1⟩ := hr
  have hG := gG_kept hG1 hd hR
  have hM := hR.1
  refine x_fr (pc := 359) [.int (aRepair K N g c0 (xs (i + 1)) (cuF (rpV N g (fuF g c0 (xs (i + 1))).toNatClampNeg (nI (beF K N g (fuF g c0 (xs (i + 1))).toNatClampNeg))) N)), .int (aRepair K N g c0 (xs (i + 1)) (cuF (rpV N g (fuF g c0 (xs (i + 1))).toNatClampNeg (nI (beF K N g (fuF g c0 (xs (i + 1))).toNatClampNeg))) N))] rfl rfl ?_
  refine lv_icmp_eq (tgt := 691) hx hb d_L_law_359 (by decide) (fun c_359 => ?_) (fun c_359 => ?_)
  · exact kk _ _ _ ⟨_, _, _, _, hP, hS, hG, hM, hs1, (iG_repair hI hz hst)⟩ ls hl
  · exact absurd rfl c_359
set_option maxHeartbeats 4000000 in
set_option maxRecDepth 100000 in
theorem lc_server {p : Program} {l : Launch} {e : Env} {s : State} {m : MethodId} {below : List Frame} {meth : Method} {c : Code} {b L : Nat} {xs : Nat → Int32} {D : va_G} {T : Nat → ClassId} {ad : Nat → Nat → Nat → Nat} {bd : Nat → Nat} {K N i : Nat} (hL : L ≤ 2562) (C0 : lw_At p s m meth c b L xs) (hK0 : xK D T s) (hz : zB K N) (hd : dA ad bd N) (hi : i + 5 ≤ L) (kk : lC p l e s m below meth c b D T ad bd K N i 691) : lC p l e s m below meth c b D T ad bd K N i 364 := by
  intro Mx Hx Lx hI0 ls hl
  obtain ⟨g, q, c0, w, hP, hS, hG, hM, hs, hI⟩ := hI0
  obtain ⟨hx, hb, -, hml, hown, hts, hX, hbl, -, -⟩ := id C0
  have hown : s.vm.findClass "ShareGridLaw" = some m.cls := hown
  have hg : ∀ w ∈ gw, w.before #[Value.ref b] s = true := fun w hw => hts w (List.mem_filter.mp hw).1
  have hbA : ¬ lA s b := Nat.not_le.mpr hbl
  by_cases hu : xs (i + 2) = 0
  · by_cases hv : xs (i + 3) = 0
    · refine lv_aload_n hx hb d_L_law_364 rfl (lv_at hl 1 rfl) ?_
      refine lv_aload_n hx hb d_L_law_365 rfl (lv_at hl 0 rfl) ?_
      refine lv_iload_n hx hb d_L_law_366 rfl (lv_at hl 3 rfl) ?_
      refine lv_iconst (v := nI 1) hx hb d_L_law_367 (by decide) ?_
      refine lv_iadd hx hb d_L_law_368 ?_
      refine x_top (y := nI (i + 1)) (nI_add _ _) ?_
      refine va_sld hx hb hX hbl hbA hS (vp_in_nI (by omega) (by omega)) d_L_law_369 ?_
      refine x_top (y := xs (i + 1)) (by rw [nI_clamp (by omega)]) ?_
      refine lv_aload_n hx hb d_L_law_370 rfl (lv_at hl 0 rfl) ?_
      refine lv_iload_n hx hb d_L_law_371 rfl (lv_at hl 3 rfl) ?_
      refine lv_iconst (v := nI 2) hx hb d_L_law_372 (by decide) ?_
      refine lv_iadd hx hb d_L_law_373 ?_
      refine x_top (y := nI (i + 2)) (nI_add _ _) ?_
      refine va_sld hx hb hX hbl hbA hS (vp_in_nI (by omega) (by omega)) d_L_law_374 ?_
      refine x_top (y := xs (i + 2)) (by rw [nI_clamp (by omega)]) ?_
      refine lv_if_eq (tgt := 382) hx hb d_L_law_375 (by decide) (fun c_375 => ?_) (fun c_375 => ?_)
      · refine lv_iconst (v := 0) hx hb d_L_law_382 (by decide) ?_
        refine lv_aload_n hx hb d_L_law_383 rfl (lv_at hl 0 rfl) ?_
        refine lv_iload_n hx hb d_L_law_384 rfl (lv_at hl 3 rfl) ?_
        refine lv_iconst (v := nI 3) hx hb d_L_law_385 (by decide) ?_
        refine lv_iadd hx hb d_L_law_386 ?_
        refine x_top (y := nI (i + 3)) (nI_add _ _) ?_
        refine va_sld hx hb hX hbl hbA hS (vp_in_nI (by omega) (by omega)) d_L_law_387 ?_
        refine x_top (y := xs (i + 3)) (by rw [nI_clamp (by omega)]) ?_
        refine lv_if_eq (tgt := 395) hx hb d_L_law_388 (by decide) (fun c_388 => ?_) (fun c_388 => ?_)
        · refine lv_iconst (v := 0) hx hb d_L_law_395 (by decide) ?_
          refine xv_Q (n := 3) (As := [.int (xs (i + 1)), .int 0, .int 0]) (rest := []) hx hb hml hown hg hK0 hP (c_G_server l D T (lA s) _ ad K N g hz hG (xs (i + 1)) 0 0 (by decide) (by decide)) w_301 w_1 w_298 w_299 w_300 (ga_0 hG) rfl rfl (by decide +kernel) ⟨Nat.le_of_ble_eq_true rfl, Nat.le_of_ble_eq_true rfl⟩ rfl hl.1 rfl (Nat.le_of_ble_eq_true rfl) hS ⟨Nat.le_of_ble_eq_true rfl, Nat.le_of_ble_eq_true rfl⟩ rfl rfl d_L_law_396 (fun r M1 H_471 L_472 hr hP hS => ?_)
          obtain ⟨rfl, hR⟩ := hr
          have hM := mG_kept hM hd hR
          have hG1 := hR.1
          refine x_fr (pc := 399) [.int ((aServer N g (xs (i + 1)) 0 0).1)] rfl rfl ?_
          refine lv_aload_n hx hb d_L_law_399 rfl (lv_at hl 2 rfl) ?_
          refine lv_aload_n hx hb d_L_law_400 rfl (lv_at hl 0 rfl) ?_
          refine lv_iload_n hx hb d_L_law_401 rfl (lv_at hl 3 rfl) ?_
          refine lv_iconst (v := nI 1) hx hb d_L_law_402 (by decide) ?_
          refine lv_iadd hx hb d_L_law_403 ?_
          refine x_top (y := nI (i + 1)) (nI_add _ _) ?_
          refine va_sld hx hb hX hbl hbA hS (vp_in_nI (by omega) (by omega)) d_L_law_404 ?_
          refine x_top (y := xs (i + 1)) (by rw [nI_clamp (by omega)]) ?_
          refine lv_aload_n hx hb d_L_law_405 rfl (lv_at hl 0 rfl) ?_
          refine lv_iload_n hx hb d_L_law_406 rfl (lv_at hl 3 rfl) ?_
          refine lv_iconst (v := nI 2) hx hb d_L_law_407 (by decide) ?_
          refine lv_iadd hx hb d_L_law_408 ?_
          refine x_top (y := nI (i + 2)) (nI_add _ _) ?_
          refine va_sld hx hb hX hbl hbA hS (vp_in_nI (by omega) (by omega)) d_L_law_409 ?_
          refine x_top (y := xs (i + 2)) (by rw [nI_clamp (by omega)]) ?_
          refine lv_if_eq (tgt := 417) hx hb d_L_law_410 (by decide) (fun c_410 => ?_) (fun c_410 => ?_)
          · refine lv_iconst (v := 0) hx hb d_L_law_417 (by decide) ?_
            refine lv_aload_n hx hb d_L_law_418 rfl (lv_at hl 0 rfl) ?_
            refine lv_iload_n hx hb d_L_law_419 rfl (lv_at hl 3 rfl) ?_
            refine lv_iconst (v := nI 3) hx hb d_L_law_420 (by decide) ?_
            refine lv_iadd hx hb d_L_law_421 ?_
            refine x_top (y := nI (i + 3)) (nI_add _ _) ?_
            refine va_sld hx hb hX hbl hbA hS (vp_in_nI (by omega) (by omega)) d_L_law_422 ?_
            refine x_top (y := xs (i + 3)) (by rw [nI_clamp (by omega)]) ?_
            refine lv_if_eq (tgt := 430) hx hb d_L_law_423 (by decide) (fun c_423 => ?_) (fun c_423 => ?_)
            · refine lv_iconst (v := 0) hx hb d_L_law_430 (by decide) ?_
              refine xv_Q (n := 3) (As := [.int (xs (i + 1)), .int 0, .int 0]) (rest := [.int ((aServer N g (xs (i + 1)) 0 0).1)]) hx hb hml hown hg hK0 hP (c_M_server l D T (lA s) _ bd K N q hz hM g hs c0 w hI (xs (i + 1)) 0 0 (by decide) (by decide)) w_509 w_6 w_506 w_507 w_508 (ma_0 hM) rfl rfl (by decide +kernel) ⟨Nat.le_of_ble_eq_true rfl, Nat.le_of_ble_eq_true rfl⟩ rfl hl.1 rfl (Nat.le_of_ble_eq_true rfl) hS ⟨Nat.le_of_ble_eq_true rfl, Nat.le_of_ble_eq_true rfl⟩ rfl rfl d_L_law_431 (fun r M1 H_473 L_474 hr hP hS => ?_)
              obtain ⟨rfl, q1, hR, hs1⟩ := hr
              have hG := gG_kept hG1 hd hR
              have hM := hR.1
              refine x_fr (pc := 434) [.int ((aServer N g (xs (i + 1)) 0 0).1), .int ((aServer N g (xs (i + 1)) 0 0).1)] rfl rfl ?_
              refine lv_icmp_eq (tgt := 691) hx hb d_L_law_434 (by decide) (fun c_434 => ?_) (fun c_434 => ?_)
              · exact kk _ _ _ ⟨_, _, _, _, hP, hS, hG, hM, hs1, (iG_server hI _ _ _)⟩ ls hl
              · exact absurd rfl c_434
            · exact absurd hv c_423
          · exact absurd hu c_410
        · exact absurd hv c_388
      · exact absurd hu c_375
    · refine lv_aload_n hx hb d_L_law_364 rfl (lv_at hl 1 rfl) ?_
      refine lv_aload_n hx hb d_L_law_365 rfl (lv_at hl 0 rfl) ?_
      refine lv_iload_n hx hb d_L_law_366 rfl (lv_at hl 3 rfl) ?_
      refine lv_iconst (v := nI 1) hx hb d_L_law_367 (by decide) ?_
      refine lv_iadd hx hb d_L_law_368 ?_
      refine x_top (y := nI (i + 1)) (nI_add _ _) ?_
      refine va_sld hx hb hX hbl hbA hS (vp_in_nI (by omega) (by omega)) d_L_law_369 ?_
      refine x_top (y := xs (i + 1)) (by rw [nI_clamp (by omega)]) ?_
      refine lv_aload_n hx hb d_L_law_370 rfl (lv_at hl 0 rfl) ?_
      refine lv_iload_n hx hb d_L_law_371 rfl (lv_at hl 3 rfl) ?_
      refine lv_iconst (v := nI 2) hx hb d_L_law_372 (by decide) ?_
      refine lv_iadd hx hb d_L_law_373 ?_
      refine x_top (y := nI (i + 2)) (nI_add _ _) ?_
      refine va_sld hx hb hX hbl hbA hS (vp_in_nI (by omega) (by omega)) d_L_law_374 ?_
      refine x_top (y := xs (i + 2)) (by rw [nI_clamp (by omega)]) ?_
      refine lv_if_eq (tgt := 382) hx hb d_L_law_375 (by decide) (fun c_375 => ?_) (fun c_375 => ?_)
      · refine lv_iconst (v := 0) hx hb d_L_law_382 (by decide) ?_
        refine lv_aload_n hx hb d_L_law_383 rfl (lv_at hl 0 rfl) ?_
        refine lv_iload_n hx hb d_L_law_384 rfl (lv_at hl 3 rfl) ?_
        refine lv_iconst (v := nI 3) hx hb d_L_law_385 (by decide) ?_
        refine lv_iadd hx hb d_L_law_386 ?_
        refine x_top (y := nI (i + 3)) (nI_add _ _) ?_
        refine va_sld hx hb hX hbl hbA hS (vp_in_nI (by omega) (by omega)) d_L_law_387 ?_
        refine x_top (y := xs (i + 3)) (by rw [nI_clamp (by omega)]) ?_
        refine lv_if_eq (tgt := 395) hx hb d_L_law_388 (by decide) (fun c_388 => ?_) (fun c_388 => ?_)
        · exact absurd c_388 hv
        · refine lv_iconst (v := 1) hx hb d_L_law_391 (by decide) ?_
          refine lv_goto (tgt := 396) hx hb d_L_law_392 (by decide) ?_
          refine xv_Q (n := 3) (As := [.int (xs (i + 1)), .int 0, .int 1]) (rest := []) hx hb hml hown hg hK0 hP (c_G_server l D T (lA s) _ ad K N g hz hG (xs (i + 1)) 0 1 (by decide) (by decide)) w_301 w_1 w_298 w_299 w_300 (ga_0 hG) rfl rfl (by decide +kernel) ⟨Nat.le_of_ble_eq_true rfl, Nat.le_of_ble_eq_true rfl⟩ rfl hl.1 rfl (Nat.le_of_ble_eq_true rfl) hS ⟨Nat.le_of_ble_eq_true rfl, Nat.le_of_ble_eq_true rfl⟩ rfl rfl d_L_law_396 (fun r M1 H_475 L_476 hr hP hS => ?_)
          obtain ⟨rfl, hR⟩ := hr
          have hM := mG_kept hM hd hR
          have hG1 := hR.1
          refine x_fr (pc := 399) [.int ((aServer N g (xs (i + 1)) 0 1).1)] rfl rfl ?_
          refine lv_aload_n hx hb d_L_law_399 rfl (lv_at hl 2 rfl) ?_
          refine lv_aload_n hx hb d_L_law_400 rfl (lv_at hl 0 rfl) ?_
          refine lv_iload_n hx hb d_L_law_401 rfl (lv_at hl 3 rfl) ?_
          refine lv_iconst (v := nI 1) hx hb d_L_law_402 (by decide) ?_
          refine lv_iadd hx hb d_L_law_403 ?_
          refine x_top (y := nI (i + 1)) (nI_add _ _) ?_
          refine va_sld hx hb hX hbl hbA hS (vp_in_nI (by omega) (by omega)) d_L_law_404 ?_
          refine x_top (y := xs (i + 1)) (by rw [nI_clamp (by omega)]) ?_
          refine lv_aload_n hx hb d_L_law_405 rfl (lv_at hl 0 rfl) ?_
          refine lv_iload_n hx hb d_L_law_406 rfl (lv_at hl 3 rfl) ?_
          refine lv_iconst (v := nI 2) hx hb d_L_law_407 (by decide) ?_
          refine lv_iadd hx hb d_L_law_408 ?_
          refine x_top (y := nI (i + 2)) (nI_add _ _) ?_
          refine va_sld hx hb hX hbl hbA hS (vp_in_nI (by omega) (by omega)) d_L_law_409 ?_
          refine x_top (y := xs (i + 2)) (by rw [nI_clamp (by omega)]) ?_
          refine lv_if_eq (tgt := 417) hx hb d_L_law_410 (by decide) (fun c_410 => ?_) (fun c_410 => ?_)
          · refine lv_iconst (v := 0) hx hb d_L_law_417 (by decide) ?_
            refine lv_aload_n hx hb d_L_law_418 rfl (lv_at hl 0 rfl) ?_
            refine lv_iload_n hx hb d_L_law_419 rfl (lv_at hl 3 rfl) ?_
            refine lv_iconst (v := nI 3) hx hb d_L_law_420 (by decide) ?_
            refine lv_iadd hx hb d_L_law_421 ?_
            refine x_top (y := nI (i + 3)) (nI_add _ _) ?_
            refine va_sld hx hb hX hbl hbA hS (vp_in_nI (by omega) (by omega)) d_L_law_422 ?_
            refine x_top (y := xs (i + 3)) (by rw [nI_clamp (by omega)]) ?_
            refine lv_if_eq (tgt := 430) hx hb d_L_law_423 (by decide) (fun c_423 => ?_) (fun c_423 => ?_)
            · exact absurd c_423 hv
            · refine lv_iconst (v := 1) hx hb d_L_law_426 (by decide) ?_
              refine lv_goto (tgt := 431) hx hb d_L_law_427 (by decide) ?_
              refine xv_Q (n := 3) (As := [.int (xs (i + 1)), .int 0, .int 1]) (rest := [.int ((aServer N g (xs (i + 1)) 0 1).1)]) hx hb hml hown hg hK0 hP (c_M_server l D T (lA s) _ bd K N q hz hM g hs c0 w hI (xs (i + 1)) 0 1 (by decide) (by decide)) w_509 w_6 w_506 w_507 w_508 (ma_0 hM) rfl rfl (by decide +kernel) ⟨Nat.le_of_ble_eq_true rfl, Nat.le_of_ble_eq_true rfl⟩ rfl hl.1 rfl (Nat.le_of_ble_eq_true rfl) hS ⟨Nat.le_of_ble_eq_true rfl, Nat.le_of_ble_eq_true rfl⟩ rfl rfl d_L_law_431 (fun r M1 H_477 L_478 hr hP hS => ?_)
              obtain ⟨rfl, q1, hR, hs1⟩ := hr
              have hG := gG_kept hG1 hd hR
              have hM := hR.1
              refine x_fr (pc := 434) [.int ((aServer N g (xs (i + 1)) 0 1).1), .int ((aServer N g (xs (i + 1)) 0 1).1)] rfl rfl ?_
              refine lv_icmp_eq (tgt := 691) hx hb d_L_law_434 (by decide) (fun c_434 => ?_) (fun c_434 => ?_)
              · exact kk _ _ _ ⟨_, _, _, _, hP, hS, hG, hM, hs1, (iG_server hI _ _ _)⟩ ls hl
              · exact absurd rfl c_434
          · exact absurd hu c_410
      · exact absurd hu c_375
  · by_cases hv : xs (i + 3) = 0
    · refine lv_aload_n hx hb d_L_law_364 rfl (lv_at hl 1 rfl) ?_
      refine lv_aload_n hx hb d_L_law_365 rfl (lv_at hl 0 rfl) ?_
      refine lv_iload_n hx hb d_L_law_366 rfl (lv_at hl 3 rfl) ?_
      refine lv_iconst (v := nI 1) hx hb d_L_law_367 (by decide) ?_
      refine lv_iadd hx hb d_L_law_368 ?_
      refine x_top (y := nI (i + 1)) (nI_add _ _) ?_
      refine va_sld hx hb hX hbl hbA hS (vp_in_nI (by omega) (by omega)) d_L_law_369 ?_
      refine x_top (y := xs (i + 1)) (by rw [nI_clamp (by omega)]) ?_
      refine lv_aload_n hx hb d_L_law_370 rfl (lv_at hl 0 rfl) ?_
      refine lv_iload_n hx hb d_L_law_371 rfl (lv_at hl 3 rfl) ?_
      refine lv_iconst (v := nI 2) hx hb d_L_law_372 (by decide) ?_
      refine lv_iadd hx hb d_L_law_373 ?_
      refine x_top (y := nI (i + 2)) (nI_add _ _) ?_
      refine va_sld hx hb hX hbl hbA hS (vp_in_nI (by omega) (by omega)) d_L_law_374 ?_
      refine x_top (y := xs (i + 2)) (by rw [nI_clamp (by omega)]) ?_
      refine lv_if_eq (tgt := 382) hx hb d_L_law_375 (by decide) (fun c_375 => ?_) (fun c_375 => ?_)
      · exact absurd c_375 hu
      · refine lv_iconst (v := 1) hx hb d_L_law_378 (by decide) ?_
        refine lv_goto (tgt := 383) hx hb d_L_law_379 (by decide) ?_
        refine lv_aload_n hx hb d_L_law_383 rfl (lv_at hl 0 rfl) ?_
        refine lv_iload_n hx hb d_L_law_384 rfl (lv_at hl 3 rfl) ?_
        refine lv_iconst (v := nI 3) hx hb d_L_law_385 (by decide) ?_
        refine lv_iadd hx hb d_L_law_386 ?_
        refine x_top (y := nI (i + 3)) (nI_add _ _) ?_
        refine va_sld hx hb hX hbl hbA hS (vp_in_nI (by omega) (by omega)) d_L_law_387 ?_
        refine x_top (y := xs (i + 3)) (by rw [nI_clamp (by omega)]) ?_
        refine lv_if_eq (tgt := 395) hx hb d_L_law_388 (by decide) (fun c_388 => ?_) (fun c_388 => ?_)
        · refine lv_iconst (v := 0) hx hb d_L_law_395 (by decide) ?_
          refine xv_Q (n := 3) (As := [.int (xs (i + 1)), .int 1, .int 0]) (rest := []) hx hb hml hown hg hK0 hP (c_G_server l D T (lA s) _ ad K N g hz hG (xs (i + 1)) 1 0 (by decide) (by decide)) w_301 w_1 w_298 w_299 w_300 (ga_0 hG) rfl rfl (by decide +kernel) ⟨Nat.le_of_ble_eq_true rfl, Nat.le_of_ble_eq_true rfl⟩ rfl hl.1 rfl (Nat.le_of_ble_eq_true rfl) hS ⟨Nat.le_of_ble_eq_true rfl, Nat.le_of_ble_eq_true rfl⟩ rfl rfl d_L_law_396 (fun r M1 H_479 L_480 hr hP hS => ?_)
          obtain ⟨rfl, hR⟩ := hr
          have hM := mG_kept hM hd hR
          have hG1 := hR.1
          refine x_fr (pc := 399) [.int ((aServer N g (xs (i + 1)) 1 0).1)] rfl rfl ?_
          refine lv_aload_n hx hb d_L_law_399 rfl (lv_at hl 2 rfl) ?_
          refine lv_aload_n hx hb d_L_law_400 rfl (lv_at hl 0 rfl) ?_
          refine lv_iload_n hx hb d_L_law_401 rfl (lv_at hl 3 rfl) ?_
          refine lv_iconst (v := nI 1) hx hb d_L_law_402 (by decide) ?_
          refine lv_iadd hx hb d_L_law_403 ?_
          refine x_top (y := nI (i + 1)) (nI_add _ _) ?_
          refine va_sld hx hb hX hbl hbA hS (vp_in_nI (by omega) (by omega)) d_L_law_404 ?_
          refine x_top (y := xs (i + 1)) (by rw [nI_clamp (by omega)]) ?_
          refine lv_aload_n hx hb d_L_law_405 rfl (lv_at hl 0 rfl) ?_
          refine lv_iload_n hx hb d_L_law_406 rfl (lv_at hl 3 rfl) ?_
          refine lv_iconst (v := nI 2) hx hb d_L_law_407 (by decide) ?_
          refine lv_iadd hx hb d_L_law_408 ?_
          refine x_top (y := nI (i + 2)) (nI_add _ _) ?_
          refine va_sld hx hb hX hbl hbA hS (vp_in_nI (by omega) (by omega)) d_L_law_409 ?_
          refine x_top (y := xs (i + 2)) (by rw [nI_clamp (by omega)]) ?_
          refine lv_if_eq (tgt := 417) hx hb d_L_law_410 (by decide) (fun c_410 => ?_) (fun c_410 => ?_)
          · exact absurd c_410 hu
          · refine lv_iconst (v := 1) hx hb d_L_law_413 (by decide) ?_
            refine lv_goto (tgt := 418) hx hb d_L_law_414 (by decide) ?_
            refine lv_aload_n hx hb d_L_law_418 rfl (lv_at hl 0 rfl) ?_
            refine lv_iload_n hx hb d_L_law_419 rfl (lv_at hl 3 rfl) ?_
            refine lv_iconst (v := nI 3) hx hb d_L_law_420 (by decide) ?_
            refine lv_iadd hx hb d_L_law_421 ?_
            refine x_top (y := nI (i + 3)) (nI_add _ _) ?_
            refine va_sld hx hb hX hbl hbA hS (vp_in_nI (by omega) (by omega)) d_L_law_422 ?_
            refine x_top (y := xs (i + 3)) (by rw [nI_clamp (by omega)]) ?_
            refine lv_if_eq (tgt := 430) hx hb d_L_law_423 (by decide) (fun c_423 => ?_) (fun c_423 => ?_)
            · refine lv_iconst (v := 0) hx hb d_L_law_430 (by decide) ?_
              refine xv_Q (n := 3) (As := [.int (xs (i + 1)), .int 1, .int 0]) (rest := [.int ((aServer N g (xs (i + 1)) 1 0).1)]) hx hb hml hown hg hK0 hP (c_M_server l D T (lA s) _ bd K N q hz hM g hs c0 w hI (xs (i + 1)) 1 0 (by decide) (by decide)) w_509 w_6 w_506 w_507 w_508 (ma_0 hM) rfl rfl (by decide +kernel) ⟨Nat.le_of_ble_eq_true rfl, Nat.le_of_ble_eq_true rfl⟩ rfl hl.1 rfl (Nat.le_of_ble_eq_true rfl) hS ⟨Nat.le_of_ble_eq_true rfl, Nat.le_of_ble_eq_true rfl⟩ rfl rfl d_L_law_431 (fun r M1 H_481 L_482 hr hP hS => ?_)
              obtain ⟨rfl, q1, hR, hs1⟩ := hr
              have hG := gG_kept hG1 hd hR
              have hM := hR.1
              refine x_fr (pc := 434) [.int ((aServer N g (xs (i + 1)) 1 0).1), .int ((aServer N g (xs (i + 1)) 1 0).1)] rfl rfl ?_
              refine lv_icmp_eq (tgt := 691) hx hb d_L_law_434 (by decide) (fun c_434 => ?_) (fun c_434 => ?_)
              · exact kk _ _ _ ⟨_, _, _, _, hP, hS, hG, hM, hs1, (iG_server hI _ _ _)⟩ ls hl
              · exact absurd rfl c_434
            · exact absurd hv c_423
        · exact absurd hv c_388
    · refine lv_aload_n hx hb d_L_law_364 rfl (lv_at hl 1 rfl) ?_
      refine lv_aload_n hx hb d_L_law_365 rfl (lv_at hl 0 rfl) ?_
      refine lv_iload_n hx hb d_L_law_366 rfl (lv_at hl 3 rfl) ?_
      refine lv_iconst (v := nI 1) hx hb d_L_law_367 (by decide) ?_
      refine lv_iadd hx hb d_L_law_368 ?_
      refine x_top (y := nI (i + 1)) (nI_add _ _) ?_
      refine va_sld hx hb hX hbl hbA hS (vp_in_nI (by omega) (by omega)) d_L_law_369 ?_
      refine x_top (y := xs (i + 1)) (by rw [nI_clamp (by omega)]) ?_
      refine lv_aload_n hx hb d_L_law_370 rfl (lv_at hl 0 rfl) ?_
      refine lv_iload_n hx hb d_L_law_371 rfl (lv_at hl 3 rfl) ?_
      refine lv_iconst (v := nI 2) hx hb d_L_law_372 (by decide) ?_
      refine lv_iadd hx hb d_L_law_373 ?_
      refine x_top (y := nI (i + 2)) (nI_add _ _) ?_
      refine va_sld hx hb hX hbl hbA hS (vp_in_nI (by omega) (by omega)) d_L_law_374 ?_
      refine x_top (y := xs (i + 2)) (by rw [nI_clamp (by omega)]) ?_
      refine lv_if_eq (tgt := 382) hx hb d_L_law_375 (by decide) (fun c_375 => ?_) (fun c_375 => ?_)
      · exact absurd c_375 hu
      · refine lv_iconst (v := 1) hx hb d_L_law_378 (by decide) ?_
        refine lv_goto (tgt := 383) hx hb d_L_law_379 (by decide) ?_
        refine lv_aload_n hx hb d_L_law_383 rfl (lv_at hl 0 rfl) ?_
        refine lv_iload_n hx hb d_L_law_384 rfl (lv_at hl 3 rfl) ?_
        refine lv_iconst (v := nI 3) hx hb d_L_law_385 (by decide) ?_
        refine lv_iadd hx hb d_L_law_386 ?_
        refine x_top (y := nI (i + 3)) (nI_add _ _) ?_
        refine va_sld hx hb hX hbl hbA hS (vp_in_nI (by omega) (by omega)) d_L_law_387 ?_
        refine x_top (y := xs (i + 3)) (by rw [nI_clamp (by omega)]) ?_
        refine lv_if_eq (tgt := 395) hx hb d_L_law_388 (by decide) (fun c_388 => ?_) (fun c_388 => ?_)
        · exact absurd c_388 hv
        · refine lv_iconst (v := 1) hx hb d_L_law_391 (by decide) ?_
          refine lv_goto (tgt := 396) hx hb d_L_law_392 (by decide) ?_
          refine xv_Q (n := 3) (As := [.int (xs (i + 1)), .int 1, .int 1]) (rest := []) hx hb hml hown hg hK0 hP (c_G_server l D T (lA s) _ ad K N g hz hG (xs (i + 1)) 1 1 (by decide) (by decide)) w_301 w_1 w_298 w_299 w_300 (ga_0 hG) rfl rfl (by decide +kernel) ⟨Nat.le_of_ble_eq_true rfl, Nat.le_of_ble_eq_true rfl⟩ rfl hl.1 rfl (Nat.le_of_ble_eq_true rfl) hS ⟨Nat.le_of_ble_eq_true rfl, Nat.le_of_ble_eq_true rfl⟩ rfl rfl d_L_law_396 (fun r M1 H_483 L_484 hr hP hS => ?_)
          obtain ⟨rfl, hR⟩ := hr
          have hM := mG_kept hM hd hR
          have hG1 := hR.1
          refine x_fr (pc := 399) [.int ((aServer N g (xs (i + 1)) 1 1).1)] rfl rfl ?_
          refine lv_aload_n hx hb d_L_law_399 rfl (lv_at hl 2 rfl) ?_
          refine lv_aload_n hx hb d_L_law_400 rfl (lv_at hl 0 rfl) ?_
          refine lv_iload_n hx hb d_L_law_401 rfl (lv_at hl 3 rfl) ?_
          refine lv_iconst (v := nI 1) hx hb d_L_law_402 (by decide) ?_
          refine lv_iadd hx hb d_L_law_403 ?_
          refine x_top (y := nI (i + 1)) (nI_add _ _) ?_
          refine va_sld hx hb hX hbl hbA hS (vp_in_nI (by omega) (by omega)) d_L_law_404 ?_
          refine x_top (y := xs (i + 1)) (by rw [nI_clamp (by omega)]) ?_
          refine lv_aload_n hx hb d_L_law_405 rfl (lv_at hl 0 rfl) ?_
          refine lv_iload_n hx hb d_L_law_406 rfl (lv_at hl 3 rfl) ?_
          refine lv_iconst (v := nI 2) hx hb d_L_law_407 (by decide) ?_
          refine lv_iadd hx hb d_L_law_408 ?_
          refine x_top (y := nI (i + 2)) (nI_add _ _) ?_
          refine va_sld hx hb hX hbl hbA hS (vp_in_nI (by omega) (by omega)) d_L_law_409 ?_
          refine x_top (y := xs (i + 2)) (by rw [nI_clamp (by omega)]) ?_
          refine lv_if_eq (tgt := 417) hx hb d_L_law_410 (by decide) (fun c_410 => ?_) (fun c_410 => ?_)
          · exact absurd c_410 hu
          · refine lv_iconst (v := 1) hx hb d_L_law_413 (by decide) ?_
            refine lv_goto (tgt := 418) hx hb d_L_law_414 (by decide) ?_
            refine lv_aload_n hx hb d_L_law_418 rfl (lv_at hl 0 rfl) ?_
            refine lv_iload_n hx hb d_L_law_419 rfl (lv_at hl 3 rfl) ?_
            refine lv_iconst (v := nI 3) hx hb d_L_law_420 (by decide) ?_
            refine lv_iadd hx hb d_L_law_421 ?_
            refine x_top (y := nI (i + 3)) (nI_add _ _) ?_
            refine va_sld hx hb hX hbl hbA hS (vp_in_nI (by omega) (by omega)) d_L_law_422 ?_
            refine x_top (y := xs (i + 3)) (by rw [nI_clamp (by omega)]) ?_
            refine lv_if_eq (tgt := 430) hx hb d_L_law_423 (by decide) (fun c_423 => ?_) (fun c_423 => ?_)
            · exact absurd c_423 hv
            · refine lv_iconst (v := 1) hx hb d_L_law_426 (by decide) ?_
              refine lv_goto (tgt := 431) hx hb d_L_law_427 (by decide) ?_
              refine xv_Q (n := 3) (As := [.int (xs (i + 1)), .int 1, .int 1]) (rest := [.int ((aServer N g (xs (i + 1)) 1 1).1)]) hx hb hml hown hg hK0 hP (c_M_server l D T (lA s) _ bd K N q hz hM g hs c0 w hI (xs (i + 1)) 1 1 (by decide) (by decide)) w_509 w_6 w_506 w_507 w_508 (ma_0 hM) rfl rfl (by decide +kernel) ⟨Nat.le_of_ble_eq_true rfl, Nat.le_of_ble_eq_true rfl⟩ rfl hl.1 rfl (Nat.le_of_ble_eq_true rfl) hS ⟨Nat.le_of_ble_eq_true rfl, Nat.le_of_ble_eq_true rfl⟩ rfl rfl d_L_law_431 (fun r M1 H_485 L_486 hr hP hS => ?_)
              obtain ⟨rfl, q1, hR, hs1⟩ := hr
              have hG := gG_kept hG1 hd hR
              have hM := hR.1
              refine x_fr (pc := 434) [.int ((aServer N g (xs (i + 1)) 1 1).1), .int ((aServer N g (xs (i + 1)) 1 1).1)] rfl rfl ?_
              refine lv_icmp_eq (tgt := 691) hx hb d_L_law_434 (by decide) (fun c_434 => ?_) (fun c_434 => ?_)
              · exact kk _ _ _ ⟨_, _, _, _, hP, hS, hG, hM, hs1, (iG_server hI _ _ _)⟩ ls hl
              · exact absurd rfl c_434
set_option maxHeartbeats 4000000 in
set_option maxRecDepth 100000 in
theorem lc_tamper {p : Program} {l : Launch} {e : Env} {s : State} {m : MethodId} {below : List Frame} {meth : Method} {c : Code} {b L : Nat} {xs : Nat → Int32} {D : va_G} {T : Nat → ClassId} {ad : Nat → Nat → Nat → Nat} {bd : Nat → Nat} {K N i : Nat} (hL : L ≤ 2562) (C0 : lw_At p s m meth c b L xs) (hK0 : xK D T s) (hz : zB K N) (hd : dA ad bd N) (hi : i + 5 ≤ L) (kk : lC p l e s m below meth c b D T ad bd K N i 691) : lC p l e s m below meth c b D T ad bd K N i 439 := by
  intro Mx Hx Lx hI0 ls hl
  obtain ⟨g, q, c0, w, hP, hS, hG, hM, hs, hI⟩ := hI0
  obtain ⟨hx, hb, -, hml, hown, hts, hX, hbl, -, -⟩ := id C0
  have hown : s.vm.findClass "ShareGridLaw" = some m.cls := hown
  have hg : ∀ w ∈ gw, w.before #[Value.ref b] s = true := fun w hw => hts w (List.mem_filter.mp hw).1
  have hbA : ¬ lA s b := Nat.not_le.mpr hbl
  refine lv_aload_n hx hb d_L_law_439 rfl (lv_at hl 1 rfl) ?_
  refine lv_aload_n hx hb d_L_law_440 rfl (lv_at hl 0 rfl) ?_
  refine lv_iload_n hx hb d_L_law_441 rfl (lv_at hl 3 rfl) ?_
  refine lv_iconst (v := nI 1) hx hb d_L_law_442 (by decide) ?_
  refine lv_iadd hx hb d_L_law_443 ?_
  refine x_top (y := nI (i + 1)) (nI_add _ _) ?_
  refine va_sld hx hb hX hbl hbA hS (vp_in_nI (by omega) (by omega)) d_L_law_444 ?_
  refine x_top (y := xs (i + 1)) (by rw [nI_clamp (by omega)]) ?_
  refine lv_aload_n hx hb d_L_law_445 rfl (lv_at hl 0 rfl) ?_
  refine lv_iload_n hx hb d_L_law_446 rfl (lv_at hl 3 rfl) ?_
  refine lv_iconst (v := nI 2) hx hb d_L_law_447 (by decide) ?_
  refine lv_iadd hx hb d_L_law_448 ?_
  refine x_top (y := nI (i + 2)) (nI_add _ _) ?_
  refine va_sld hx hb hX hbl hbA hS (vp_in_nI (by omega) (by omega)) d_L_law_449 ?_
  refine x_top (y := xs (i + 2)) (by rw [nI_clamp (by omega)]) ?_
  refine lv_aload_n hx hb d_L_law_450 rfl (lv_at hl 0 rfl) ?_
  refine lv_iload_n hx hb d_L_law_451 rfl (lv_at hl 3 rfl) ?_
  refine lv_iconst (v := nI 3) hx hb d_L_law_452 (by decide) ?_
  refine lv_iadd hx hb d_L_law_453 ?_
  refine x_top (y := nI (i + 3)) (nI_add _ _) ?_
  refine va_sld hx hb hX hbl hbA hS (vp_in_nI (by omega) (by omega)) d_L_law_454 ?_
  refine x_top (y := xs (i + 3)) (by rw [nI_clamp (by omega)]) ?_
  refine lv_aload_n hx hb d_L_law_455 rfl (lv_at hl 0 rfl) ?_
  refine lv_iload_n hx hb d_L_law_456 rfl (lv_at hl 3 rfl) ?_
  refine lv_iconst (v := nI 4) hx hb d_L_law_457 (by decide) ?_
  refine lv_iadd hx hb d_L_law_458 ?_
  refine x_top (y := nI (i + 4)) (nI_add _ _) ?_
  refine va_sld hx hb hX hbl hbA hS (vp_in_nI (by omega) (by omega)) d_L_law_459 ?_
  refine x_top (y := xs (i + 4)) (by rw [nI_clamp (by omega)]) ?_
  refine xv_Q (n := 4) (As := [.int (xs (i + 1)), .int (xs (i + 2)), .int (xs (i + 3)), .int (xs (i + 4))]) (rest := []) hx hb hml hown hg hK0 hP (c_G_tamper l D T (lA s) _ ad K N g hz hG c0 w hI (xs (i + 1)) (xs (i + 2)) (xs (i + 3)) (xs (i + 4))) w_309 w_1 w_306 w_307 w_308 (ga_0 hG) rfl rfl (by decide +kernel) ⟨Nat.le_of_ble_eq_true rfl, Nat.le_of_ble_eq_true rfl⟩ rfl hl.1 rfl (Nat.le_of_ble_eq_true rfl) hS ⟨Nat.le_of_ble_eq_true rfl, Nat.le_of_ble_eq_true rfl⟩ rfl rfl d_L_law_460 (fun r M1 H_487 L_488 hr hP hS => ?_)
  obtain ⟨rfl, hR⟩ := hr
  have hM := mG_kept hM hd hR
  have hG1 := hR.1
  refine x_fr (pc := 463) [.int ((aTamper N g (xs (i + 1)) (xs (i + 2)) (xs (i + 3)) (xs (i + 4))).1)] rfl rfl ?_
  refine lv_aload_n hx hb d_L_law_463 rfl (lv_at hl 2 rfl) ?_
  refine lv_aload_n hx hb d_L_law_464 rfl (lv_at hl 0 rfl) ?_
  refine lv_iload_n hx hb d_L_law_465 rfl (lv_at hl 3 rfl) ?_
  refine lv_iconst (v := nI 1) hx hb d_L_law_466 (by decide) ?_
  refine lv_iadd hx hb d_L_law_467 ?_
  refine x_top (y := nI (i + 1)) (nI_add _ _) ?_
  refine va_sld hx hb hX hbl hbA hS (vp_in_nI (by omega) (by omega)) d_L_law_468 ?_
  refine x_top (y := xs (i + 1)) (by rw [nI_clamp (by omega)]) ?_
  refine lv_aload_n hx hb d_L_law_469 rfl (lv_at hl 0 rfl) ?_
  refine lv_iload_n hx hb d_L_law_470 rfl (lv_at hl 3 rfl) ?_
  refine lv_iconst (v := nI 2) hx hb d_L_law_471 (by decide) ?_
  refine lv_iadd hx hb d_L_law_472 ?_
  refine x_top (y := nI (i + 2)) (nI_add _ _) ?_
  refine va_sld hx hb hX hbl hbA hS (vp_in_nI (by omega) (by omega)) d_L_law_473 ?_
  refine x_top (y := xs (i + 2)) (by rw [nI_clamp (by omega)]) ?_
  refine lv_aload_n hx hb d_L_law_474 rfl (lv_at hl 0 rfl) ?_
  refine lv_iload_n hx hb d_L_law_475 rfl (lv_at hl 3 rfl) ?_
  refine lv_iconst (v := nI 3) hx hb d_L_law_476 (by decide) ?_
  refine lv_iadd hx hb d_L_law_477 ?_
  refine x_top (y := nI (i + 3)) (nI_add _ _) ?_
  refine va_sld hx hb hX hbl hbA hS (vp_in_nI (by omega) (by omega)) d_L_law_478 ?_
  refine x_top (y := xs (i + 3)) (by rw [nI_clamp (by omega)]) ?_
  refine lv_aload_n hx hb d_L_law_479 rfl (lv_at hl 0 rfl) ?_
  refine lv_iload_n hx hb d_L_law_480 rfl (lv_at hl 3 rfl) ?_
  refine lv_iconst (v := nI 4) hx hb d_L_law_481 (by decide) ?_
  refine lv_iadd hx hb d_L_law_482 ?_
  refine x_top (y := nI (i + 4)) (nI_add _ _) ?_
  refine va_sld hx hb hX hbl hbA hS (vp_in_nI (by omega) (by omega)) d_L_law_483 ?_
  refine x_top (y := xs (i + 4)) (by rw [nI_clamp (by omega)]) ?_
  refine xv_Q (n := 4) (As := [.int (xs (i + 1)), .int (xs (i + 2)), .int (xs (i + 3)), .int (xs (i + 4))]) (rest := [.int ((aTamper N g (xs (i + 1)) (xs (i + 2)) (xs (i + 3)) (xs (i + 4))).1)]) hx hb hml hown hg hK0 hP (c_M_tamper l D T (lA s) _ bd K N q hz hM g hs c0 w hI (xs (i + 1)) (xs (i + 2)) (xs (i + 3)) (xs (i + 4))) w_513 w_6 w_510 w_511 w_512 (ma_0 hM) rfl rfl (by decide +kernel) ⟨Nat.le_of_ble_eq_true rfl, Nat.le_of_ble_eq_true rfl⟩ rfl hl.1 rfl (Nat.le_of_ble_eq_true rfl) hS ⟨Nat.le_of_ble_eq_true rfl, Nat.le_of_ble_eq_true rfl⟩ rfl rfl d_L_law_484 (fun r M1 H_489 L_490 hr hP hS => ?_)
  obtain ⟨rfl, q1, hR, hs1⟩ := hr
  have hG := gG_kept hG1 hd hR
  have hM := hR.1
  refine x_fr (pc := 487) [.int ((aTamper N g (xs (i + 1)) (xs (i + 2)) (xs (i + 3)) (xs (i + 4))).1), .int ((aTamper N g (xs (i + 1)) (xs (i + 2)) (xs (i + 3)) (xs (i + 4))).1)] rfl rfl ?_
  refine lv_icmp_eq (tgt := 691) hx hb d_L_law_487 (by decide) (fun c_487 => ?_) (fun c_487 => ?_)
  · exact kk _ _ _ ⟨_, _, _, _, hP, hS, hG, hM, hs1, (iG_tamper hI _ _ _ _)⟩ ls hl
  · exact absurd rfl c_487
set_option maxHeartbeats 4000000 in
set_option maxRecDepth 100000 in
theorem lc_picture {p : Program} {l : Launch} {e : Env} {s : State} {m : MethodId} {below : List Frame} {meth : Method} {c : Code} {b L : Nat} {xs : Nat → Int32} {D : va_G} {T : Nat → ClassId} {ad : Nat → Nat → Nat → Nat} {bd : Nat → Nat} {K N i : Nat} (hL : L ≤ 2562) (C0 : lw_At p s m meth c b L xs) (hK0 : xK D T s) (hz : zB K N) (hd : dA ad bd N) (hi : i + 5 ≤ L) (kk : lC p l e s m below meth c b D T ad bd K N i 691) : lC p l e s m below meth c b D T ad bd K N i 492 := by
  intro Mx Hx Lx hI0 ls hl
  obtain ⟨g, q, c0, w, hP, hS, hG, hM, hs, hI⟩ := hI0
  obtain ⟨hx, hb, -, hml, hown, hts, hX, hbl, -, -⟩ := id C0
  have hown : s.vm.findClass "ShareGridLaw" = some m.cls := hown
  have hg : ∀ w ∈ gw, w.before #[Value.ref b] s = true := fun w hw => hts w (List.mem_filter.mp hw).1
  have hbA : ¬ lA s b := Nat.not_le.mpr hbl
  refine lv_aload_n hx hb d_L_law_492 rfl (lv_at hl 1 rfl) ?_
  refine lv_aload_n hx hb d_L_law_493 rfl (lv_at hl 0 rfl) ?_
  refine lv_iload_n hx hb d_L_law_494 rfl (lv_at hl 3 rfl) ?_
  refine lv_iconst (v := nI 1) hx hb d_L_law_495 (by decide) ?_
  refine lv_iadd hx hb d_L_law_496 ?_
  refine x_top (y := nI (i + 1)) (nI_add _ _) ?_
  refine va_sld hx hb hX hbl hbA hS (vp_in_nI (by omega) (by omega)) d_L_law_497 ?_
  refine x_top (y := xs (i + 1)) (by rw [nI_clamp (by omega)]) ?_
  refine lv_aload_n hx hb d_L_law_498 rfl (lv_at hl 0 rfl) ?_
  refine lv_iload_n hx hb d_L_law_499 rfl (lv_at hl 3 rfl) ?_
  refine lv_iconst (v := nI 2) hx hb d_L_law_500 (by decide) ?_
  refine lv_iadd hx hb d_L_law_501 ?_
  refine x_top (y := nI (i + 2)) (nI_add _ _) ?_
  refine va_sld hx hb hX hbl hbA hS (vp_in_nI (by omega) (by omega)) d_L_law_502 ?_
  refine x_top (y := xs (i + 2)) (by rw [nI_clamp (by omega)]) ?_
  refine xv_Q (n := 2) (As := [.int (xs (i + 1)), .int (xs (i + 2))]) (rest := []) hx hb hml hown hg hK0 hP (c_G_picture l D T (lA s) _ ad K N g hz hG c0 w hI (xs (i + 1)) (xs (i + 2))) w_317 w_1 w_314 w_315 w_316 (ga_0 hG) rfl rfl (by decide +kernel) ⟨Nat.le_of_ble_eq_true rfl, Nat.le_of_ble_eq_true rfl⟩ rfl hl.1 rfl (Nat.le_of_ble_eq_true rfl) hS ⟨Nat.le_of_ble_eq_true rfl, Nat.le_of_ble_eq_true rfl⟩ rfl rfl d_L_law_503 (fun r M1 H_491 L_492 hr hP hS => ?_)
  obtain ⟨rfl, hR⟩ := hr
  have hM := mG_kept hM hd hR
  have hG1 := hR.1
  refine x_fr (pc := 506) [.int ((aPicture N g (xs (i + 1)) (xs (i + 2))).1)] rfl rfl ?_
  refine lv_aload_n hx hb d_L_law_506 rfl (lv_at hl 2 rfl) ?_
  refine lv_aload_n hx hb d_L_law_507 rfl (lv_at hl 0 rfl) ?_
  refine lv_iload_n hx hb d_L_law_508 rfl (lv_at hl 3 rfl) ?_
  refine lv_iconst (v := nI 1) hx hb d_L_law_509 (by decide) ?_
  refine lv_iadd hx hb d_L_law_510 ?_
  refine x_top (y := nI (i + 1)) (nI_add _ _) ?_
  refine va_sld hx hb hX hbl hbA hS (vp_in_nI (by omega) (by omega)) d_L_law_511 ?_
  refine x_top (y := xs (i + 1)) (by rw [nI_clamp (by omega)]) ?_
  refine lv_aload_n hx hb d_L_law_512 rfl (lv_at hl 0 rfl) ?_
  refine lv_iload_n hx hb d_L_law_513 rfl (lv_at hl 3 rfl) ?_
  refine lv_iconst (v := nI 2) hx hb d_L_law_514 (by decide) ?_
  refine lv_iadd hx hb d_L_law_515 ?_
  refine x_top (y := nI (i + 2)) (nI_add _ _) ?_
  refine va_sld hx hb hX hbl hbA hS (vp_in_nI (by omega) (by omega)) d_L_law_516 ?_
  refine x_top (y := xs (i + 2)) (by rw [nI_clamp (by omega)]) ?_
  refine xv_Q (n := 2) (As := [.int (xs (i + 1)), .int (xs (i + 2))]) (rest := [.int ((aPicture N g (xs (i + 1)) (xs (i + 2))).1)]) hx hb hml hown hg hK0 hP (c_M_picture l D T (lA s) _ bd K N q hz hM g hs c0 w hI (xs (i + 1)) (xs (i + 2))) w_521 w_6 w_518 w_519 w_520 (ma_0 hM) rfl rfl (by decide +kernel) ⟨Nat.le_of_ble_eq_true rfl, Nat.le_of_ble_eq_true rfl⟩ rfl hl.1 rfl (Nat.le_of_ble_eq_true rfl) hS ⟨Nat.le_of_ble_eq_true rfl, Nat.le_of_ble_eq_true rfl⟩ rfl rfl d_L_law_517 (fun r M1 H_493 L_494 hr hP hS => ?_)
  obtain ⟨rfl, q1, hR, hs1⟩ := hr
  have hG := gG_kept hG1 hd hR
  have hM := hR.1
  refine x_fr (pc := 520) [.int ((aPicture N g (xs (i + 1)) (xs (i + 2))).1), .int ((aPicture N g (xs (i + 1)) (xs (i + 2))).1)] rfl rfl ?_
  refine lv_icmp_eq (tgt := 691) hx hb d_L_law_520 (by decide) (fun c_520 => ?_) (fun c_520 => ?_)
  · exact kk _ _ _ ⟨_, _, _, _, hP, hS, hG, hM, hs1, (iG_picture hI _ _)⟩ ls hl
  · exact absurd rfl c_520
set_option maxHeartbeats 4000000 in
set_option maxRecDepth 100000 in
theorem lc_fallBack {p : Program} {l : Launch} {e : Env} {s : State} {m : MethodId} {below : List Frame} {meth : Method} {c : Code} {b L : Nat} {xs : Nat → Int32} {D : va_G} {T : Nat → ClassId} {ad : Nat → Nat → Nat → Nat} {bd : Nat → Nat} {K N i : Nat} (hL : L ≤ 2562) (C0 : lw_At p s m meth c b L xs) (hK0 : xK D T s) (hz : zB K N) (hd : dA ad bd N) (hi : i + 5 ≤ L) (kk : lC p l e s m below meth c b D T ad bd K N i 691) : lC p l e s m below meth c b D T ad bd K N i 525 := by
  intro Mx Hx Lx hI0 ls hl
  obtain ⟨g, q, c0, w, hP, hS, hG, hM, hs, hI⟩ := hI0
  obtain ⟨hx, hb, -, hml, hown, hts, hX, hbl, -, -⟩ := id C0
  have hown : s.vm.findClass "ShareGridLaw" = some m.cls := hown
  have hg : ∀ w ∈ gw, w.before #[Value.ref b] s = true := fun w hw => hts w (List.mem_filter.mp hw).1
  have hbA : ¬ lA s b := Nat.not_le.mpr hbl
  refine lv_aload_n hx hb d_L_law_525 rfl (lv_at hl 1 rfl) ?_
  refine lv_aload_n hx hb d_L_law_526 rfl (lv_at hl 0 rfl) ?_
  refine lv_iload_n hx hb d_L_law_527 rfl (lv_at hl 3 rfl) ?_
  refine lv_iconst (v := nI 1) hx hb d_L_law_528 (by decide) ?_
  refine lv_iadd hx hb d_L_law_529 ?_
  refine x_top (y := nI (i + 1)) (nI_add _ _) ?_
  refine va_sld hx hb hX hbl hbA hS (vp_in_nI (by omega) (by omega)) d_L_law_530 ?_
  refine x_top (y := xs (i + 1)) (by rw [nI_clamp (by omega)]) ?_
  refine lv_aload_n hx hb d_L_law_531 rfl (lv_at hl 0 rfl) ?_
  refine lv_iload_n hx hb d_L_law_532 rfl (lv_at hl 3 rfl) ?_
  refine lv_iconst (v := nI 2) hx hb d_L_law_533 (by decide) ?_
  refine lv_iadd hx hb d_L_law_534 ?_
  refine x_top (y := nI (i + 2)) (nI_add _ _) ?_
  refine va_sld hx hb hX hbl hbA hS (vp_in_nI (by omega) (by omega)) d_L_law_535 ?_
  refine x_top (y := xs (i + 2)) (by rw [nI_clamp (by omega)]) ?_
  refine xv_Q (n := 2) (As := [.int (xs (i + 1)), .int (xs (i + 2))]) (rest := []) hx hb hml hown hg hK0 hP (c_G_fallBack l D T (lA s) _ ad K N g hz hG c0 w hI (xs (i + 1)) (xs (i + 2))) w_321 w_1 w_318 w_319 w_320 (ga_0 hG) rfl rfl (by decide +kernel) ⟨Nat.le_of_ble_eq_true rfl, Nat.le_of_ble_eq_true rfl⟩ rfl hl.1 rfl (Nat.le_of_ble_eq_true rfl) hS ⟨Nat.le_of_ble_eq_true rfl, Nat.le_of_ble_eq_true rfl⟩ rfl rfl d_L_law_536 (fun r M1 H_495 L_496 hr hP hS => ?_)
  obtain ⟨rfl, hR⟩ := hr
  have hM := mG_kept hM hd hR
  have hG1 := hR.1
  refine x_fr (pc := 539) [.int ((aFall N g (xs (i + 1)) (xs (i + 2))).1)] rfl rfl ?_
  refine lv_aload_n hx hb d_L_law_539 rfl (lv_at hl 2 rfl) ?_
  refine lv_aload_n hx hb d_L_law_540 rfl (lv_at hl 0 rfl) ?_
  refine lv_iload_n hx hb d_L_law_541 rfl (lv_at hl 3 rfl) ?_
  refine lv_iconst (v := nI 1) hx hb d_L_law_542 (by decide) ?_
  refine lv_iadd hx hb d_L_law_543 ?_
  refine x_top (y := nI (i + 1)) (nI_add _ _) ?_
  refine va_sld hx hb hX hbl hbA hS (vp_in_nI (by omega) (by omega)) d_L_law_544 ?_
  refine x_top (y := xs (i + 1)) (by rw [nI_clamp (by omega)]) ?_
  refine lv_aload_n hx hb d_L_law_545 rfl (lv_at hl 0 rfl) ?_
  refine lv_iload_n hx hb d_L_law_546 rfl (lv_at hl 3 rfl) ?_
  refine lv_iconst (v := nI 2) hx hb d_L_law_547 (by decide) ?_
  refine lv_iadd hx hb d_L_law_548 ?_
  refine x_top (y := nI (i + 2)) (nI_add _ _) ?_
  refine va_sld hx hb hX hbl hbA hS (vp_in_nI (by omega) (by omega)) d_L_law_549 ?_
  refine x_top (y := xs (i + 2)) (by rw [nI_clamp (by omega)]) ?_
  refine xv_Q (n := 2) (As := [.int (xs (i + 1)), .int (xs (i + 2))]) (rest := [.int ((aFall N g (xs (i + 1)) (xs (i + 2))).1)]) hx hb hml hown hg hK0 hP (c_M_fallBack l D T (lA s) _ bd K N q hz hM g hs c0 w hI (xs (i + 1)) (xs (i + 2))) w_525 w_6 w_522 w_523 w_524 (ma_0 hM) rfl rfl (by decide +kernel) ⟨Nat.le_of_ble_eq_true rfl, Nat.le_of_ble_eq_true rfl⟩ rfl hl.1 rfl (Nat.le_of_ble_eq_true rfl) hS ⟨Nat.le_of_ble_eq_true rfl, Nat.le_of_ble_eq_true rfl⟩ rfl rfl d_L_law_550 (fun r M1 H_497 L_498 hr hP hS => ?_)
  obtain ⟨rfl, q1, hR, hs1⟩ := hr
  have hG := gG_kept hG1 hd hR
  have hM := hR.1
  refine x_fr (pc := 553) [.int ((aFall N g (xs (i + 1)) (xs (i + 2))).1), .int ((aFall N g (xs (i + 1)) (xs (i + 2))).1)] rfl rfl ?_
  refine lv_icmp_eq (tgt := 691) hx hb d_L_law_553 (by decide) (fun c_553 => ?_) (fun c_553 => ?_)
  · exact kk _ _ _ ⟨_, _, _, _, hP, hS, hG, hM, hs1, (iG_fall hI _ _)⟩ ls hl
  · exact absurd rfl c_553
set_option maxHeartbeats 4000000 in
set_option maxRecDepth 100000 in
theorem lc_wipe {p : Program} {l : Launch} {e : Env} {s : State} {m : MethodId} {below : List Frame} {meth : Method} {c : Code} {b L : Nat} {xs : Nat → Int32} {D : va_G} {T : Nat → ClassId} {ad : Nat → Nat → Nat → Nat} {bd : Nat → Nat} {K N i : Nat} (hL : L ≤ 2562) (C0 : lw_At p s m meth c b L xs) (hK0 : xK D T s) (hz : zB K N) (hd : dA ad bd N) (hi : i + 5 ≤ L) (kk : lC p l e s m below meth c b D T ad bd K N i 691) : lC p l e s m below meth c b D T ad bd K N i 558 := by
  intro Mx Hx Lx hI0 ls hl
  obtain ⟨g, q, c0, w, hP, hS, hG, hM, hs, hI⟩ := hI0
  obtain ⟨hx, hb, -, hml, hown, hts, hX, hbl, -, -⟩ := id C0
  have hown : s.vm.findClass "ShareGridLaw" = some m.cls := hown
  have hg : ∀ w ∈ gw, w.before #[Value.ref b] s = true := fun w hw => hts w (List.mem_filter.mp hw).1
  have hbA : ¬ lA s b := Nat.not_le.mpr hbl
  refine lv_aload_n hx hb d_L_law_558 rfl (lv_at hl 1 rfl) ?_
  refine lv_aload_n hx hb d_L_law_559 rfl (lv_at hl 0 rfl) ?_
  refine lv_iload_n hx hb d_L_law_560 rfl (lv_at hl 3 rfl) ?_
  refine lv_iconst (v := nI 1) hx hb d_L_law_561 (by decide) ?_
  refine lv_iadd hx hb d_L_law_562 ?_
  refine x_top (y := nI (i + 1)) (nI_add _ _) ?_
  refine va_sld hx hb hX hbl hbA hS (vp_in_nI (by omega) (by omega)) d_L_law_563 ?_
  refine x_top (y := xs (i + 1)) (by rw [nI_clamp (by omega)]) ?_
  refine lv_aload_n hx hb d_L_law_564 rfl (lv_at hl 0 rfl) ?_
  refine lv_iload_n hx hb d_L_law_565 rfl (lv_at hl 3 rfl) ?_
  refine lv_iconst (v := nI 2) hx hb d_L_law_566 (by decide) ?_
  refine lv_iadd hx hb d_L_law_567 ?_
  refine x_top (y := nI (i + 2)) (nI_add _ _) ?_
  refine va_sld hx hb hX hbl hbA hS (vp_in_nI (by omega) (by omega)) d_L_law_568 ?_
  refine x_top (y := xs (i + 2)) (by rw [nI_clamp (by omega)]) ?_
  refine xv_Q (n := 2) (As := [.int (xs (i + 1)), .int (xs (i + 2))]) (rest := []) hx hb hml hown hg hK0 hP (c_G_wipe l D T (lA s) _ ad K N g hz hG c0 hI.1 hI.2.1 (xs (i + 1)) (xs (i + 2))) w_325 w_1 w_322 w_323 w_324 (ga_0 hG) rfl rfl (by decide +kernel) ⟨Nat.le_of_ble_eq_true rfl, Nat.le_of_ble_eq_true rfl⟩ rfl hl.1 rfl (Nat.le_of_ble_eq_true rfl) hS ⟨Nat.le_of_ble_eq_true rfl, Nat.le_of_ble_eq_true rfl⟩ rfl rfl d_L_law_569 (fun r M1 H_499 L_500 hr hP hS => ?_)
  obtain ⟨rfl, hR⟩ := hr
  have hM := mG_kept hM hd hR
  have hG1 := hR.1
  refine x_fr (pc := 572) [.int ((aWipe N g (xs (i + 1)) (xs (i + 2))).1)] rfl rfl ?_
  refine lv_aload_n hx hb d_L_law_572 rfl (lv_at hl 2 rfl) ?_
  refine lv_aload_n hx hb d_L_law_573 rfl (lv_at hl 0 rfl) ?_
  refine lv_iload_n hx hb d_L_law_574 rfl (lv_at hl 3 rfl) ?_
  refine lv_iconst (v := nI 1) hx hb d_L_law_575 (by decide) ?_
  refine lv_iadd hx hb d_L_law_576 ?_
  refine x_top (y := nI (i + 1)) (nI_add _ _) ?_
  refine va_sld hx hb hX hbl hbA hS (vp_in_nI (by omega) (by omega)) d_L_law_577 ?_
  refine x_top (y := xs (i + 1)) (by rw [nI_clamp (by omega)]) ?_
  refine lv_aload_n hx hb d_L_law_578 rfl (lv_at hl 0 rfl) ?_
  refine lv_iload_n hx hb d_L_law_579 rfl (lv_at hl 3 rfl) ?_
  refine lv_iconst (v := nI 2) hx hb d_L_law_580 (by decide) ?_
  refine lv_iadd hx hb d_L_law_581 ?_
  refine x_top (y := nI (i + 2)) (nI_add _ _) ?_
  refine va_sld hx hb hX hbl hbA hS (vp_in_nI (by omega) (by omega)) d_L_law_582 ?_
  refine x_top (y := xs (i + 2)) (by rw [nI_clamp (by omega)]) ?_
  refine xv_Q (n := 2) (As := [.int (xs (i + 1)), .int (xs (i + 2))]) (rest := [.int ((aWipe N g (xs (i + 1)) (xs (i + 2))).1)]) hx hb hml hown hg hK0 hP (c_M_wipe l D T (lA s) _ bd K N q hz hM g hs c0 w hI (xs (i + 1)) (xs (i + 2))) w_529 w_6 w_526 w_527 w_528 (ma_0 hM) rfl rfl (by decide +kernel) ⟨Nat.le_of_ble_eq_true rfl, Nat.le_of_ble_eq_true rfl⟩ rfl hl.1 rfl (Nat.le_of_ble_eq_true rfl) hS ⟨Nat.le_of_ble_eq_true rfl, Nat.le_of_ble_eq_true rfl⟩ rfl rfl d_L_law_583 (fun r M1 H_501 L_502 hr hP hS => ?_)
  obtain ⟨rfl, q1, hR, hs1⟩ := hr
  have hG := gG_kept hG1 hd hR
  have hM := hR.1
  refine x_fr (pc := 586) [.int ((aWipe N g (xs (i + 1)) (xs (i + 2))).1), .int ((aWipe N g (xs (i + 1)) (xs (i + 2))).1)] rfl rfl ?_
  refine lv_icmp_eq (tgt := 691) hx hb d_L_law_586 (by decide) (fun c_586 => ?_) (fun c_586 => ?_)
  · exact kk _ _ _ ⟨_, _, _, _, hP, hS, hG, hM, hs1, (iG_wipe hI _ _)⟩ ls hl
  · exact absurd rfl c_586
set_option maxHeartbeats 4000000 in
set_option maxRecDepth 100000 in
theorem lc_share {p : Program} {l : Launch} {e : Env} {s : State} {m : MethodId} {below : List Frame} {meth : Method} {c : Code} {b L : Nat} {xs : Nat → Int32} {D : va_G} {T : Nat → ClassId} {ad : Nat → Nat → Nat → Nat} {bd : Nat → Nat} {K N i : Nat} (hL : L ≤ 2562) (C0 : lw_At p s m meth c b L xs) (hK0 : xK D T s) (hz : zB K N) (hd : dA ad bd N) (hi : i + 5 ≤ L) (kk : lC p l e s m below meth c b D T ad bd K N i 691) : lC p l e s m below meth c b D T ad bd K N i 591 := by
  intro Mx Hx Lx hI0 ls hl
  obtain ⟨g, q, c0, w, hP, hS, hG, hM, hs, hI⟩ := hI0
  obtain ⟨hx, hb, -, hml, hown, hts, hX, hbl, -, -⟩ := id C0
  have hown : s.vm.findClass "ShareGridLaw" = some m.cls := hown
  have hg : ∀ w ∈ gw, w.before #[Value.ref b] s = true := fun w hw => hts w (List.mem_filter.mp hw).1
  have hbA : ¬ lA s b := Nat.not_le.mpr hbl
  refine lv_aload_n hx hb d_L_law_591 rfl (lv_at hl 1 rfl) ?_
  refine lv_aload_n hx hb d_L_law_592 rfl (lv_at hl 0 rfl) ?_
  refine lv_iload_n hx hb d_L_law_593 rfl (lv_at hl 3 rfl) ?_
  refine lv_iconst (v := nI 1) hx hb d_L_law_594 (by decide) ?_
  refine lv_iadd hx hb d_L_law_595 ?_
  refine x_top (y := nI (i + 1)) (nI_add _ _) ?_
  refine va_sld hx hb hX hbl hbA hS (vp_in_nI (by omega) (by omega)) d_L_law_596 ?_
  refine x_top (y := xs (i + 1)) (by rw [nI_clamp (by omega)]) ?_
  refine lv_aload_n hx hb d_L_law_597 rfl (lv_at hl 0 rfl) ?_
  refine lv_iload_n hx hb d_L_law_598 rfl (lv_at hl 3 rfl) ?_
  refine lv_iconst (v := nI 2) hx hb d_L_law_599 (by decide) ?_
  refine lv_iadd hx hb d_L_law_600 ?_
  refine x_top (y := nI (i + 2)) (nI_add _ _) ?_
  refine va_sld hx hb hX hbl hbA hS (vp_in_nI (by omega) (by omega)) d_L_law_601 ?_
  refine x_top (y := xs (i + 2)) (by rw [nI_clamp (by omega)]) ?_
  refine lv_aload_n hx hb d_L_law_602 rfl (lv_at hl 0 rfl) ?_
  refine lv_iload_n hx hb d_L_law_603 rfl (lv_at hl 3 rfl) ?_
  refine lv_iconst (v := nI 3) hx hb d_L_law_604 (by decide) ?_
  refine lv_iadd hx hb d_L_law_605 ?_
  refine x_top (y := nI (i + 3)) (nI_add _ _) ?_
  refine va_sld hx hb hX hbl hbA hS (vp_in_nI (by omega) (by omega)) d_L_law_606 ?_
  refine x_top (y := xs (i + 3)) (by rw [nI_clamp (by omega)]) ?_
  refine xv_R (n := 3) (As := [.int (xs (i + 1)), .int (xs (i + 2)), .int (xs (i + 3))]) (rest := []) hx hb hml hown hg hK0 hP (c_G_share l D T (lA s) _ ad K N g hz hG c0 w hI (xs (i + 1)) (xs (i + 2)) (xs (i + 3))) w_329 w_1 w_326 w_327 w_328 (ga_0 hG) rfl rfl (by decide +kernel) ⟨Nat.le_of_ble_eq_true rfl, Nat.le_of_ble_eq_true rfl⟩ rfl hl.1 rfl (Nat.le_of_ble_eq_true rfl) ⟨Nat.le_of_ble_eq_true rfl, Nat.le_of_ble_eq_true rfl⟩ rfl rfl d_L_law_607 (fun r hr => ?_)
  subst hr
  refine x_fr (pc := 610) [.long (aShare N g (xs (i + 1)) (xs (i + 2)) (xs (i + 3)))] rfl rfl ?_
  refine lv_aload_n hx hb d_L_law_610 rfl (lv_at hl 2 rfl) ?_
  refine lv_aload_n hx hb d_L_law_611 rfl (lv_at hl 0 rfl) ?_
  refine lv_iload_n hx hb d_L_law_612 rfl (lv_at hl 3 rfl) ?_
  refine lv_iconst (v := nI 1) hx hb d_L_law_613 (by decide) ?_
  refine lv_iadd hx hb d_L_law_614 ?_
  refine x_top (y := nI (i + 1)) (nI_add _ _) ?_
  refine va_sld hx hb hX hbl hbA hS (vp_in_nI (by omega) (by omega)) d_L_law_615 ?_
  refine x_top (y := xs (i + 1)) (by rw [nI_clamp (by omega)]) ?_
  refine lv_aload_n hx hb d_L_law_616 rfl (lv_at hl 0 rfl) ?_
  refine lv_iload_n hx hb d_L_law_617 rfl (lv_at hl 3 rfl) ?_
  refine lv_iconst (v := nI 2) hx hb d_L_law_618 (by decide) ?_
  refine lv_iadd hx hb d_L_law_619 ?_
  refine x_top (y := nI (i + 2)) (nI_add _ _) ?_
  refine va_sld hx hb hX hbl hbA hS (vp_in_nI (by omega) (by omega)) d_L_law_620 ?_
  refine x_top (y := xs (i + 2)) (by rw [nI_clamp (by omega)]) ?_
  refine lv_aload_n hx hb d_L_law_621 rfl (lv_at hl 0 rfl) ?_
  refine lv_iload_n hx hb d_L_law_622 rfl (lv_at hl 3 rfl) ?_
  refine lv_iconst (v := nI 3) hx hb d_L_law_623 (by decide) ?_
  refine lv_iadd hx hb d_L_law_624 ?_
  refine x_top (y := nI (i + 3)) (nI_add _ _) ?_
  refine va_sld hx hb hX hbl hbA hS (vp_in_nI (by omega) (by omega)) d_L_law_625 ?_
  refine x_top (y := xs (i + 3)) (by rw [nI_clamp (by omega)]) ?_
  refine xv_R (n := 3) (As := [.int (xs (i + 1)), .int (xs (i + 2)), .int (xs (i + 3))]) (rest := [.long (aShare N g (xs (i + 1)) (xs (i + 2)) (xs (i + 3)))]) hx hb hml hown hg hK0 hP (c_M_share l D T (lA s) _ bd K N q hz hM g hs c0 w hI (xs (i + 1)) (xs (i + 2)) (xs (i + 3))) w_533 w_6 w_530 w_531 w_532 (ma_0 hM) rfl rfl (by decide +kernel) ⟨Nat.le_of_ble_eq_true rfl, Nat.le_of_ble_eq_true rfl⟩ rfl hl.1 rfl (Nat.le_of_ble_eq_true rfl) ⟨Nat.le_of_ble_eq_true rfl, Nat.le_of_ble_eq_true rfl⟩ rfl rfl d_L_law_626 (fun r hr => ?_)
  subst hr
  refine x_fr (pc := 629) [.long (aShare N g (xs (i + 1)) (xs (i + 2)) (xs (i + 3))), .long (aShare N g (xs (i + 1)) (xs (i + 2)) (xs (i + 3)))] rfl rfl ?_
  refine W.lcmp hx hb d_L_law_629 ?_
  refine x_top (y := 0) (lg_cmp_s _) ?_
  refine lv_if_eq (tgt := 691) hx hb d_L_law_630 (by decide) (fun c_630 => ?_) (fun c_630 => ?_)
  · exact kk _ _ _ ⟨_, _, _, _, hP, hS, hG, hM, hs, hI⟩ ls hl
  · exact absurd rfl c_630
set_option maxHeartbeats 4000000 in
set_option maxRecDepth 100000 in
theorem lc_times {p : Program} {l : Launch} {e : Env} {s : State} {m : MethodId} {below : List Frame} {meth : Method} {c : Code} {b L : Nat} {xs : Nat → Int32} {D : va_G} {T : Nat → ClassId} {ad : Nat → Nat → Nat → Nat} {bd : Nat → Nat} {K N i : Nat} (hL : L ≤ 2562) (C0 : lw_At p s m meth c b L xs) (hK0 : xK D T s) (hz : zB K N) (hd : dA ad bd N) (hi : i + 5 ≤ L) (kk : lC p l e s m below meth c b D T ad bd K N i 691) : lC p l e s m below meth c b D T ad bd K N i 635 := by
  intro Mx Hx Lx hI0 ls hl
  obtain ⟨g, q, c0, w, hP, hS, hG, hM, hs, hI⟩ := hI0
  obtain ⟨hx, hb, -, hml, hown, hts, hX, hbl, -, -⟩ := id C0
  have hown : s.vm.findClass "ShareGridLaw" = some m.cls := hown
  have hg : ∀ w ∈ gw, w.before #[Value.ref b] s = true := fun w hw => hts w (List.mem_filter.mp hw).1
  have hbA : ¬ lA s b := Nat.not_le.mpr hbl
  refine lv_aload_n hx hb d_L_law_635 rfl (lv_at hl 1 rfl) ?_
  refine lv_aload_n hx hb d_L_law_636 rfl (lv_at hl 0 rfl) ?_
  refine lv_iload_n hx hb d_L_law_637 rfl (lv_at hl 3 rfl) ?_
  refine lv_iconst (v := nI 1) hx hb d_L_law_638 (by decide) ?_
  refine lv_iadd hx hb d_L_law_639 ?_
  refine x_top (y := nI (i + 1)) (nI_add _ _) ?_
  refine va_sld hx hb hX hbl hbA hS (vp_in_nI (by omega) (by omega)) d_L_law_640 ?_
  refine x_top (y := xs (i + 1)) (by rw [nI_clamp (by omega)]) ?_
  refine lv_aload_n hx hb d_L_law_641 rfl (lv_at hl 0 rfl) ?_
  refine lv_iload_n hx hb d_L_law_642 rfl (lv_at hl 3 rfl) ?_
  refine lv_iconst (v := nI 2) hx hb d_L_law_643 (by decide) ?_
  refine lv_iadd hx hb d_L_law_644 ?_
  refine x_top (y := nI (i + 2)) (nI_add _ _) ?_
  refine va_sld hx hb hX hbl hbA hS (vp_in_nI (by omega) (by omega)) d_L_law_645 ?_
  refine x_top (y := xs (i + 2)) (by rw [nI_clamp (by omega)]) ?_
  refine xv_R (n := 2) (As := [.int (xs (i + 1)), .int (xs (i + 2))]) (rest := []) hx hb hml hown hg hK0 hP (c_G_times l D T (lA s) _ ad K N g hz hG (xs (i + 1)) (xs (i + 2))) w_333 w_1 w_330 w_331 w_332 (ga_0 hG) rfl rfl (by decide +kernel) ⟨Nat.le_of_ble_eq_true rfl, Nat.le_of_ble_eq_true rfl⟩ rfl hl.1 rfl (Nat.le_of_ble_eq_true rfl) ⟨Nat.le_of_ble_eq_true rfl, Nat.le_of_ble_eq_true rfl⟩ rfl rfl d_L_law_646 (fun r hr => ?_)
  subst hr
  refine x_fr (pc := 649) [.int (aTimes (xs (i + 1)) (xs (i + 2)))] rfl rfl ?_
  refine lv_aload_n hx hb d_L_law_649 rfl (lv_at hl 2 rfl) ?_
  refine lv_aload_n hx hb d_L_law_650 rfl (lv_at hl 0 rfl) ?_
  refine lv_iload_n hx hb d_L_law_651 rfl (lv_at hl 3 rfl) ?_
  refine lv_iconst (v := nI 1) hx hb d_L_law_652 (by decide) ?_
  refine lv_iadd hx hb d_L_law_653 ?_
  refine x_top (y := nI (i + 1)) (nI_add _ _) ?_
  refine va_sld hx hb hX hbl hbA hS (vp_in_nI (by omega) (by omega)) d_L_law_654 ?_
  refine x_top (y := xs (i + 1)) (by rw [nI_clamp (by omega)]) ?_
  refine lv_aload_n hx hb d_L_law_655 rfl (lv_at hl 0 rfl) ?_
  refine lv_iload_n hx hb d_L_law_656 rfl (lv_at hl 3 rfl) ?_
  refine lv_iconst (v := nI 2) hx hb d_L_law_657 (by decide) ?_
  refine lv_iadd hx hb d_L_law_658 ?_
  refine x_top (y := nI (i + 2)) (nI_add _ _) ?_
  refine va_sld hx hb hX hbl hbA hS (vp_in_nI (by omega) (by omega)) d_L_law_659 ?_
  refine x_top (y := xs (i + 2)) (by rw [nI_clamp (by omega)]) ?_
  refine xv_R (n := 2) (As := [.int (xs (i + 1)), .int (xs (i + 2))]) (rest := [.int (aTimes (xs (i + 1)) (xs (i + 2)))]) hx hb hml hown hg hK0 hP (c_M_times l D T (lA s) _ bd K N q hz hM (xs (i + 1)) (xs (i + 2))) w_537 w_6 w_534 w_535 w_536 (ma_0 hM) rfl rfl (by decide +kernel) ⟨Nat.le_of_ble_eq_true rfl, Nat.le_of_ble_eq_true rfl⟩ rfl hl.1 rfl (Nat.le_of_ble_eq_true rfl) ⟨Nat.le_of_ble_eq_true rfl, Nat.le_of_ble_eq_true rfl⟩ rfl rfl d_L_law_660 (fun r hr => ?_)
  subst hr
  refine x_fr (pc := 663) [.int (aTimes (xs (i + 1)) (xs (i + 2))), .int (aTimes (xs (i + 1)) (xs (i + 2)))] rfl rfl ?_
  refine lv_icmp_eq (tgt := 691) hx hb d_L_law_663 (by decide) (fun c_663 => ?_) (fun c_663 => ?_)
  · exact kk _ _ _ ⟨_, _, _, _, hP, hS, hG, hM, hs, hI⟩ ls hl
  · exact absurd rfl c_663
set_option maxHeartbeats 4000000 in
set_option maxRecDepth 100000 in
theorem lc_count {p : Program} {l : Launch} {e : Env} {s : State} {m : MethodId} {below : List Frame} {meth : Method} {c : Code} {b L : Nat} {xs : Nat → Int32} {D : va_G} {T : Nat → ClassId} {ad : Nat → Nat → Nat → Nat} {bd : Nat → Nat} {K N i : Nat} (hL : L ≤ 2562) (C0 : lw_At p s m meth c b L xs) (hK0 : xK D T s) (hz : zB K N) (hd : dA ad bd N) (hi : i + 5 ≤ L) (kk : lC p l e s m below meth c b D T ad bd K N i 691) : lC p l e s m below meth c b D T ad bd K N i 668 := by
  intro Mx Hx Lx hI0 ls hl
  obtain ⟨g, q, c0, w, hP, hS, hG, hM, hs, hI⟩ := hI0
  obtain ⟨hx, hb, -, hml, hown, hts, hX, hbl, -, -⟩ := id C0
  have hown : s.vm.findClass "ShareGridLaw" = some m.cls := hown
  have hg : ∀ w ∈ gw, w.before #[Value.ref b] s = true := fun w hw => hts w (List.mem_filter.mp hw).1
  have hbA : ¬ lA s b := Nat.not_le.mpr hbl
  refine lv_aload_n hx hb d_L_law_668 rfl (lv_at hl 1 rfl) ?_
  refine lv_aload_n hx hb d_L_law_669 rfl (lv_at hl 0 rfl) ?_
  refine lv_iload_n hx hb d_L_law_670 rfl (lv_at hl 3 rfl) ?_
  refine lv_iconst (v := nI 1) hx hb d_L_law_671 (by decide) ?_
  refine lv_iadd hx hb d_L_law_672 ?_
  refine x_top (y := nI (i + 1)) (nI_add _ _) ?_
  refine va_sld hx hb hX hbl hbA hS (vp_in_nI (by omega) (by omega)) d_L_law_673 ?_
  refine x_top (y := xs (i + 1)) (by rw [nI_clamp (by omega)]) ?_
  refine xv_R (n := 1) (As := [.int (xs (i + 1))]) (rest := []) hx hb hml hown hg hK0 hP (c_G_count l D T (lA s) _ ad K N g hz hG c0 w hI (xs (i + 1))) w_340 w_1 w_337 w_338 w_339 (ga_0 hG) rfl rfl (by decide +kernel) ⟨Nat.le_of_ble_eq_true rfl, Nat.le_of_ble_eq_true rfl⟩ rfl hl.1 rfl (Nat.le_of_ble_eq_true rfl) ⟨Nat.le_of_ble_eq_true rfl, Nat.le_of_ble_eq_true rfl⟩ rfl rfl d_L_law_674 (fun r hr => ?_)
  subst hr
  refine x_fr (pc := 677) [.int (aCount K N g c0 (xs (i + 1)))] rfl rfl ?_
  refine lv_aload_n hx hb d_L_law_677 rfl (lv_at hl 2 rfl) ?_
  refine lv_aload_n hx hb d_L_law_678 rfl (lv_at hl 0 rfl) ?_
  refine lv_iload_n hx hb d_L_law_679 rfl (lv_at hl 3 rfl) ?_
  refine lv_iconst (v := nI 1) hx hb d_L_law_680 (by decide) ?_
  refine lv_iadd hx hb d_L_law_681 ?_
  refine x_top (y := nI (i + 1)) (nI_add _ _) ?_
  refine va_sld hx hb hX hbl hbA hS (vp_in_nI (by omega) (by omega)) d_L_law_682 ?_
  refine x_top (y := xs (i + 1)) (by rw [nI_clamp (by omega)]) ?_
  refine xv_R (n := 1) (As := [.int (xs (i + 1))]) (rest := [.int (aCount K N g c0 (xs (i + 1)))]) hx hb hml hown hg hK0 hP (c_M_count l D T (lA s) _ bd K N q hz hM g hs c0 w hI (xs (i + 1))) w_541 w_6 w_538 w_539 w_540 (ma_0 hM) rfl rfl (by decide +kernel) ⟨Nat.le_of_ble_eq_true rfl, Nat.le_of_ble_eq_true rfl⟩ rfl hl.1 rfl (Nat.le_of_ble_eq_true rfl) ⟨Nat.le_of_ble_eq_true rfl, Nat.le_of_ble_eq_true rfl⟩ rfl rfl d_L_law_683 (fun r hr => ?_)
  subst hr
  refine x_fr (pc := 686) [.int (aCount K N g c0 (xs (i + 1))), .int (aCount K N g c0 (xs (i + 1)))] rfl rfl ?_
  refine lv_icmp_eq (tgt := 691) hx hb d_L_law_686 (by decide) (fun c_686 => ?_) (fun c_686 => ?_)
  · exact kk _ _ _ ⟨_, _, _, _, hP, hS, hG, hM, hs, hI⟩ ls hl
  · exact absurd rfl c_686
