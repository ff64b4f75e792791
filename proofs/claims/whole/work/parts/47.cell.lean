def xPx (b L : Nat) (xs : Nat → Int32) (av : List Value) : Array Value → State → Prop := fun v U => v = av.toArray ∧ va_X b L xs U U.heap
theorem xPx_blind {b L : Nat} {xs : Nat → Int32} {av : List Value} : FrameBlind (xPx b L xs av) := fun a U g mk q => ⟨q.1, va_X.moved (u := U) (U := U.calling g mk a) (Vm.Alike.refl U.vm) q.2⟩
section XX
variable {p : Program} {l : Launch} {e : Env} {R : Room} {s : State} {m : MethodId} {args : Array Value} {below : List Frame} {meth : Method} {c : Code} {H : Heap} {locs : List Loc} {cells slots : Nat} {Q : State → Prop}
variable {cc : ByteArray} {pc : Nat} {ls : Array Slot} {rest : List Value} {D : va_G} {T : Nat → ClassId} {A : Nat → Prop} {M : xM} {H0 : Heap}
theorem xs_X {y : MethodName} {bytes : ByteArray} {maxL nL index n : Nat} {own : String} {ret : Option FieldType} {rm : Room} {As st0 : List Value} {post : Option Value → Prop} (hexec : p.tables.exec = Jvm.exec) (hb : c.code = cc) (hml : c.maxLocals = nL) (hown : s.vm.findClass own = some m.cls) (hg : ∀ w ∈ gw, w.before args s = true) {bx Lx : Nat} {xx : Nat → Int32} (hX : va_X bx Lx xx s H) (hM : Met l y (Cond.code y bytes maxL ret :: gw) rm (xPx bx Lx xx As) (xR post) 0 0 (fun _ => False)) (m1 : Cond.code y bytes maxL ret ∈ gw) (m2 : Cond.initialized y.cls ∈ gw) (m3 : Cond.methodLink own index y ∈ gw) (m4 : Cond.static y ∈ gw)  (hd : y.cls ≠ "java/lang/invoke/MethodHandle" ∧ y.cls ≠ "java/lang/invoke/VarHandle" ∧ (parseMethodDescriptor y.desc).map (fun d => d.parameters.length) = some n) (hR : rm.frames + 1 ≤ R.frames ∧ 8 + (maxL + 11) + rm.locals ≤ R.locals) (hn : As.length = n) (hsize : ls.size = nL) (hstack : st0 = As.reverse ++ rest) (hW : (rest.map fun v => v.category).sum ≤ 8) (hf : cells ≤ R.cells ∧ slots ≤ R.slots) (hrc : rm.cells = 0) (hrs : rm.slots = 0)  (hdg : decode cc pc = .ok (.invokestatic index, 3))
    (kk : ∀ r : Option Value, post r → W p l e R s m args below meth c H locs cells slots Q (F0 m (pc + 3) ls (r.toList ++ rest))) : W p l e R s m args below meth c H locs cells slots Q (F0 m pc ls st0) := by
  subst hstack
  exact x_callR (va_runS (As := As) (rest := rest) ⟨hexec, hb, hml, hown, hg⟩ hM (gS n hg m1 m2 m3 m4 hrc hrs hd hR) ⟨xPx_blind, fun U hU hW => ⟨rfl, by rw [hU]; exact va_X.moved hW.alike hX⟩⟩ rfl hn hsize rfl (lv_room hW) hdg ⟨hf.1, hf.2⟩) kk
end XX
theorem xMetXi {l : Launch} {y : MethodName} {rm : Room} {av : List Value} {cc : ByteArray} {maxL b L : Nat} {xs : Nat → Int32} {post : Option Value → Prop} (hy : plainName y.cls = true) (hlen : (lg_sl av).length ≤ maxL)
    (body : ∀ (p : Program) (e : Env) (s : State) (m : MethodId) (below : List Frame) (meth : Method) (c : Code) (Q : State → Prop) (ls : Array Slot), p.tables.exec = Jvm.exec → c.code = cc → va_X b L xs s s.heap → lv_has ls maxL (lv_args 0 av) →
      (∀ (pc : Nat) (ls : Array Slot) (v : Int32), decode cc pc = .ok (.ireturn, 1) → post (some (.int v)) → W p l e rm s m av.toArray below meth c s.heap [] 0 0 Q (F0 m pc ls [.int v])) →
      W p l e rm s m av.toArray below meth c s.heap [] 0 0 Q (F0 m 0 ls [])) : Met l y (Cond.code y cc maxL (some .int) :: gw) rm (xPx b L xs av) (xR post) 0 0 (fun _ => False) := by
  refine Met.ofW (cc := cc) (maxL := maxL) (ret := (some .int)) hy rfl ?_
  intro p e s m args below meth c s₁ B hml hv
  obtain ⟨rfl, hX⟩ := hv
  have hlocks := B.notSynchronized
  rw [lg_entry_eq]
  exact body p e s m below meth c _ _ B.exec B.bytes hX (lv_entry av hlen)
    (fun pc ls v hd hp => W.iret (v := v) B.exec B.bytes B.returns (fun t ht _ => ⟨_, rfl, hp, ht⟩) (fun _ h => by cases h) hd)
set_option maxHeartbeats 4000000 in
set_option maxRecDepth 100000 in
theorem c_L_cell (l : Launch) (b L : Nat) (xs : Nat → Int32) (k : Nat) (hk : k < 2 ^ 31) (hL : L < 2 ^ 31) : Met l y_L_cell (Cond.code y_L_cell b_L_cell 2 (some .int) :: gw) (rmH 0) (xPx b L xs [.ref b, .int (nI k)]) (xR (fun r => r = some (.int (if k < L then xs k else 0)))) 0 0 (fun _ => False) := by
  refine xMetXi (by decide) (Nat.le_of_ble_eq_true rfl) ?_
  intro p e s m below meth c Q ls hx hb hX hl hret
  have hbl : b < s.heap.size := by
    obtain ⟨scr, h1, -⟩ := hX
    exact (Array.getElem?_eq_some_iff.mp h1).1
  have hS : va_S (fun _ => False) s.heap s.heap [] := va_S.rf
  have hl : lv_has ls 2 [(0, .ref b), (1, .int (nI k))] := hl
  refine lv_iload_n hx hb d_L_cell_0 rfl (lv_at hl 1 rfl) ?_
  refine lv_aload_n hx hb d_L_cell_1 rfl (lv_at hl 0 rfl) ?_
  refine va_slen hx hb hX hbl (fun z => z) hS d_L_cell_2 ?_
  refine x_top (y := nI L) rfl ?_
  refine x_nc_ge (tgt := 12) hx hb d_L_cell_3 (by decide) (by omega) (by omega) (fun hc => ?_) (fun hc => ?_)
  · refine lv_iconst (v := nI 0) hx hb d_L_cell_12 (by decide) ?_
    exact hret _ _ _ d_L_cell_13 (by rw [if_neg (by omega)]; rfl)
  · refine lv_aload_n hx hb d_L_cell_6 rfl (lv_at hl 0 rfl) ?_
    refine lv_iload_n hx hb d_L_cell_7 rfl (lv_at hl 1 rfl) ?_
    refine va_sld hx hb hX hbl (fun z => z) hS (vp_in_nI (by omega) (by omega)) d_L_cell_8 ?_
    refine x_top (y := xs k) (by rw [nI_clamp (by omega)]) ?_
    refine lv_goto (tgt := 13) hx hb d_L_cell_9 (by decide) ?_
    exact hret _ _ _ d_L_cell_13 (by rw [if_pos (by omega)])
